theorem k_376832 : m_cg 376832 = g_92_0 := rfl
theorem k_376846 : m_cg 376846 = g_92_14 := rfl
theorem k_376876 : m_cg 376876 = g_92_44 := rfl
theorem k_376886 : m_cg 376886 = g_92_54 := rfl
theorem k_376896 : m_cg 376896 = g_92_64 := rfl
theorem k_376905 : m_cg 376905 = g_92_73 := rfl
theorem k_376915 : m_cg 376915 = g_92_83 := rfl
theorem c_told {g : w_G} {o : w_O} {h : m_H} {d : Nat} {Q : Option m_V → m_H → Prop} (iv : w_Inv g o h) {house : Int} {what : Int} (house_lo : -2147483648 ≤ house) (house_hi : house ≤ 2147483647) (what_lo : -2147483648 ≤ what) (what_hi : what ≤ 2147483647) (k0 : ∀ (x : Int), -2147483648 ≤ x → x ≤ 2147483647 → Q (some (.inl (w_i x))) h) : wp (d + 1) 376832 [.inr (.inl (some 0)), .inl (w_i house), .inl (w_i what)] [] h Q := by
  have W := iv_wc iv
  refine w_run k_376832 (w_al (fun _ => rfl) ?_)
  obtain ⟨_, m1, rfl⟩ := iv_0 iv
  refine w_getf m1 rfl (fun _ => rfl) (w_il (fun _ => rfl) ?_)
  obtain ⟨_, m2, kp2, sp2, rl2, rfl, l2_kp, u2_kp, l2_sp, u2_sp, l2_rl, u2_rl, f2_0, f2_1⟩ := iv_1 iv
  refine w_this (fun _ => rfl) m2 ?_
  refine w_ca (fun _ => rfl) rfl (c_isHouse (d := d) iv (n := house) (by omega) (by omega)   (fun b3 b4 => ⟨_, rfl, ?_⟩) (fun b5 => ⟨_, rfl, ?_⟩))
  · refine w_nezt (by omega) (by omega) (by omega)  (w_run k_376846 (w_il (fun _ => rfl) ?_))
    by_cases c6 : what = 0
    · rw [show (what : Int) = 0 from c6]
      refine w_tsw (t := 376876) (fun _ => rfl) (w_run k_376876 (w_al (fun _ => rfl) (w_getf m1 rfl (fun _ => rfl) (w_getf m2 rfl (fun _ => rfl) (w_il (fun _ => rfl) ?_)))))
      obtain ⟨_, m7, A7, rfl, e7⟩ := iv_3 iv
      refine w_aldI m7 (by omega) (by omega) (by omega) ?_
      obtain ⟨b8, b9⟩ := ag_rg A7 house
      have e10 := e7 house (by omega) (by omega)
      refine w_ri ?_
      exact k0 (a_g A7 house) (by omega) (by omega)
    by_cases c11 : what = 1
    · rw [show (what : Int) = 1 from c11]
      refine w_tsw (t := 376886) (fun _ => rfl) (w_run k_376886 (w_al (fun _ => rfl) (w_getf m1 rfl (fun _ => rfl) (w_getf m2 rfl (fun _ => rfl) (w_il (fun _ => rfl) ?_)))))
      obtain ⟨_, m12, A12, rfl⟩ := iv_4 iv
      refine w_aldI m12 (by omega) (by omega) (by omega) ?_
      obtain ⟨b13, b14⟩ := ag_rg A12 house
      refine w_ri ?_
      exact k0 (a_g A12 house) (by omega) (by omega)
    by_cases c15 : what = 2
    · rw [show (what : Int) = 2 from c15]
      refine w_tsw (t := 376896) (fun _ => rfl) (w_run k_376896 (w_al (fun _ => rfl) (w_getf m1 rfl (fun _ => rfl) (w_il (fun _ => rfl) (w_this (fun _ => rfl) m2 ?_)))))
      refine w_ca (fun _ => rfl) rfl (c_keepBit (d := d) iv (n := house) (by omega) (by omega)   (fun y16 b17 b18 b19 b20 => ⟨_, rfl, ?_⟩))
      refine w_ri ?_
      exact k0 y16 (by omega) (by omega)
    by_cases c21 : what = 3
    · rw [show (what : Int) = 3 from c21]
      refine w_tsw (t := 376905) (fun _ => rfl) (w_run k_376905 (w_al (fun _ => rfl) (w_getf m1 rfl (fun _ => rfl) (w_getf m2 rfl (fun _ => rfl) (w_il (fun _ => rfl) ?_)))))
      obtain ⟨_, m22, A22, rfl, e22⟩ := iv_2 iv
      refine w_aldI m22 (by omega) (by omega) (by omega) ?_
      obtain ⟨b23, b24⟩ := ag_rg A22 house
      have e25 := e22 house (by omega) (by omega)
      refine w_ri ?_
      exact k0 (a_g A22 house) (by omega) (by omega)
    refine w_tswD (by omega) (by omega) (by show _ ∨ ((4 : Nat) : Int) ≤ _; omega) (by decide) (w_run k_376915 (w_icI (x := (-2)) wn_2 (w_ri ?_)))
    exact k0 (-2) (by omega) (by omega)
  · refine w_nezf (by omega) (by omega) (by omega)  (w_icI (x := (-2)) wn_2 (w_ri ?_))
    exact k0 (-2) (by omega) (by omega)
theorem k_53248 : m_cg 53248 = g_13_0 := rfl
theorem k_53260 : m_cg 53260 = g_13_12 := rfl
theorem c_put {g : w_G} {o : w_O} {h : m_H} {d : Nat} {Q : Option m_V → m_H → Prop} (iv : w_Inv g o h) {le : Int} (le_lo : -2147483648 ≤ le) (le_hi : le ≤ 2147483647) (l0 : 0 ≤ le) (l1 : le ≤ 255) (k0 : ∀ h2 : m_H, w_Inv g o h2 → w_fr o [18, 19] h h2 → Q (some (.inl (w_i 1))) h2) (k1 : ∀ h2 : m_H, w_Inv g o h2 → w_fr o [18, 19] h h2 → Q (some (.inl (w_i 0))) h2) : wp d 53248 [.inr (.inl (some 18)), .inl (w_i le)] [] h Q := by
  have F := fr_rf (o := o) (h := h) (W := [18, 19])
  have W := iv_wc iv
  refine w_run k_53248 (w_al (fun _ => rfl) ?_)
  obtain ⟨_, m1, siz1, atp1, tok1, flt1, wri1, rfl, l1_siz, u1_siz, l1_atp, u1_atp, l1_tok, u1_tok, l1_flt, u1_flt, l1_wri, u1_wri, f1_0, f1_1, f1_2, f1_3, f1_4, f1_5, f1_6⟩ := iv_18 iv
  refine w_getf m1 rfl (fun _ => rfl) (w_icI (x := 160) rfl ?_)
  refine w_lt2 (by omega) (by omega) (by omega) (by omega)  (fun c2 => ?_) (fun c2 => ?_)
  · refine w_run k_53260 (w_al (fun _ => rfl) (w_getf m1 rfl (fun _ => rfl) (w_al (fun _ => rfl) (w_getf m1 rfl (fun _ => rfl) (w_il (fun _ => rfl) ?_)))))
    obtain ⟨_, m3, A3, rfl, e3⟩ := iv_19 iv
    refine w_astI m3 (by omega) (by omega) (by omega) (by omega) (by omega) (fun A7 h5 w8 s4 => ?_)
    have e9 : ∀ j : Int, 0 ≤ j → j < 160 → 0 ≤ a_g A7 j ∧ a_g A7 j ≤ 255 := fun j j0 j1 => by
      rw [w8 j j0 j1]
      by_cases hj : j = siz1
      · rw [if_pos hj]; omega
      · rw [if_neg hj]; exact e3 j j0 j1
    have iv6 := is_19 iv s4 ⟨_, rfl, e9⟩
    have F10 := fr_st F s4 (by rw [(ow_19 iv)]; rfl)
    refine w_al (fun _ => rfl) (w_dup (fun _ => rfl) ?_)
    have m11 := st_fr s4 m1 (by decide)
    refine w_getf m11 rfl (fun _ => rfl) (w_icI (x := 1) rfl (w_op (c := w_i (siz1 + 1)) (i_add siz1 1) (w_putf [.inr (.inl (some 19)), .inl (w_i (siz1 + 1)), .inr (.inl (some 20)), .inr (.inl (some 21)), .inl (w_i atp1), .inl (w_i tok1), .inl (w_i flt1), .inr (.inl (some 22)), .inl (w_i wri1)] m11 rfl rfl rfl (fun _ => rfl) (fun h13 s12 => ?_))))
    have iv14 := is_18 iv6 s12 ⟨_, _, _, _, _, rfl, by omega, by omega, by omega, by omega, by omega, by omega, by omega, by omega, by omega, by omega, by omega, by omega, by omega, by omega, by omega, by omega, by omega⟩
    have F15 := fr_st F10 s12 (by rw [(ow_18 iv6)]; rfl)
    refine w_icI (x := 1) rfl (w_rz (by decide) ?_)
    exact k0 h13 iv14 F15
  · refine w_icI (x := 0) rfl (w_rz (by decide) ?_)
    exact k1 h iv F
theorem k_389120 : m_cg 389120 = g_95_0 := rfl
theorem k_389133 : m_cg 389133 = g_95_13 := rfl
theorem k_389156 : m_cg 389156 = g_95_36 := rfl
theorem k_389154 : m_cg 389154 = g_95_34 := rfl
theorem c_feed {g : w_G} {o : w_O} {h : m_H} {d : Nat} {Q : Option m_V → m_H → Prop} (iv : w_Inv g o h) {le : Int} (le_lo : -2147483648 ≤ le) (le_hi : le ≤ 2147483647) (k0 : ∀ (x : Int), ∀ h2 : m_H, w_Inv g o h2 → w_fr o [18, 19] h h2 → -2147483648 ≤ x → x ≤ 2147483647 → Q (some (.inl (w_i x))) h2) : wp (d + 1) 389120 [.inr (.inl (some 0)), .inl (w_i le)] [] h Q := by
  have F := fr_rf (o := o) (h := h) (W := [18, 19])
  have W := iv_wc iv
  refine w_run k_389120 (w_il (fun _ => rfl) (w_icI (x := 255) rfl ?_))
  refine w_ca (fun _ => rfl) rfl (c_isWithin (d := d) iv (n := le) (most := 255) (by omega) (by omega) (by omega) (by omega)   (fun b1 b2 => ⟨_, rfl, ?_⟩) (fun b3 => ⟨_, rfl, ?_⟩))
  · refine w_nezt (by omega) (by omega) (by omega)  (w_run k_389133 (w_al (fun _ => rfl) ?_))
    obtain ⟨_, m4, rfl⟩ := iv_0 iv
    refine w_getf m4 rfl (fun _ => rfl) (w_il (fun _ => rfl) ?_)
    obtain ⟨_, m5, siz5, atp5, tok5, flt5, wri5, rfl, l5_siz, u5_siz, l5_atp, u5_atp, l5_tok, u5_tok, l5_flt, u5_flt, l5_wri, u5_wri, f5_0, f5_1, f5_2, f5_3, f5_4, f5_5, f5_6⟩ := iv_18 iv
    refine w_this (fun _ => rfl) m5 ?_
    refine w_ca (fun _ => rfl) rfl (c_put (d := d) iv (le := le) (by omega) (by omega) (by omega) (by omega)  (fun h6 iv7 F8 => ⟨_, rfl, ?_⟩) (fun h9 iv10 F11 => ⟨_, rfl, ?_⟩))
    · have F12 := fr_ca F F8 (fun t ht => by exact ht)
      refine w_eqzf (by omega) (by omega) (by omega)  (w_al (fun _ => rfl) ?_)
      have m13 := fr_at F8 m4 iv (ow_0 iv) rfl rfl
      refine w_getf m13 rfl (fun _ => rfl) ?_
      obtain ⟨_, m14, siz14, atp14, tok14, flt14, wri14, rfl, l14_siz, u14_siz, l14_atp, u14_atp, l14_tok, u14_tok, l14_flt, u14_flt, l14_wri, u14_wri, f14_0, f14_1, f14_2, f14_3, f14_4, f14_5, f14_6⟩ := iv_18 iv7
      refine w_getf m14 rfl (fun _ => rfl) (w_go (w_run k_389156 (w_ri ?_)))
      exact k0 siz14 h6 iv7 F12 (by omega) (by omega)
    · have F15 := fr_ca F F11 (fun t ht => by exact ht)
      refine w_eqzt (by omega) (by omega) (by omega)  (w_run k_389154 (w_icI (x := (-4)) wn_4 (w_ri ?_)))
      exact k0 (-4) h9 iv10 F15 (by omega) (by omega)
  · refine w_nezf (by omega) (by omega) (by omega)  (w_icI (x := (-2)) wn_2 (w_ri ?_))
    exact k0 (-2) h iv F (by omega) (by omega)
theorem k_397312 : m_cg 397312 = g_97_0 := rfl
theorem k_397328 : m_cg 397328 = g_97_16 := rfl
theorem c_force {g : w_G} {o : w_O} {h : m_H} {d : Nat} {Q : Option m_V → m_H → Prop} (iv : w_Inv g o h) {te : Int} (te_lo : -2147483648 ≤ te) (te_hi : te ≤ 2147483647) (k0 : ∀ (x : Int), ∀ h2 : m_H, w_Inv g o h2 → w_fr o [1, 9] h h2 → -2147483648 ≤ x → x ≤ 2147483647 → Q (some (.inl (w_i x))) h2) : wp (d + 1) 397312 [.inr (.inl (some 0)), .inl (w_i te), .inr (.inr (.inl 0))] [] h Q := by
  have F := fr_rf (o := o) (h := h) (W := [1, 9])
  have W := iv_wc iv
  refine w_run k_397312 (w_il (fun _ => rfl) (w_al (fun _ => rfl) ?_))
  obtain ⟨_, m1, rfl⟩ := iv_0 iv
  refine w_getf m1 rfl (fun _ => rfl) (w_icI (x := 1) rfl (w_op (c := w_i (g_nt g - 1)) (i_sub (g_nt g) 1) ?_))
  refine w_ca (fun _ => rfl) rfl (c_isWithin (d := d) iv (n := te) (most := (g_nt g - 1)) (by omega) (by omega) (by omega) (by omega)   (fun b2 b3 => ⟨_, rfl, ?_⟩) (fun b4 => ⟨_, rfl, ?_⟩))
  · refine w_nezt (by omega) (by omega) (by omega)  (w_run k_397328 (w_al (fun _ => rfl) (w_getf m1 rfl (fun _ => rfl) ?_)))
    obtain ⟨_, m5, kp5, sp5, rl5, rfl, l5_kp, u5_kp, l5_sp, u5_sp, l5_rl, u5_rl, f5_0, f5_1⟩ := iv_1 iv
    refine w_getf m5 rfl (fun _ => rfl) (w_is (fun _ => rfl) (w_al (fun _ => rfl) (w_getf m1 rfl (fun _ => rfl) (w_il (fun _ => rfl) (w_putf [.inl (w_i (g_H g)), .inl (w_i (g_C g)), .inl (w_i (g_N g)), .inr (.inl (some 2)), .inr (.inl (some 3)), .inr (.inl (some 4)), .inl (w_i kp5), .inl (w_i sp5), .inl (w_i te)] m5 rfl rfl rfl (fun _ => rfl) (fun h7 s6 => ?_))))))
    have iv8 := is_1 iv s6 ⟨_, _, _, rfl, by omega, by omega, by omega, by omega, by omega, by omega, by omega, by omega⟩
    have F9 := fr_st F s6 (by rw [(ow_1 iv)]; rfl)
    refine w_al (fun _ => rfl) ?_
    have m10 := st_fr s6 m1 (by decide)
    refine w_getf m10 rfl (fun _ => rfl) ?_
    obtain ⟨_, m11, kpr11, sta11, fnd11, kco11, rfl, l11_kpr, u11_kpr, l11_sta, u11_sta, l11_fnd, u11_fnd, l11_kco, u11_kco, f11_0, f11_1, f11_2, f11_3, f11_4, f11_5, f11_6⟩ := iv_9 iv8
    refine w_this (fun _ => rfl) m11 ?_
    refine w_cv (fun _ => rfl) rfl (c_forget (d := d) iv8     (fun h12 iv13 F14 => ⟨rfl, ?_⟩))
    have F15 := fr_ca F9 F14 (fun t ht => by simp at ht ⊢; omega)
    refine w_il (fun _ => rfl) (w_ri ?_)
    exact k0 rl5 h12 iv13 F15 (by omega) (by omega)
  · refine w_nezf (by omega) (by omega) (by omega)  (w_icI (x := (-2)) wn_2 (w_ri ?_))
    exact k0 (-2) h iv F (by omega) (by omega)
theorem k_401408 : m_cg 401408 = g_98_0 := rfl
theorem k_401430 : m_cg 401430 = g_98_22 := rfl
theorem k_401429 : m_cg 401429 = g_98_21 := rfl
theorem c_lawful {g : w_G} {o : w_O} {h : m_H} {d : Nat} {Q : Option m_V → m_H → Prop} (iv : w_Inv g o h) (k0 : ∀ (x : Int), -2147483648 ≤ x → x ≤ 2147483647 → Q (some (.inl (w_i x))) h) : wp (d + 2) 401408 [.inr (.inl (some 0))] [] h Q := by
  have W := iv_wc iv
  refine w_run k_401408 (w_al (fun _ => rfl) ?_)
  obtain ⟨_, m1, rfl⟩ := iv_0 iv
  refine w_getf m1 rfl (fun _ => rfl) (w_al (fun _ => rfl) (w_getf m1 rfl (fun _ => rfl) ?_))
  obtain ⟨_, m2, kp2, sp2, rl2, rfl, l2_kp, u2_kp, l2_sp, u2_sp, l2_rl, u2_rl, f2_0, f2_1⟩ := iv_1 iv
  refine w_getf m2 rfl (fun _ => rfl) (w_this (fun _ => rfl) m2 ?_)
  obtain ⟨_, m3, A3, rfl, e3⟩ := iv_3 iv
  refine w_ca (fun _ => rfl) rfl (c_isLawful (d := d) iv (q := 3)  m3  ⟨_, rfl, ?_⟩ ⟨_, rfl, ?_⟩)
  · refine w_eqzf (by omega) (by omega) (by omega)  (w_icI (x := 1) rfl (w_go (w_run k_401430 (w_ri ?_))))
    exact k0 1 (by omega) (by omega)
  · refine w_eqzt (by omega) (by omega) (by omega)  (w_run k_401429 (w_icI (x := 0) rfl (w_ri ?_)))
    exact k0 0 (by omega) (by omega)
theorem k_405504 : m_cg 405504 = g_99_0 := rfl
theorem c_step {g : w_G} {o : w_O} {h : m_H} {d : Nat} {Q : Option m_V → m_H → Prop} (iv : w_Inv g o h) {house : Int} {colour : Int} (house_lo : -2147483648 ≤ house) (house_hi : house ≤ 2147483647) (colour_lo : -2147483648 ≤ colour) (colour_hi : colour ≤ 2147483647) (k0 : ∀ (x : Int), ∀ h2 : m_H, w_Inv g o h2 → w_fr o [25, 112] h h2 → -2147483648 ≤ x → x ≤ 2147483647 → Q (some (.inl (w_i x))) h2) : wp (d + 5) 405504 [.inr (.inl (some 0)), .inl (w_i house), .inl (w_i colour)] [] h Q := by
  have F := fr_rf (o := o) (h := h) (W := [25, 112])
  have W := iv_wc iv
  refine w_run k_405504 (w_al (fun _ => rfl) (w_al (fun _ => rfl) ?_))
  obtain ⟨_, m1, rfl⟩ := iv_0 iv
  refine w_getf m1 rfl (fun _ => rfl) ?_
  obtain ⟨_, m2, kp2, sp2, rl2, rfl, l2_kp, u2_kp, l2_sp, u2_sp, l2_rl, u2_rl, f2_0, f2_1⟩ := iv_1 iv
  refine w_getf m2 rfl (fun _ => rfl) (w_il (fun _ => rfl) (w_il (fun _ => rfl) (w_this (fun _ => rfl) m1 ?_)))
  obtain ⟨_, m3, A3, rfl, e3⟩ := iv_3 iv
  refine w_ca (fun _ => rfl) rfl (c_costIn (d := d) iv (house := house) (t := colour) (q := 3) (by omega) (by omega) (by omega) (by omega) m3  (fun y4 h5 iv6 F7 b8 b9 b10 => ⟨_, rfl, ?_⟩))
  have F11 := fr_ca F F7 (fun t ht => by exact ht)
  refine w_ri ?_
  exact k0 y4 h5 iv6 F11 (by omega) (by omega)
theorem k_409600 : m_cg 409600 = g_100_0 := rfl
theorem k_409623 : m_cg 409623 = g_100_23 := rfl
theorem k_409677 : m_cg 409677 = g_100_77 := rfl
theorem c_paint {g : w_G} {o : w_O} {h : m_H} {d : Nat} {Q : Option m_V → m_H → Prop} (iv : w_Inv g o h) {house : Int} {colour : Int} (house_lo : -2147483648 ≤ house) (house_hi : house ≤ 2147483647) (colour_lo : -2147483648 ≤ colour) (colour_hi : colour ≤ 2147483647) (k0 : ∀ (x : Int), ∀ h2 : m_H, w_Inv g o h2 → w_fr o [1, 3, 9, 25, 112] h h2 → -2147483648 ≤ x → x ≤ 2147483647 → Q (some (.inl (w_i x))) h2) : wp (d + 5) 409600 [.inr (.inl (some 0)), .inl (w_i house), .inl (w_i colour), .inr (.inr (.inl 0))] [] h Q := by
  have F := fr_rf (o := o) (h := h) (W := [1, 3, 9, 25, 112])
  have W := iv_wc iv
  refine w_run k_409600 (w_al (fun _ => rfl) (w_al (fun _ => rfl) ?_))
  obtain ⟨_, m1, rfl⟩ := iv_0 iv
  refine w_getf m1 rfl (fun _ => rfl) ?_
  obtain ⟨_, m2, kp2, sp2, rl2, rfl, l2_kp, u2_kp, l2_sp, u2_sp, l2_rl, u2_rl, f2_0, f2_1⟩ := iv_1 iv
  refine w_getf m2 rfl (fun _ => rfl) (w_il (fun _ => rfl) (w_il (fun _ => rfl) (w_this (fun _ => rfl) m1 ?_)))
  obtain ⟨_, m3, A3, rfl, e3⟩ := iv_3 iv
  refine w_ca (fun _ => rfl) rfl (c_costIn (d := d) iv (house := house) (t := colour) (q := 3) (by omega) (by omega) (by omega) (by omega) m3  (fun y4 h5 iv6 F7 b8 b9 b10 => ⟨_, rfl, ?_⟩))
  have F11 := fr_ca F F7 (fun t ht => by simp at ht ⊢; omega)
  refine w_is (fun _ => rfl) (w_il (fun _ => rfl) (w_icI (x := (-5)) wn_5 ?_))
  refine w_ne2 (by omega) (by omega) (by omega) (by omega)  (fun c12 => ?_) (fun c12 => ?_)
  · refine w_run k_409623 (w_il (fun _ => rfl) ?_)
    refine w_ltz2 (by omega) (by omega)  (fun c13 => ?_) (fun c13 => ?_)
    · refine w_run k_409677 (w_il (fun _ => rfl) (w_ri ?_))
      exact k0 y4 h5 iv6 F11 (by omega) (by omega)
    · refine w_al (fun _ => rfl) ?_
      have m14 := fr_at F7 m1 iv (ow_0 iv) rfl rfl
      refine w_getf m14 rfl (fun _ => rfl) (w_il (fun _ => rfl) ?_)
      have m15 := fr_at F7 m2 iv (ow_1 iv) rfl rfl
      refine w_this (fun _ => rfl) m15 ?_
      refine w_ca (fun _ => rfl) rfl (c_isHouse (d := (d + 4)) iv6 (n := house) (by omega) (by omega)   (fun b16 b17 => ⟨_, rfl, ?_⟩) (fun b18 => ⟨_, rfl, ?_⟩))
      · refine w_eqzf (by omega) (by omega) (by omega)  (w_al (fun _ => rfl) (w_getf m14 rfl (fun _ => rfl) (w_getf m15 rfl (fun _ => rfl) (w_il (fun _ => rfl) (w_il (fun _ => rfl) ?_)))))
        have m19 := fr_at F7 m3 iv (ow_3 iv) rfl rfl
        refine w_astI m19 (by omega) (by omega) (by omega) (by omega) (by omega) (fun A23 h21 w24 s20 => ?_)
        have e25 : ∀ j : Int, 0 ≤ j → j < 6 → 0 ≤ a_g A23 j ∧ a_g A23 j < g_C g := fun j j0 j1 => by
          rw [w24 j j0 j1]
          by_cases hj : j = house
          · rw [if_pos hj]; omega
          · rw [if_neg hj]; exact e3 j j0 j1
        have iv22 := is_3 iv6 s20 ⟨_, rfl, e25⟩
        have F26 := fr_st F11 s20 (by rw [(ow_3 iv6)]; rfl)
        refine w_al (fun _ => rfl) ?_
        have m27 := st_fr s20 m14 (by decide)
        refine w_getf m27 rfl (fun _ => rfl) (w_icI (x := 999) rfl (w_al (fun _ => rfl) (w_getf m27 rfl (fun _ => rfl) ?_)))
        have m28 := st_fr s20 m15 (by decide)
        refine w_getf m28 rfl (fun _ => rfl) (w_icI (x := 1) rfl (w_opR add_lt (fun x29 x290 x291 x29e => ?_)))
        refine w_min (by omega) (by omega) (by omega) (by omega) rfl (fun x30 b31 => ?_)
        refine w_putf [.inl (w_i (g_H g)), .inl (w_i (g_C g)), .inl (w_i (g_N g)), .inr (.inl (some 2)), .inr (.inl (some 3)), .inr (.inl (some 4)), .inl (w_i kp2), .inl (w_i x30), .inl (w_i rl2)] m28 rfl rfl rfl (fun _ => rfl) (fun h33 s32 => ?_)
        have iv34 := is_1 iv22 s32 ⟨_, _, _, rfl, by omega, by omega, by omega, by omega, by omega, by omega, by omega, by omega⟩
        have F35 := fr_st F26 s32 (by rw [(ow_1 iv22)]; rfl)
        refine w_al (fun _ => rfl) ?_
        have m36 := st_fr s32 m27 (by decide)
        refine w_getf m36 rfl (fun _ => rfl) ?_
        obtain ⟨_, m37, kpr37, sta37, fnd37, kco37, rfl, l37_kpr, u37_kpr, l37_sta, u37_sta, l37_fnd, u37_fnd, l37_kco, u37_kco, f37_0, f37_1, f37_2, f37_3, f37_4, f37_5, f37_6⟩ := iv_9 iv34
        refine w_this (fun _ => rfl) m37 ?_
        refine w_cv (fun _ => rfl) rfl (c_forget (d := (d + 4)) iv34     (fun h38 iv39 F40 => ⟨rfl, ?_⟩))
        have F41 := fr_ca F35 F40 (fun t ht => by simp at ht ⊢; omega)
        refine w_il (fun _ => rfl) (w_ri ?_)
        exact k0 y4 h38 iv39 F41 (by omega) (by omega)
      · refine w_eqzt (by omega) (by omega) (by omega)  (w_run k_409677 (w_il (fun _ => rfl) (w_ri ?_)))
        exact k0 y4 h5 iv6 F11 (by omega) (by omega)
  · refine w_icI (x := (-3)) wn_3 (w_ri ?_)
    exact k0 (-3) h5 iv6 F11 (by omega) (by omega)
theorem k_438272 : m_cg 438272 = g_107_0 := rfl
theorem k_438293 : m_cg 438293 = g_107_21 := rfl
theorem c_gap {g : w_G} {o : w_O} {h : m_H} {d : Nat} {Q : Option m_V → m_H → Prop} (iv : w_Inv g o h) {to : Int} (to_lo : -2147483648 ≤ to) (to_hi : to ≤ 2147483647) (k0 : ∀ (x : Int), -2147483648 ≤ x → x ≤ 2147483647 → Q (some (.inl (w_i x))) h) : wp (d + 1) 438272 [.inr (.inl (some 0)), .inl (w_i to)] [] h Q := by
  have W := iv_wc iv
  refine w_run k_438272 (w_il (fun _ => rfl) (w_icI (x := 1) rfl (w_al (fun _ => rfl) ?_)))
  obtain ⟨_, m1, rfl⟩ := iv_0 iv
  refine w_getf m1 rfl (fun _ => rfl) ?_
  obtain ⟨_, m2, kp2, sp2, rl2, rfl, l2_kp, u2_kp, l2_sp, u2_sp, l2_rl, u2_rl, f2_0, f2_1⟩ := iv_1 iv
  refine w_getf m2 rfl (fun _ => rfl) (w_opR shl_lt (fun x3 x30 x31 x3e => ?_))
  refine w_icI (x := 1) rfl (w_opR sub_lt (fun x4 x40 x41 x4e => ?_))
  refine w_ca (fun _ => rfl) rfl (c_isWithin (d := d) iv (n := to) (most := x4) (by omega) (by omega) (by omega) (by omega)   (fun b5 b6 => ⟨_, rfl, ?_⟩) (fun b7 => ⟨_, rfl, ?_⟩))
  · refine w_nezt (by omega) (by omega) (by omega)  (w_run k_438293 (w_icI (x := 1) rfl (w_al (fun _ => rfl) (w_getf m1 rfl (fun _ => rfl) (w_getf m2 rfl (fun _ => rfl) (w_opR shl_lt (fun x8 x80 x81 x8e => ?_)))))))
    refine w_icI (x := 1) rfl (w_opR sub_lt (fun x9 x90 x91 x9e => ?_))
    refine w_al (fun _ => rfl) (w_getf m1 rfl (fun _ => rfl) (w_il (fun _ => rfl) (w_al (fun _ => rfl) (w_getf m1 rfl (fun _ => rfl) (w_getf m2 rfl (fun _ => rfl) (w_this (fun _ => rfl) m2 ?_))))))
    obtain ⟨_, m10, A10, rfl, e10⟩ := iv_3 iv
    refine w_ca (fun _ => rfl) rfl (c_coloursOf (d := d) iv (told := to) (q := 3) (by omega) (by omega) m10  (fun y11 b12 b13 => ⟨_, rfl, ?_⟩))
    refine w_icI (x := (-1)) wn_1 (w_opR xor_lt (fun x14 x140 x141 x14e => ?_))
    refine w_opR and_lt (fun x15 x150 x151 x15e => ?_)
    refine w_ri ?_
    exact k0 x15 (by omega) (by omega)
  · refine w_nezf (by omega) (by omega) (by omega)  (w_icI (x := (-2)) wn_2 (w_ri ?_))
    exact k0 (-2) (by omega) (by omega)
theorem k_471040 : m_cg 471040 = g_115_0 := rfl
theorem k_471088 : m_cg 471088 = g_115_48 := rfl
theorem k_471096 : m_cg 471096 = g_115_56 := rfl
theorem k_471104 : m_cg 471104 = g_115_64 := rfl
theorem k_471109 : m_cg 471109 = g_115_69 := rfl
theorem k_471117 : m_cg 471117 = g_115_77 := rfl
theorem k_471132 : m_cg 471132 = g_115_92 := rfl
theorem k_471137 : m_cg 471137 = g_115_97 := rfl
theorem k_471145 : m_cg 471145 = g_115_105 := rfl
theorem k_471153 : m_cg 471153 = g_115_113 := rfl
theorem c_count {g : w_G} {o : w_O} {h : m_H} {d : Nat} {Q : Option m_V → m_H → Prop} (iv : w_Inv g o h) {what : Int} (what_lo : -2147483648 ≤ what) (what_hi : what ≤ 2147483647) (k0 : ∀ (x : Int), -2147483648 ≤ x → x ≤ 2147483647 → Q (some (.inl (w_i x))) h) : wp (d + 1) 471040 [.inr (.inl (some 0)), .inl (w_i what)] [] h Q := by
  have W := iv_wc iv
  refine w_run k_471040 (w_il (fun _ => rfl) ?_)
  by_cases c1 : what = 0
  · rw [show (what : Int) = 0 from c1]
    refine w_tsw (t := 471088) (fun _ => rfl) (w_run k_471088 (w_al (fun _ => rfl) ?_))
    obtain ⟨_, m2, rfl⟩ := iv_0 iv
    refine w_getf m2 rfl (fun _ => rfl) ?_
    obtain ⟨_, m3, kp3, sp3, rl3, rfl, l3_kp, u3_kp, l3_sp, u3_sp, l3_rl, u3_rl, f3_0, f3_1⟩ := iv_1 iv
    refine w_getf m3 rfl (fun _ => rfl) (w_ri ?_)
    exact k0 (g_H g) (by omega) (by omega)
  by_cases c4 : what = 1
  · rw [show (what : Int) = 1 from c4]
    refine w_tsw (t := 471096) (fun _ => rfl) (w_run k_471096 (w_al (fun _ => rfl) ?_))
    obtain ⟨_, m5, rfl⟩ := iv_0 iv
    refine w_getf m5 rfl (fun _ => rfl) ?_
    obtain ⟨_, m6, kp6, sp6, rl6, rfl, l6_kp, u6_kp, l6_sp, u6_sp, l6_rl, u6_rl, f6_0, f6_1⟩ := iv_1 iv
    refine w_getf m6 rfl (fun _ => rfl) (w_ri ?_)
    exact k0 (g_C g) (by omega) (by omega)
  by_cases c7 : what = 2
  · rw [show (what : Int) = 2 from c7]
    refine w_tsw (t := 471104) (fun _ => rfl) (w_run k_471104 (w_al (fun _ => rfl) ?_))
    obtain ⟨_, m8, rfl⟩ := iv_0 iv
    refine w_getf m8 rfl (fun _ => rfl) (w_ri ?_)
    exact k0 (g_np g) (by omega) (by omega)
  by_cases c9 : what = 3
  · rw [show (what : Int) = 3 from c9]
    refine w_tsw (t := 471109) (fun _ => rfl) (w_run k_471109 (w_al (fun _ => rfl) ?_))
    obtain ⟨_, m10, rfl⟩ := iv_0 iv
    refine w_getf m10 rfl (fun _ => rfl) ?_
    obtain ⟨_, m11, kp11, sp11, rl11, rfl, l11_kp, u11_kp, l11_sp, u11_sp, l11_rl, u11_rl, f11_0, f11_1⟩ := iv_1 iv
    refine w_getf m11 rfl (fun _ => rfl) (w_ri ?_)
    exact k0 sp11 (by omega) (by omega)
  by_cases c12 : what = 4
  · rw [show (what : Int) = 4 from c12]
    refine w_tsw (t := 471117) (fun _ => rfl) (w_run k_471117 (w_al (fun _ => rfl) ?_))
    obtain ⟨_, m13, rfl⟩ := iv_0 iv
    refine w_getf m13 rfl (fun _ => rfl) (w_al (fun _ => rfl) (w_getf m13 rfl (fun _ => rfl) ?_))
    obtain ⟨_, m14, kp14, sp14, rl14, rfl, l14_kp, u14_kp, l14_sp, u14_sp, l14_rl, u14_rl, f14_0, f14_1⟩ := iv_1 iv
    refine w_getf m14 rfl (fun _ => rfl) (w_this (fun _ => rfl) m14 ?_)
    obtain ⟨_, m15, A15, rfl, e15⟩ := iv_3 iv
    refine w_ca (fun _ => rfl) rfl (c_numberOf (d := d) iv (q := 3)  m15 (by omega)  (fun y16 b17 b18 b19 b20 => ⟨_, rfl, ?_⟩))
    refine w_ri ?_
    exact k0 y16 (by omega) (by omega)
  by_cases c21 : what = 5
  · rw [show (what : Int) = 5 from c21]
    refine w_tsw (t := 471132) (fun _ => rfl) (w_run k_471132 (w_al (fun _ => rfl) ?_))
    obtain ⟨_, m22, rfl⟩ := iv_0 iv
    refine w_getf m22 rfl (fun _ => rfl) (w_ri ?_)
    exact k0 (g_nt g) (by omega) (by omega)
  by_cases c23 : what = 6
  · rw [show (what : Int) = 6 from c23]
    refine w_tsw (t := 471137) (fun _ => rfl) (w_run k_471137 (w_al (fun _ => rfl) ?_))
    obtain ⟨_, m24, rfl⟩ := iv_0 iv
    refine w_getf m24 rfl (fun _ => rfl) ?_
    obtain ⟨_, m25, siz25, atp25, tok25, flt25, wri25, rfl, l25_siz, u25_siz, l25_atp, u25_atp, l25_tok, u25_tok, l25_flt, u25_flt, l25_wri, u25_wri, f25_0, f25_1, f25_2, f25_3, f25_4, f25_5, f25_6⟩ := iv_18 iv
    refine w_getf m25 rfl (fun _ => rfl) (w_ri ?_)
    exact k0 siz25 (by omega) (by omega)
  by_cases c26 : what = 7
  · rw [show (what : Int) = 7 from c26]
    refine w_tsw (t := 471145) (fun _ => rfl) (w_run k_471145 (w_al (fun _ => rfl) ?_))
    obtain ⟨_, m27, rfl⟩ := iv_0 iv
    refine w_getf m27 rfl (fun _ => rfl) ?_
    obtain ⟨_, m28, kp28, sp28, rl28, rfl, l28_kp, u28_kp, l28_sp, u28_sp, l28_rl, u28_rl, f28_0, f28_1⟩ := iv_1 iv
    refine w_getf m28 rfl (fun _ => rfl) (w_ri ?_)
    exact k0 rl28 (by omega) (by omega)
  refine w_tswD (by omega) (by omega) (by show _ ∨ ((8 : Nat) : Int) ≤ _; omega) (by decide) (w_run k_471153 (w_icI (x := (-2)) wn_2 (w_ri ?_)))
  exact k0 (-2) (by omega) (by omega)
theorem k_372736 : m_cg 372736 = g_91_0 := rfl
theorem k_372754 : m_cg 372754 = g_91_18 := rfl
theorem k_372767 : m_cg 372767 = g_91_31 := rfl
theorem k_372800 : m_cg 372800 = g_91_64 := rfl
theorem k_372824 : m_cg 372824 = g_91_88 := rfl
theorem k_372848 : m_cg 372848 = g_91_112 := rfl
theorem k_372885 : m_cg 372885 = g_91_149 := rfl
theorem k_372764 : m_cg 372764 = g_91_28 := rfl
theorem c_set {g : w_G} {o : w_O} {h : m_H} {d : Nat} {Q : Option m_V → m_H → Prop} (iv : w_Inv g o h) {what : Int} {of : Int} {v : Int} (what_lo : -2147483648 ≤ what) (what_hi : what ≤ 2147483647) (of_lo : -2147483648 ≤ of) (of_hi : of ≤ 2147483647) (v_lo : -2147483648 ≤ v) (v_hi : v ≤ 2147483647) (k0 : ∀ (x : Int), ∀ h2 : m_H, w_Inv g o h2 → w_fr o [1, 3, 4, 9] h h2 → -2147483648 ≤ x → x ≤ 2147483647 → Q (some (.inl (w_i x))) h2) : wp (d + 2) 372736 [.inr (.inl (some 0)), .inl (w_i what), .inl (w_i of), .inl (w_i v), .inr (.inr (.inl 0))] [] h Q := by
  have F := fr_rf (o := o) (h := h) (W := [1, 3, 4, 9])
  have W := iv_wc iv
  refine w_run k_372736 (w_il (fun _ => rfl) (w_icI (x := 3) rfl ?_))
  refine w_ne2 (by omega) (by omega) (by omega) (by omega)  (fun c1 => ?_) (fun c1 => ?_)
  · refine w_run k_372754 (w_al (fun _ => rfl) (w_il (fun _ => rfl) (w_il (fun _ => rfl) (w_il (fun _ => rfl) ?_))))
    obtain ⟨_, m2, rfl⟩ := iv_0 iv
    refine w_this (fun _ => rfl) m2 ?_
    refine w_ca (fun _ => rfl) rfl (c_isSettable (d := d) iv (what := what) (of := of) (v := v) (by omega) (by omega) (by omega) (by omega) (by omega) (by omega)   (fun b3 b4 b5 => ⟨_, rfl, ?_⟩) ⟨_, rfl, ?_⟩)
    · refine w_nezt (by omega) (by omega) (by omega)  (w_run k_372767 (w_al (fun _ => rfl) (w_getf m2 rfl (fun _ => rfl) ?_)))
      obtain ⟨_, m6, kpr6, sta6, fnd6, kco6, rfl, l6_kpr, u6_kpr, l6_sta, u6_sta, l6_fnd, u6_fnd, l6_kco, u6_kco, f6_0, f6_1, f6_2, f6_3, f6_4, f6_5, f6_6⟩ := iv_9 iv
      refine w_this (fun _ => rfl) m6 ?_
      refine w_cv (fun _ => rfl) rfl (c_forget (d := (d + 1)) iv     (fun h7 iv8 F9 => ⟨rfl, ?_⟩))
      have F10 := fr_ca F F9 (fun t ht => by simp at ht ⊢; omega)
      refine w_il (fun _ => rfl) ?_
      by_cases c11 : what = 0
      · rw [show (what : Int) = 0 from c11]
        refine w_tsw (t := 372800) (fun _ => rfl) (w_run k_372800 (w_al (fun _ => rfl) ?_))
        have m12 := fr_at F9 m2 iv (ow_0 iv) rfl rfl
        refine w_getf m12 rfl (fun _ => rfl) ?_
        obtain ⟨_, m13, kp13, sp13, rl13, rfl, l13_kp, u13_kp, l13_sp, u13_sp, l13_rl, u13_rl, f13_0, f13_1⟩ := iv_1 iv8
        refine w_getf m13 rfl (fun _ => rfl) (w_il (fun _ => rfl) ?_)
        obtain ⟨_, m14, A14, rfl, e14⟩ := iv_3 iv8
        refine w_aldI m14 (by omega) (by omega) (by omega) ?_
        obtain ⟨b15, b16⟩ := ag_rg A14 of
        have e17 := e14 of (by omega) (by omega)
        refine w_is (fun _ => rfl) (w_al (fun _ => rfl) (w_getf m12 rfl (fun _ => rfl) (w_getf m13 rfl (fun _ => rfl) (w_il (fun _ => rfl) (w_il (fun _ => rfl) (w_astI m14 (by omega) (by omega) (by omega) (by omega) (by omega) (fun A21 h19 w22 s18 => ?_)))))))
        have e23 : ∀ j : Int, 0 ≤ j → j < 6 → 0 ≤ a_g A21 j ∧ a_g A21 j < g_C g := fun j j0 j1 => by
          rw [w22 j j0 j1]
          by_cases hj : j = of
          · rw [if_pos hj]; omega
          · rw [if_neg hj]; exact e14 j j0 j1
        have iv20 := is_3 iv8 s18 ⟨_, rfl, e23⟩
        have F24 := fr_st F10 s18 (by rw [(ow_3 iv8)]; rfl)
        refine w_il (fun _ => rfl) (w_ri ?_)
        exact k0 (a_g A14 of) h19 iv20 F24 (by omega) (by omega)
      by_cases c25 : what = 1
      · rw [show (what : Int) = 1 from c25]
        refine w_tsw (t := 372824) (fun _ => rfl) (w_run k_372824 (w_al (fun _ => rfl) ?_))
        have m26 := fr_at F9 m2 iv (ow_0 iv) rfl rfl
        refine w_getf m26 rfl (fun _ => rfl) ?_
        obtain ⟨_, m27, kp27, sp27, rl27, rfl, l27_kp, u27_kp, l27_sp, u27_sp, l27_rl, u27_rl, f27_0, f27_1⟩ := iv_1 iv8
        refine w_getf m27 rfl (fun _ => rfl) (w_il (fun _ => rfl) ?_)
        obtain ⟨_, m28, A28, rfl⟩ := iv_4 iv8
        refine w_aldI m28 (by omega) (by omega) (by omega) ?_
        obtain ⟨b29, b30⟩ := ag_rg A28 of
        refine w_is (fun _ => rfl) (w_al (fun _ => rfl) (w_getf m26 rfl (fun _ => rfl) (w_getf m27 rfl (fun _ => rfl) (w_il (fun _ => rfl) (w_il (fun _ => rfl) (w_astI m28 (by omega) (by omega) (by omega) (by omega) (by omega) (fun A34 h32 w35 s31 => ?_)))))))
        have iv33 := is_4 iv8 s31 ⟨_, rfl⟩
        have F36 := fr_st F10 s31 (by rw [(ow_4 iv8)]; rfl)
        refine w_il (fun _ => rfl) (w_ri ?_)
        exact k0 (a_g A28 of) h32 iv33 F36 (by omega) (by omega)
      by_cases c37 : what = 2
      · rw [show (what : Int) = 2 from c37]
        refine w_tsw (t := 372848) (fun _ => rfl) (w_run k_372848 (w_al (fun _ => rfl) ?_))
        have m38 := fr_at F9 m2 iv (ow_0 iv) rfl rfl
        refine w_getf m38 rfl (fun _ => rfl) (w_il (fun _ => rfl) ?_)
        obtain ⟨_, m39, kp39, sp39, rl39, rfl, l39_kp, u39_kp, l39_sp, u39_sp, l39_rl, u39_rl, f39_0, f39_1⟩ := iv_1 iv8
        refine w_this (fun _ => rfl) m39 ?_
        refine w_ca (fun _ => rfl) rfl (c_keepBit (d := (d + 1)) iv8 (n := of) (by omega) (by omega)   (fun y40 b41 b42 b43 b44 => ⟨_, rfl, ?_⟩))
        refine w_is (fun _ => rfl) (w_al (fun _ => rfl) (w_getf m38 rfl (fun _ => rfl) (w_al (fun _ => rfl) (w_getf m38 rfl (fun _ => rfl) (w_getf m39 rfl (fun _ => rfl) (w_icI (x := 1) rfl (w_il (fun _ => rfl) (w_opR shl_lt (fun x45 x450 x451 x45e => ?_)))))))))
        refine w_icI (x := (-1)) wn_1 (w_opR xor_lt (fun x46 x460 x461 x46e => ?_))
        refine w_opR and_lt (fun x47 x470 x471 x47e => ?_)
        refine w_il (fun _ => rfl) (w_il (fun _ => rfl) (w_opR shl_lt (fun x48 x480 x481 x48e => ?_)))
        refine w_opR or_lt (fun x49 x490 x491 x49e => ?_)
        refine w_putf [.inl (w_i (g_H g)), .inl (w_i (g_C g)), .inl (w_i (g_N g)), .inr (.inl (some 2)), .inr (.inl (some 3)), .inr (.inl (some 4)), .inl (w_i x49), .inl (w_i sp39), .inl (w_i rl39)] m39 rfl rfl rfl (fun _ => rfl) (fun h51 s50 => ?_)
        have iv52 := is_1 iv8 s50 ⟨_, _, _, rfl, by omega, by omega, by omega, by omega, by omega, by omega, by omega, by omega⟩
        have F53 := fr_st F10 s50 (by rw [(ow_1 iv8)]; rfl)
        refine w_il (fun _ => rfl) (w_ri ?_)
        exact k0 y40 h51 iv52 F53 (by omega) (by omega)
      refine w_tswD (by omega) (by omega) (by show _ ∨ ((3 : Nat) : Int) ≤ _; omega) (by decide) (w_run k_372885 (w_al (fun _ => rfl) ?_))
      have m54 := fr_at F9 m2 iv (ow_0 iv) rfl rfl
      refine w_getf m54 rfl (fun _ => rfl) ?_
      obtain ⟨_, m55, kp55, sp55, rl55, rfl, l55_kp, u55_kp, l55_sp, u55_sp, l55_rl, u55_rl, f55_0, f55_1⟩ := iv_1 iv8
      refine w_getf m55 rfl (fun _ => rfl) (w_is (fun _ => rfl) (w_al (fun _ => rfl) (w_getf m54 rfl (fun _ => rfl) (w_il (fun _ => rfl) (w_putf [.inl (w_i (g_H g)), .inl (w_i (g_C g)), .inl (w_i (g_N g)), .inr (.inl (some 2)), .inr (.inl (some 3)), .inr (.inl (some 4)), .inl (w_i kp55), .inl (w_i v), .inl (w_i rl55)] m55 rfl rfl rfl (fun _ => rfl) (fun h57 s56 => ?_))))))
      have iv58 := is_1 iv8 s56 ⟨_, _, _, rfl, by omega, by omega, by omega, by omega, by omega, by omega, by omega, by omega⟩
      have F59 := fr_st F10 s56 (by rw [(ow_1 iv8)]; rfl)
      refine w_il (fun _ => rfl) (w_ri ?_)
      exact k0 sp55 h57 iv58 F59 (by omega) (by omega)
    · refine w_nezf (by omega) (by omega) (by omega)  (w_icI (x := (-2)) wn_2 (w_ri ?_))
      exact k0 (-2) h iv F (by omega) (by omega)
  · refine w_il (fun _ => rfl) (w_icI (x := 999) rfl ?_)
    refine w_ca (fun _ => rfl) rfl (c_isWithin (d := (d + 1)) iv (n := v) (most := 999) (by omega) (by omega) (by omega) (by omega)   (fun b60 b61 => ⟨_, rfl, ?_⟩) (fun b62 => ⟨_, rfl, ?_⟩))
    · refine w_nezt (by omega) (by omega) (by omega)  (w_run k_372767 (w_al (fun _ => rfl) ?_))
      obtain ⟨_, m63, rfl⟩ := iv_0 iv
      refine w_getf m63 rfl (fun _ => rfl) ?_
      obtain ⟨_, m64, kpr64, sta64, fnd64, kco64, rfl, l64_kpr, u64_kpr, l64_sta, u64_sta, l64_fnd, u64_fnd, l64_kco, u64_kco, f64_0, f64_1, f64_2, f64_3, f64_4, f64_5, f64_6⟩ := iv_9 iv
      refine w_this (fun _ => rfl) m64 ?_
      refine w_cv (fun _ => rfl) rfl (c_forget (d := (d + 1)) iv     (fun h65 iv66 F67 => ⟨rfl, ?_⟩))
      have F68 := fr_ca F F67 (fun t ht => by simp at ht ⊢; omega)
      refine w_il (fun _ => rfl) ?_
      refine w_tswD (by omega) (by omega) (by show _ ∨ ((3 : Nat) : Int) ≤ _; omega) (by decide) (w_run k_372885 (w_al (fun _ => rfl) ?_))
      have m69 := fr_at F67 m63 iv (ow_0 iv) rfl rfl
      refine w_getf m69 rfl (fun _ => rfl) ?_
      obtain ⟨_, m70, kp70, sp70, rl70, rfl, l70_kp, u70_kp, l70_sp, u70_sp, l70_rl, u70_rl, f70_0, f70_1⟩ := iv_1 iv66
      refine w_getf m70 rfl (fun _ => rfl) (w_is (fun _ => rfl) (w_al (fun _ => rfl) (w_getf m69 rfl (fun _ => rfl) (w_il (fun _ => rfl) (w_putf [.inl (w_i (g_H g)), .inl (w_i (g_C g)), .inl (w_i (g_N g)), .inr (.inl (some 2)), .inr (.inl (some 3)), .inr (.inl (some 4)), .inl (w_i kp70), .inl (w_i v), .inl (w_i rl70)] m70 rfl rfl rfl (fun _ => rfl) (fun h72 s71 => ?_))))))
      have iv73 := is_1 iv66 s71 ⟨_, _, _, rfl, by omega, by omega, by omega, by omega, by omega, by omega, by omega, by omega⟩
      have F74 := fr_st F68 s71 (by rw [(ow_1 iv66)]; rfl)
      refine w_il (fun _ => rfl) (w_ri ?_)
      exact k0 sp70 h72 iv73 F74 (by omega) (by omega)
    · refine w_nezf (by omega) (by omega) (by omega)  (w_go (w_run k_372764 (w_icI (x := (-2)) wn_2 (w_ri ?_))))
      exact k0 (-2) h iv F (by omega) (by omega)
theorem k_479232 : m_cg 479232 = g_117_0 := rfl
theorem k_479242 : m_cg 479242 = g_117_10 := rfl
theorem k_479258 : m_cg 479258 = g_117_26 := rfl
theorem k_253952 : m_cg 253952 = g_62_0 := rfl
theorem k_253969 : m_cg 253969 = g_62_17 := rfl
theorem k_253970 : m_cg 253970 = g_62_18 := rfl
theorem k_479270 : m_cg 479270 = g_117_38 := rfl
theorem k_262144 : m_cg 262144 = g_64_0 := rfl
theorem k_262161 : m_cg 262161 = g_64_17 := rfl
theorem k_262174 : m_cg 262174 = g_64_30 := rfl
theorem k_262175 : m_cg 262175 = g_64_31 := rfl
theorem c_cell {g : w_G} {o : w_O} {h : m_H} {d : Nat} {Q : Option m_V → m_H → Prop} (iv : w_Inv g o h) {sh : Int} {n : Int} {v : Int} (sh_lo : -2147483648 ≤ sh) (sh_hi : sh ≤ 2147483647) (n_lo : -2147483648 ≤ n) (n_hi : n ≤ 2147483647) (v_lo : -2147483648 ≤ v) (v_hi : v ≤ 2147483647) (k0 : ∀ (x : Int), ∀ h2 : m_H, w_Inv g o h2 → w_fr o [131] h h2 → -2147483648 ≤ x → x ≤ 2147483647 → Q (some (.inl (w_i x))) h2) : wp (d + 2) 479232 [.inr (.inl (some 0)), .inl (w_i sh), .inl (w_i n), .inl (w_i v), .inr (.inr (.inl 0))] [] h Q := by
  have F := fr_rf (o := o) (h := h) (W := [131])
  have W := iv_wc iv
  refine w_run k_479232 (w_il (fun _ => rfl) ?_)
  refine w_ca (fun _ => rfl) rfl (c_isSheet (d := d) iv (n := sh) (by omega) (by omega)   (fun b1 b2 => ⟨_, rfl, ?_⟩) (fun b3 => ⟨_, rfl, ?_⟩))
  · refine w_nezt (by omega) (by omega) (by omega)  (w_run k_479242 (w_al (fun _ => rfl) ?_))
    obtain ⟨_, m4, rfl⟩ := iv_0 iv
    refine w_getf m4 rfl (fun _ => rfl) (w_il (fun _ => rfl) ?_)
    obtain ⟨_, m5, l5, rfl, ll5, lp5⟩ := iv_24 iv
    rcases lp5 (sh).toNat (by omega) with b7 | ⟨p6, b7, b8⟩
    · refine w_aaldI m5 (by omega) (by omega) (by decide) b7 (w_as (fun _ => rfl) (w_al (fun _ => rfl) (w_ifnn0 (w_icI (x := (-11)) wn_11 (w_ri ?_)))))
      exact k0 (-11) h iv F (by omega) (by omega)
    · refine w_aaldI m5 (by omega) (by omega) (by decide) b7 (w_as (fun _ => rfl) (w_al (fun _ => rfl) (w_ifnn1 (w_run k_479258 (w_al (fun _ => rfl) (w_il (fun _ => rfl) ?_))))))
      obtain ⟨_, m9, srt9, itm9, rfl, l9_srt, u9_srt, f9_0⟩ := iv_130 iv b8
      refine w_this (fun _ => rfl) m9 (w_ca (fun _ => rfl) rfl (w_run k_253952 (w_il (fun _ => rfl) ?_)))
      refine w_ltz2 (by omega) (by omega)  (fun c10 => ?_) (fun c10 => ?_)
      · refine w_run k_253969 (w_icI (x := 0) rfl (w_rz (by decide) ⟨_, rfl, ?_⟩))
        refine w_nezf (by omega) (by omega) (by omega)  (w_icI (x := (-12)) wn_12 (w_ri ?_))
        exact k0 (-12) h iv F (by omega) (by omega)
      · refine w_il (fun _ => rfl) (w_al (fun _ => rfl) (w_getf m9 rfl (fun _ => rfl) ?_))
        obtain ⟨_, m11, A11, rfl, g11_0⟩ := iv_131 iv f9_0
        refine w_len m11 (w_nat (by omega) ?_)
        refine w_ge2 (by omega) (by omega) (by omega) (by omega)  (fun c12 => ?_) (fun c12 => ?_)
        · refine w_run k_253969 (w_icI (x := 0) rfl (w_rz (by decide) ⟨_, rfl, ?_⟩))
          refine w_nezf (by omega) (by omega) (by omega)  (w_icI (x := (-12)) wn_12 (w_ri ?_))
          exact k0 (-12) h iv F (by omega) (by omega)
        · refine w_icI (x := 1) rfl (w_go (w_run k_253970 (w_rz (by decide) ⟨_, rfl, ?_⟩)))
          refine w_nezt (by omega) (by omega) (by omega)  (w_run k_479270 (w_al (fun _ => rfl) (w_il (fun _ => rfl) (w_il (fun _ => rfl) (w_this (fun _ => rfl) m9 (w_cv (fun _ => rfl) rfl (w_run k_262144 (w_al (fun _ => rfl) (w_getf m9 rfl (fun _ => rfl) (w_il (fun _ => rfl) (w_al (fun _ => rfl) (w_getf m9 rfl (fun _ => rfl) ?_))))))))))))
          refine w_nez2 (by omega) (by omega)  (fun c13 => ?_) (fun c13 => ?_)
          · refine w_run k_262161 (w_al (fun _ => rfl) (w_getf m9 rfl (fun _ => rfl) (w_icI (x := 1) rfl ?_)))
            refine w_ne2 (by omega) (by omega) (by omega) (by omega)  (fun c14 => ?_) (fun c14 => ?_)
            · refine w_run k_262174 (w_il (fun _ => rfl) (w_astI m11 (by omega) (by omega) (by omega) (by omega) (by omega) (fun A18 h16 w19 s15 => ?_)))
              have iv17 := is_131 iv f9_0 s15 ⟨_, rfl, by assumption⟩
              have F20 := fr_st F s15 (by rw [f9_0]; rfl)
              refine w_rv ⟨rfl, ?_⟩
              refine w_icI (x := 1) rfl (w_ri ?_)
              exact k0 1 h16 iv17 F20 (by omega) (by omega)
            · refine w_il (fun _ => rfl) (w_unR i2s_lt (fun x21 x210 x211 x21e => ?_))
              refine w_go (w_run k_262175 (w_astI m11 (by omega) (by omega) (by omega) (by omega) (by omega) (fun A25 h23 w26 s22 => ?_)))
              have iv24 := is_131 iv f9_0 s22 ⟨_, rfl, by assumption⟩
              have F27 := fr_st F s22 (by rw [f9_0]; rfl)
              refine w_rv ⟨rfl, ?_⟩
              refine w_icI (x := 1) rfl (w_ri ?_)
              exact k0 1 h23 iv24 F27 (by omega) (by omega)
          · refine w_il (fun _ => rfl) (w_unR i2b_lt (fun x28 x280 x281 x28e => ?_))
            refine w_go (w_run k_262175 (w_astI m11 (by omega) (by omega) (by omega) (by omega) (by omega) (fun A32 h30 w33 s29 => ?_)))
            have iv31 := is_131 iv f9_0 s29 ⟨_, rfl, by assumption⟩
            have F34 := fr_st F s29 (by rw [f9_0]; rfl)
            refine w_rv ⟨rfl, ?_⟩
            refine w_icI (x := 1) rfl (w_ri ?_)
            exact k0 1 h30 iv31 F34 (by omega) (by omega)
  · refine w_nezf (by omega) (by omega) (by omega)  (w_icI (x := (-2)) wn_2 (w_ri ?_))
    exact k0 (-2) h iv F (by omega) (by omega)
theorem k_483328 : m_cg 483328 = g_118_0 := rfl
theorem k_483345 : m_cg 483345 = g_118_17 := rfl
theorem k_483371 : m_cg 483371 = g_118_43 := rfl
theorem k_483374 : m_cg 483374 = g_118_46 := rfl
theorem k_483390 : m_cg 483390 = g_118_62 := rfl
theorem k_258048 : m_cg 258048 = g_63_0 := rfl
theorem k_258080 : m_cg 258080 = g_63_32 := rfl
theorem k_483413 : m_cg 483413 = g_118_85 := rfl
theorem k_258081 : m_cg 258081 = g_63_33 := rfl
theorem k_483416 : m_cg 483416 = g_118_88 := rfl
theorem k_483342 : m_cg 483342 = g_118_14 := rfl
theorem c_copy {g : w_G} {o : w_O} {h : m_H} {d : Nat} {Q : Option m_V → m_H → Prop} (iv : w_Inv g o h) {sh : Int} {n : Int} {ot : Int} {j : Int} {m : Int} (sh_lo : -2147483648 ≤ sh) (sh_hi : sh ≤ 2147483647) (n_lo : -2147483648 ≤ n) (n_hi : n ≤ 2147483647) (ot_lo : -2147483648 ≤ ot) (ot_hi : ot ≤ 2147483647) (j_lo : -2147483648 ≤ j) (j_hi : j ≤ 2147483647) (m_lo : -2147483648 ≤ m) (m_hi : m ≤ 2147483647) (k0 : ∀ (x : Int), ∀ h2 : m_H, w_Inv g o h2 → w_fr o [131] h h2 → -2147483648 ≤ x → x ≤ 2147483647 → Q (some (.inl (w_i x))) h2) : wp (d + 2) 483328 [.inr (.inl (some 0)), .inl (w_i sh), .inl (w_i n), .inl (w_i ot), .inl (w_i j), .inl (w_i m), .inr (.inr (.inl 0)), .inr (.inr (.inl 0))] [] h Q := by
  have F := fr_rf (o := o) (h := h) (W := [131])
  have W := iv_wc iv
  refine w_run k_483328 (w_il (fun _ => rfl) ?_)
  refine w_ca (fun _ => rfl) rfl (c_isSheet (d := d) iv (n := sh) (by omega) (by omega)   (fun b1 b2 => ⟨_, rfl, ?_⟩) (fun b3 => ⟨_, rfl, ?_⟩))
  · refine w_eqzf (by omega) (by omega) (by omega)  (w_il (fun _ => rfl) ?_)
    refine w_ca (fun _ => rfl) rfl (c_isSheet (d := d) iv (n := ot) (by omega) (by omega)   (fun b4 b5 => ⟨_, rfl, ?_⟩) (fun b6 => ⟨_, rfl, ?_⟩))
    · refine w_nezt (by omega) (by omega) (by omega)  (w_run k_483345 (w_al (fun _ => rfl) ?_))
      obtain ⟨_, m7, rfl⟩ := iv_0 iv
      refine w_getf m7 rfl (fun _ => rfl) (w_il (fun _ => rfl) ?_)
      obtain ⟨_, m8, l8, rfl, ll8, lp8⟩ := iv_24 iv
      rcases lp8 (sh).toNat (by omega) with b10 | ⟨p9, b10, b11⟩
      · refine w_aaldI m8 (by omega) (by omega) (by decide) b10 (w_as (fun _ => rfl) (w_al (fun _ => rfl) (w_getf m7 rfl (fun _ => rfl) (w_il (fun _ => rfl) ?_))))
        obtain ⟨_, m12, l12, rfl, ll12, lp12⟩ := iv_24 iv
        rcases lp12 (ot).toNat (by omega) with b14 | ⟨p13, b14, b15⟩
        · refine w_aaldI m12 (by omega) (by omega) (by decide) b14 (w_as (fun _ => rfl) (w_al (fun _ => rfl) (w_ifn0 (w_run k_483371 (w_icI (x := (-11)) wn_11 (w_ri ?_))))))
          exact k0 (-11) h iv F (by omega) (by omega)
        · refine w_aaldI m12 (by omega) (by omega) (by decide) b14 (w_as (fun _ => rfl) (w_al (fun _ => rfl) (w_ifn0 (w_run k_483371 (w_icI (x := (-11)) wn_11 (w_ri ?_))))))
          exact k0 (-11) h iv F (by omega) (by omega)
      · refine w_aaldI m8 (by omega) (by omega) (by decide) b10 (w_as (fun _ => rfl) (w_al (fun _ => rfl) (w_getf m7 rfl (fun _ => rfl) (w_il (fun _ => rfl) ?_))))
        obtain ⟨_, m16, l16, rfl, ll16, lp16⟩ := iv_24 iv
        rcases lp16 (ot).toNat (by omega) with b18 | ⟨p17, b18, b19⟩
        · refine w_aaldI m16 (by omega) (by omega) (by decide) b18 (w_as (fun _ => rfl) (w_al (fun _ => rfl) (w_ifn1 (w_al (fun _ => rfl) (w_ifnn0 (w_icI (x := (-11)) wn_11 (w_ri ?_)))))))
          exact k0 (-11) h iv F (by omega) (by omega)
        · refine w_aaldI m16 (by omega) (by omega) (by decide) b18 (w_as (fun _ => rfl) (w_al (fun _ => rfl) (w_ifn1 (w_al (fun _ => rfl) (w_ifnn1 (w_run k_483374 (w_al (fun _ => rfl) ?_)))))))
          obtain ⟨_, m20, srt20, itm20, rfl, l20_srt, u20_srt, f20_0⟩ := iv_130 iv b11
          refine w_getf m20 rfl (fun _ => rfl) (w_al (fun _ => rfl) ?_)
          obtain ⟨_, m21, srt21, itm21, rfl, l21_srt, u21_srt, f21_0⟩ := iv_130 iv b19
          refine w_getf m21 rfl (fun _ => rfl) ?_
          refine w_eq2 (by omega) (by omega) (by omega) (by omega)  (fun c22 => ?_) (fun c22 => ?_)
          · refine w_run k_483390 (w_al (fun _ => rfl) (w_il (fun _ => rfl) (w_il (fun _ => rfl) (w_this (fun _ => rfl) m20 (w_ca (fun _ => rfl) rfl (w_run k_258048 (w_il (fun _ => rfl) ?_)))))))
            refine w_ltz2 (by omega) (by omega)  (fun c23 => ?_) (fun c23 => ?_)
            · refine w_run k_258080 (w_icI (x := 0) rfl (w_rz (by decide) ⟨_, rfl, ?_⟩))
              refine w_eqzt (by omega) (by omega) (by omega)  (w_run k_483413 (w_icI (x := (-12)) wn_12 (w_ri ?_)))
              exact k0 (-12) h iv F (by omega) (by omega)
            · refine w_il (fun _ => rfl) ?_
              refine w_ltz2 (by omega) (by omega)  (fun c24 => ?_) (fun c24 => ?_)
              · refine w_run k_258080 (w_icI (x := 0) rfl (w_rz (by decide) ⟨_, rfl, ?_⟩))
                refine w_eqzt (by omega) (by omega) (by omega)  (w_run k_483413 (w_icI (x := (-12)) wn_12 (w_ri ?_)))
                exact k0 (-12) h iv F (by omega) (by omega)
              · refine w_il (fun _ => rfl) (w_al (fun _ => rfl) (w_getf m20 rfl (fun _ => rfl) ?_))
                obtain ⟨_, m25, A25, rfl, g25_0⟩ := iv_131 iv f20_0
                refine w_len m25 (w_nat (by omega) ?_)
                refine w_gt2 (by omega) (by omega) (by omega) (by omega)  (fun c26 => ?_) (fun c26 => ?_)
                · refine w_run k_258080 (w_icI (x := 0) rfl (w_rz (by decide) ⟨_, rfl, ?_⟩))
                  refine w_eqzt (by omega) (by omega) (by omega)  (w_run k_483413 (w_icI (x := (-12)) wn_12 (w_ri ?_)))
                  exact k0 (-12) h iv F (by omega) (by omega)
                · refine w_il (fun _ => rfl) (w_al (fun _ => rfl) (w_getf m20 rfl (fun _ => rfl) (w_len m25 (w_nat (by omega) (w_il (fun _ => rfl) (w_op (c := w_i (((o itm20).2 : Int) - n)) (i_sub ((o itm20).2 : Int) n) ?_))))))
                  refine w_gt2 (by omega) (by omega) (by omega) (by omega)  (fun c27 => ?_) (fun c27 => ?_)
                  · refine w_run k_258080 (w_icI (x := 0) rfl (w_rz (by decide) ⟨_, rfl, ?_⟩))
                    refine w_eqzt (by omega) (by omega) (by omega)  (w_run k_483413 (w_icI (x := (-12)) wn_12 (w_ri ?_)))
                    exact k0 (-12) h iv F (by omega) (by omega)
                  · refine w_icI (x := 1) rfl (w_go (w_run k_258081 (w_rz (by decide) ⟨_, rfl, ?_⟩)))
                    refine w_eqzf (by omega) (by omega) (by omega)  (w_al (fun _ => rfl) (w_il (fun _ => rfl) (w_il (fun _ => rfl) (w_this (fun _ => rfl) m21 (w_ca (fun _ => rfl) rfl (w_run k_258048 (w_il (fun _ => rfl) ?_)))))))
                    refine w_ltz2 (by omega) (by omega)  (fun c28 => ?_) (fun c28 => ?_)
                    · refine w_run k_258080 (w_icI (x := 0) rfl (w_rz (by decide) ⟨_, rfl, ?_⟩))
                      refine w_nezf (by omega) (by omega) (by omega)  (w_icI (x := (-12)) wn_12 (w_ri ?_))
                      exact k0 (-12) h iv F (by omega) (by omega)
                    · refine w_il (fun _ => rfl) (w_ltzf (by omega) (by omega) (by omega)  (w_il (fun _ => rfl) (w_al (fun _ => rfl) (w_getf m21 rfl (fun _ => rfl) ?_))))
                      obtain ⟨_, m29, A29, rfl, g29_0⟩ := iv_131 iv f21_0
                      refine w_len m29 (w_nat (by omega) ?_)
                      refine w_gt2 (by omega) (by omega) (by omega) (by omega)  (fun c30 => ?_) (fun c30 => ?_)
                      · refine w_run k_258080 (w_icI (x := 0) rfl (w_rz (by decide) ⟨_, rfl, ?_⟩))
                        refine w_nezf (by omega) (by omega) (by omega)  (w_icI (x := (-12)) wn_12 (w_ri ?_))
                        exact k0 (-12) h iv F (by omega) (by omega)
                      · refine w_il (fun _ => rfl) (w_al (fun _ => rfl) (w_getf m21 rfl (fun _ => rfl) (w_len m29 (w_nat (by omega) (w_il (fun _ => rfl) (w_op (c := w_i (((o itm21).2 : Int) - j)) (i_sub ((o itm21).2 : Int) j) ?_))))))
                        refine w_gt2 (by omega) (by omega) (by omega) (by omega)  (fun c31 => ?_) (fun c31 => ?_)
                        · refine w_run k_258080 (w_icI (x := 0) rfl (w_rz (by decide) ⟨_, rfl, ?_⟩))
                          refine w_nezf (by omega) (by omega) (by omega)  (w_icI (x := (-12)) wn_12 (w_ri ?_))
                          exact k0 (-12) h iv F (by omega) (by omega)
                        · refine w_icI (x := 1) rfl (w_go (w_run k_258081 (w_rz (by decide) ⟨_, rfl, ?_⟩)))
                          refine w_nezt (by omega) (by omega) (by omega)  (w_run k_483416 (w_al (fun _ => rfl) (w_getf m20 rfl (fun _ => rfl) (w_il (fun _ => rfl) (w_al (fun _ => rfl) (w_getf m21 rfl (fun _ => rfl) (w_il (fun _ => rfl) (w_il (fun _ => rfl) (w_cpyI m25 m29 (by omega) (by omega) (by omega) (by omega) (by omega) (by omega) (by omega) rfl (fun A35 h33 w36 s32 => ?_))))))))))
                          have iv34 := is_131 iv f21_0 s32 ⟨_, rfl, by assumption⟩
                          have F37 := fr_st F s32 (by rw [f21_0]; rfl)
                          refine w_il (fun _ => rfl) (w_ri ?_)
                          exact k0 m h33 iv34 F37 (by omega) (by omega)
          · refine w_icI (x := (-13)) wn_13 (w_ri ?_)
            exact k0 (-13) h iv F (by omega) (by omega)
    · refine w_nezf (by omega) (by omega) (by omega)  (w_icI (x := (-2)) wn_2 (w_ri ?_))
      exact k0 (-2) h iv F (by omega) (by omega)
  · refine w_eqzt (by omega) (by omega) (by omega)  (w_run k_483342 (w_icI (x := (-2)) wn_2 (w_ri ?_)))
    exact k0 (-2) h iv F (by omega) (by omega)
theorem k_458788 : m_cg 458788 = g_112_36 := rfl
theorem k_458842 : m_cg 458842 = g_112_90 := rfl
theorem l_drawn_36 {g : w_G} {o : w_O} {h0 : m_H} {d : Nat} {Q : Option m_V → m_H → Prop} {seed : Int} {n : Int} (seed_lo : -2147483648 ≤ seed) (seed_hi : seed ≤ 2147483647) (n_lo : -2147483648 ≤ n) (n_hi : n ≤ 2147483647) (k0 : ∀ (x : Int), ∀ h2 : m_H, w_Inv g o h2 → w_fr o [25, 27, 112] h0 h2 → -2147483648 ≤ x → x ≤ 2147483647 → Q (some (.inl (w_i x))) h2) : ∀ (k : Nat) (h : m_H) (z i : Int) (iv : w_Inv g o h) (F : w_fr o [25, 27, 112] h0 h) (z_lo : -2147483648 ≤ z) (z_hi : z ≤ 2147483647) (i_lo : -2147483648 ≤ i) (i_hi : i ≤ 2147483647) (i0 : 0 ≤ i) (i1 : i ≤ 200) (n1 : n ≤ 200), 200 - i < (k : Int) → wp (d + 6) 458788 [.inr (.inl (some 0)), .inl (w_i seed), .inl (w_i n), .inl (w_i z), .inl (w_i i)] [] h Q := by
  intro k
  induction k with
  | zero => intro h z i iv F z_lo z_hi i_lo i_hi i0 i1 n1 hk; exact absurd hk (by omega)
  | succ k ih =>
    intro h z i iv F z_lo z_hi i_lo i_hi i0 i1 n1 hk
    have W := iv_wc iv
    refine w_run k_458788 (w_il (fun _ => rfl) (w_il (fun _ => rfl) ?_))
    refine w_ge2 (by omega) (by omega) (by omega) (by omega)  (fun c1 => ?_) (fun c1 => ?_)
    · refine w_run k_458842 (w_al (fun _ => rfl) ?_)
      obtain ⟨_, m2, rfl⟩ := iv_0 iv
      refine w_getf m2 rfl (fun _ => rfl) (w_al (fun _ => rfl) (w_getf m2 rfl (fun _ => rfl) ?_))
      obtain ⟨_, m3, kp3, sp3, rl3, rfl, l3_kp, u3_kp, l3_sp, u3_sp, l3_rl, u3_rl, f3_0, f3_1⟩ := iv_1 iv
      refine w_this (fun _ => rfl) m3 ?_
      obtain ⟨_, m4, A4, rfl⟩ := iv_27 iv
      refine w_ca (fun _ => rfl) rfl (c_numberOfU (d := (d + 5)) iv (q := 27)  m4  (fun y5 b6 b7 => ⟨_, rfl, ?_⟩))
      refine w_ri ?_
      exact k0 y5 h iv F (by omega) (by omega)
    · refine w_il (fun _ => rfl) (w_icI (x := 1103515245) rfl (w_opR mul_lt (fun x8 x80 x81 x8e => ?_)))
      refine w_icI (x := 12345) rfl (w_opR add_lt (fun x9 x90 x91 x9e => ?_))
      refine w_is (fun _ => rfl) (w_al (fun _ => rfl) (w_icI (x := 5) rfl (w_il (fun _ => rfl) (w_icI (x := 8) rfl (w_opP (ushr_p (by decide) (by decide)) (fun x10 x100 x101 x10e => ?_))))))
      refine w_al (fun _ => rfl) ?_
      obtain ⟨_, m11, rfl⟩ := iv_0 iv
      refine w_getf m11 rfl (fun _ => rfl) ?_
      obtain ⟨_, m12, kp12, sp12, rl12, rfl, l12_kp, u12_kp, l12_sp, u12_sp, l12_rl, u12_rl, f12_0, f12_1⟩ := iv_1 iv
      refine w_getf m12 rfl (fun _ => rfl) (w_opz (c := w_i (x10 % g_H g)) (beq0 (by omega) (by omega) (by omega)) (i_rem (by omega) (by omega) (by omega) (by omega)) ?_)
      have b13 : 0 ≤ (x10 % g_H g) ∧ (x10 % g_H g) < g_H g := ⟨Int.emod_nonneg _ (by omega), Int.emod_lt_of_pos _ (by omega)⟩
      refine w_op (c := w_i (5 * (x10 % g_H g))) (i_mul 5 (x10 % g_H g)) (w_il (fun _ => rfl) (w_icI (x := 16) rfl (w_opP (ushr_p (by decide) (by decide)) (fun x14 x140 x141 x14e => ?_))))
      refine w_al (fun _ => rfl) (w_getf m11 rfl (fun _ => rfl) (w_getf m12 rfl (fun _ => rfl) (w_opz (c := w_i (x14 % g_C g)) (beq0 (by omega) (by omega) (by omega)) (i_rem (by omega) (by omega) (by omega) (by omega)) ?_)))
      have b15 : 0 ≤ (x14 % g_C g) ∧ (x14 % g_C g) < g_C g := ⟨Int.emod_nonneg _ (by omega), Int.emod_lt_of_pos _ (by omega)⟩
      refine w_op (c := w_i ((5 * (x10 % g_H g)) + (x14 % g_C g))) (i_add (5 * (x10 % g_H g)) (x14 % g_C g)) (w_this (fun _ => rfl) m11 ?_)
      refine w_ca (fun _ => rfl) rfl (c_tryStep (d := d) iv (step := ((5 * (x10 % g_H g)) + (x14 % g_C g))) (by omega) (by omega)   (fun y16 h17 iv18 F19 b20 b21 => ⟨_, rfl, ?_⟩))
      have F22 := fr_ca F F19 (fun t ht => by exact ht)
      refine w_pop (fun _ => rfl) (w_inc (c := w_i (i + 1)) (fun _ => rfl) (i_addL (y := 1) rfl i) (fun _ => rfl) (w_go ?_))
      exact ih h17 x9 (i + 1) iv18 F22 (by omega) (by omega) (by omega) (by omega)  (by omega) (by omega) (by omega) (by omega)
theorem k_458752 : m_cg 458752 = g_112_0 := rfl
theorem k_458765 : m_cg 458765 = g_112_13 := rfl
theorem c_drawn {g : w_G} {o : w_O} {h : m_H} {d : Nat} {Q : Option m_V → m_H → Prop} (iv : w_Inv g o h) {seed : Int} {n : Int} (seed_lo : -2147483648 ≤ seed) (seed_hi : seed ≤ 2147483647) (n_lo : -2147483648 ≤ n) (n_hi : n ≤ 2147483647) (k0 : ∀ (x : Int), ∀ h2 : m_H, w_Inv g o h2 → w_fr o [25, 27, 112] h h2 → -2147483648 ≤ x → x ≤ 2147483647 → Q (some (.inl (w_i x))) h2) : wp (d + 6) 458752 [.inr (.inl (some 0)), .inl (w_i seed), .inl (w_i n), .inr (.inr (.inl 0)), .inr (.inr (.inl 0))] [] h Q := by
  have F := fr_rf (o := o) (h := h) (W := [25, 27, 112])
  have W := iv_wc iv
  refine w_run k_458752 (w_il (fun _ => rfl) (w_icI (x := 200) rfl ?_))
  refine w_ca (fun _ => rfl) rfl (c_isWithin (d := (d + 5)) iv (n := n) (most := 200) (by omega) (by omega) (by omega) (by omega)   (fun b1 b2 => ⟨_, rfl, ?_⟩) (fun b3 => ⟨_, rfl, ?_⟩))
  · refine w_nezt (by omega) (by omega) (by omega)  (w_run k_458765 (w_al (fun _ => rfl) ?_))
    obtain ⟨_, m4, rfl⟩ := iv_0 iv
    refine w_getf m4 rfl (fun _ => rfl) ?_
    obtain ⟨_, m5, kp5, sp5, rl5, rfl, l5_kp, u5_kp, l5_sp, u5_sp, l5_rl, u5_rl, f5_0, f5_1⟩ := iv_1 iv
    refine w_getf m5 rfl (fun _ => rfl) (w_icI (x := 0) rfl (w_al (fun _ => rfl) (w_getf m4 rfl (fun _ => rfl) (w_icI (x := 0) rfl (w_icI (x := 6) rfl ?_)))))
    obtain ⟨_, m6, A6, rfl, e6⟩ := iv_3 iv
    obtain ⟨_, m7, A7, rfl⟩ := iv_27 iv
    refine w_cpyI m6 m7 (by omega) (by omega) (by omega) (by omega) (by omega) (by omega) (by omega) rfl (fun A11 h9 w12 s8 => ?_)
    have iv10 := is_27 iv s8 ⟨_, rfl⟩
    have F13 := fr_st F s8 (by rw [(ow_27 iv)]; rfl)
    refine w_il (fun _ => rfl) (w_is (fun _ => rfl) (w_icI (x := 0) rfl (w_is (fun _ => rfl) (w_nur k_458788 ?_))))
    exact l_drawn_36     seed_lo seed_hi n_lo n_hi     k0 (200 - 0 + 1 : Int).toNat h9 seed 0 iv10 F13 (by omega) (by omega) (by omega) (by omega)  (by omega) (by omega) (by omega) (by omega)
  · refine w_nezf (by omega) (by omega) (by omega)  (w_icI (x := (-2)) wn_2 (w_ri ?_))
    exact k0 (-2) h iv F (by omega) (by omega)
theorem k_454711 : m_cg 454711 = g_111_55 := rfl
theorem k_454764 : m_cg 454764 = g_111_108 := rfl
theorem k_454772 : m_cg 454772 = g_111_116 := rfl
theorem k_454774 : m_cg 454774 = g_111_118 := rfl
theorem k_454751 : m_cg 454751 = g_111_95 := rfl
theorem k_454748 : m_cg 454748 = g_111_92 := rfl
theorem k_454750 : m_cg 454750 = g_111_94 := rfl
theorem l_judge_55 {g : w_G} {o : w_O} {h0 : m_H} {d : Nat} {Q : Option m_V → m_H → Prop} {sh : Int} {what : Int} (sh_lo : -2147483648 ≤ sh) (sh_hi : sh ≤ 2147483647) (what_lo : -2147483648 ≤ what) (what_hi : what ≤ 2147483647) {p : Nat} (ht_p : (o p).1 = 130) (k0 : ∀ (x : Int), ∀ h2 : m_H, w_Inv g o h2 → w_fr o [25, 27, 112] h0 h2 → -2147483648 ≤ x → x ≤ 2147483647 → Q (some (.inl (w_i x))) h2) : ∀ (k : Nat) (h : m_H) (sum i : Int) (x6_ : m_V) (iv : w_Inv g o h) (F : w_fr o [25, 27, 112] h0 h) (sum_lo : -2147483648 ≤ sum) (sum_hi : sum ≤ 2147483647) (i_lo : -2147483648 ≤ i) (i_hi : i ≤ 2147483647) (i0 : 0 ≤ i) (i1 : i ≤ 40), 40 - i < (k : Int) → wp (d + 6) 454711 [.inr (.inl (some 0)), .inl (w_i sh), .inl (w_i what), .inr (.inl (some p)), .inl (w_i sum), .inl (w_i i), x6_] [] h Q := by
  intro k
  induction k with
  | zero => intro h sum i x6_ iv F sum_lo sum_hi i_lo i_hi i0 i1 hk; exact absurd hk (by omega)
  | succ k ih =>
    intro h sum i x6_ iv F sum_lo sum_hi i_lo i_hi i0 i1 hk
    have W := iv_wc iv
    refine w_run k_454711 (w_il (fun _ => rfl) (w_al (fun _ => rfl) ?_))
    obtain ⟨_, m1, srt1, itm1, rfl, l1_srt, u1_srt, f1_0⟩ := iv_130 iv ht_p
    refine w_getf m1 rfl (fun _ => rfl) ?_
    obtain ⟨_, m2, A2, rfl, g2_0⟩ := iv_131 iv f1_0
    refine w_len m2 (w_nat (by omega) ?_)
    refine w_ge2 (by omega) (by omega) (by omega) (by omega)  (fun c3 => ?_) (fun c3 => ?_)
    · refine w_run k_454764 (w_il (fun _ => rfl) ?_)
      refine w_nez2 (by omega) (by omega)  (fun c4 => ?_) (fun c4 => ?_)
      · refine w_run k_454772 (w_il (fun _ => rfl) (w_ri ?_))
        exact k0 sum h iv F (by omega) (by omega)
      · refine w_icI (x := (-1)) wn_1 (w_go (w_run k_454774 (w_ri ?_)))
        exact k0 (-1) h iv F (by omega) (by omega)
    · refine w_al (fun _ => rfl) (w_al (fun _ => rfl) (w_getf m1 rfl (fun _ => rfl) (w_il (fun _ => rfl) (w_aldI m2 (by omega) (by omega) (by omega) ?_))))
      obtain ⟨b5, b6⟩ := ag_rg A2 i
      obtain ⟨_, m7, rfl⟩ := iv_0 iv
      refine w_this (fun _ => rfl) m7 ?_
      refine w_ca (fun _ => rfl) rfl (c_tryStep (d := d) iv (step := (a_g A2 i)) (by omega) (by omega)   (fun y8 h9 iv10 F11 b12 b13 => ⟨_, rfl, ?_⟩))
      have F14 := fr_ca F F11 (fun t ht => by exact ht)
      refine w_is (fun _ => rfl) (w_il (fun _ => rfl) ?_)
      refine w_gez2 (by omega) (by omega)  (fun c15 => ?_) (fun c15 => ?_)
      · refine w_run k_454751 (w_il (fun _ => rfl) (w_il (fun _ => rfl) (w_opR add_lt (fun x16 x160 x161 x16e => ?_))))
        refine w_is (fun _ => rfl) (w_inc (c := w_i (i + 1)) (fun _ => rfl) (i_addL (y := 1) rfl i) (fun _ => rfl) (w_go ?_))
        exact ih h9 x16 (i + 1) (.inl (w_i y8)) iv10 F14 (by omega) (by omega) (by omega) (by omega)  (by omega) (by omega) (by omega)
      · refine w_il (fun _ => rfl) ?_
        refine w_nez2 (by omega) (by omega)  (fun c17 => ?_) (fun c17 => ?_)
        · refine w_run k_454748 (w_il (fun _ => rfl) (w_ri ?_))
          exact k0 sum h9 iv10 F14 (by omega) (by omega)
        · refine w_il (fun _ => rfl) (w_go (w_run k_454750 (w_ri ?_)))
          exact k0 i h9 iv10 F14 (by omega) (by omega)
theorem k_454656 : m_cg 454656 = g_111_0 := rfl
theorem k_454673 : m_cg 454673 = g_111_17 := rfl
theorem k_454687 : m_cg 454687 = g_111_31 := rfl
theorem k_454670 : m_cg 454670 = g_111_14 := rfl
theorem c_judge {g : w_G} {o : w_O} {h : m_H} {d : Nat} {Q : Option m_V → m_H → Prop} (iv : w_Inv g o h) {sh : Int} {what : Int} (sh_lo : -2147483648 ≤ sh) (sh_hi : sh ≤ 2147483647) (what_lo : -2147483648 ≤ what) (what_hi : what ≤ 2147483647) (k0 : ∀ (x : Int), ∀ h2 : m_H, w_Inv g o h2 → w_fr o [25, 27, 112] h h2 → -2147483648 ≤ x → x ≤ 2147483647 → Q (some (.inl (w_i x))) h2) : wp (d + 6) 454656 [.inr (.inl (some 0)), .inl (w_i sh), .inl (w_i what), .inr (.inr (.inl 0)), .inr (.inr (.inl 0)), .inr (.inr (.inl 0)), .inr (.inr (.inl 0))] [] h Q := by
  have F := fr_rf (o := o) (h := h) (W := [25, 27, 112])
  have W := iv_wc iv
  refine w_run k_454656 (w_il (fun _ => rfl) ?_)
  refine w_ca (fun _ => rfl) rfl (c_isSheet (d := (d + 4)) iv (n := sh) (by omega) (by omega)   (fun b1 b2 => ⟨_, rfl, ?_⟩) (fun b3 => ⟨_, rfl, ?_⟩))
  · refine w_eqzf (by omega) (by omega) (by omega)  (w_il (fun _ => rfl) ?_)
    refine w_ca (fun _ => rfl) rfl (c_isFlag (d := (d + 5)) iv (n := what) (by omega) (by omega)   (fun b4 b5 => ⟨_, rfl, ?_⟩) (fun b6 => ⟨_, rfl, ?_⟩))
    · refine w_nezt (by omega) (by omega) (by omega)  (w_run k_454673 (w_al (fun _ => rfl) ?_))
      obtain ⟨_, m7, rfl⟩ := iv_0 iv
      refine w_getf m7 rfl (fun _ => rfl) (w_il (fun _ => rfl) ?_)
      obtain ⟨_, m8, l8, rfl, ll8, lp8⟩ := iv_24 iv
      rcases lp8 (sh).toNat (by omega) with b10 | ⟨p9, b10, b11⟩
      · refine w_aaldI m8 (by omega) (by omega) (by decide) b10 (w_as (fun _ => rfl) (w_al (fun _ => rfl) (w_ifnn0 (w_icI (x := (-11)) wn_11 (w_ri ?_)))))
        exact k0 (-11) h iv F (by omega) (by omega)
      · refine w_aaldI m8 (by omega) (by omega) (by decide) b10 (w_as (fun _ => rfl) (w_al (fun _ => rfl) (w_ifnn1 (w_run k_454687 (w_al (fun _ => rfl) (w_getf m7 rfl (fun _ => rfl) ?_))))))
        obtain ⟨_, m12, kp12, sp12, rl12, rfl, l12_kp, u12_kp, l12_sp, u12_sp, l12_rl, u12_rl, f12_0, f12_1⟩ := iv_1 iv
        refine w_getf m12 rfl (fun _ => rfl) (w_icI (x := 0) rfl (w_al (fun _ => rfl) (w_getf m7 rfl (fun _ => rfl) (w_icI (x := 0) rfl (w_icI (x := 6) rfl ?_)))))
        obtain ⟨_, m13, A13, rfl, e13⟩ := iv_3 iv
        obtain ⟨_, m14, A14, rfl⟩ := iv_27 iv
        refine w_cpyI m13 m14 (by omega) (by omega) (by omega) (by omega) (by omega) (by omega) (by omega) rfl (fun A18 h16 w19 s15 => ?_)
        have iv17 := is_27 iv s15 ⟨_, rfl⟩
        have F20 := fr_st F s15 (by rw [(ow_27 iv)]; rfl)
        refine w_icI (x := 0) rfl (w_is (fun _ => rfl) (w_icI (x := 0) rfl (w_is (fun _ => rfl) (w_nur k_454711 ?_))))
        exact l_judge_55    (p := p9) sh_lo sh_hi what_lo what_hi  b11   k0 (40 - 0 + 1 : Int).toNat h16 0 0 (.inr (.inr (.inl 0))) iv17 F20 (by omega) (by omega) (by omega) (by omega)  (by omega) (by omega) (by omega)
    · refine w_nezf (by omega) (by omega) (by omega)  (w_icI (x := (-2)) wn_2 (w_ri ?_))
      exact k0 (-2) h iv F (by omega) (by omega)
  · refine w_eqzt (by omega) (by omega) (by omega)  (w_run k_454670 (w_icI (x := (-2)) wn_2 (w_ri ?_)))
    exact k0 (-2) h iv F (by omega) (by omega)
theorem k_487486 : m_cg 487486 = g_119_62 := rfl
theorem k_487549 : m_cg 487549 = g_119_125 := rfl
theorem k_487515 : m_cg 487515 = g_119_91 := rfl
theorem k_487543 : m_cg 487543 = g_119_119 := rfl
theorem l_paints_62 {g : w_G} {o : w_O} {h0 : m_H} {d : Nat} {Q : Option m_V → m_H → Prop} {sh : Int} {sort : Int} {fro : Int} {n : Int} (sh_lo : -2147483648 ≤ sh) (sh_hi : sh ≤ 2147483647) (sort_lo : -2147483648 ≤ sort) (sort_hi : sort ≤ 2147483647) (fro_lo : -2147483648 ≤ fro) (fro_hi : fro ≤ 2147483647) (n_lo : -2147483648 ≤ n) (n_hi : n ≤ 2147483647) {p : Nat} (ht_p : (o p).1 = 130) (k0 : ∀ (x : Int), ∀ h2 : m_H, w_Inv g o h2 → w_fr o [1, 3, 9, 25, 112] h0 h2 → -2147483648 ≤ x → x ≤ 2147483647 → Q (some (.inl (w_i x))) h2) : ∀ (k : Nat) (h : m_H) (tak k_ : Int) (x8_ : m_V) (iv : w_Inv g o h) (F : w_fr o [1, 3, 9, 25, 112] h0 h) (tak_lo : -2147483648 ≤ tak) (tak_hi : tak ≤ 2147483647) (k__lo : -2147483648 ≤ k_) (k__hi : k_ ≤ 2147483647) (t0_ : 0 ≤ tak) (t1_ : tak ≤ k_) (k0_ : 0 ≤ k_) (k1_ : k_ ≤ 20) (n1 : n ≤ 20), 20 - k_ < (k : Int) → wp (d + 6) 487486 [.inr (.inl (some 0)), .inl (w_i sh), .inl (w_i sort), .inl (w_i fro), .inl (w_i n), .inr (.inl (some p)), .inl (w_i tak), .inl (w_i k_), x8_] [] h Q := by
  intro k
  induction k with
  | zero => intro h tak k_ x8_ iv F tak_lo tak_hi k__lo k__hi t0_ t1_ k0_ k1_ n1 hk; exact absurd hk (by omega)
  | succ k ih =>
    intro h tak k_ x8_ iv F tak_lo tak_hi k__lo k__hi t0_ t1_ k0_ k1_ n1 hk
    have W := iv_wc iv
    refine w_run k_487486 (w_il (fun _ => rfl) (w_il (fun _ => rfl) ?_))
    refine w_ge2 (by omega) (by omega) (by omega) (by omega)  (fun c1 => ?_) (fun c1 => ?_)
    · refine w_run k_487549 (w_il (fun _ => rfl) (w_ri ?_))
      exact k0 tak h iv F (by omega) (by omega)
    · refine w_il (fun _ => rfl) (w_icI (x := 2) rfl (w_il (fun _ => rfl) (w_op (c := w_i (2 * k_)) (i_mul 2 k_) (w_opR add_lt (fun x2 x20 x21 x2e => ?_)))))
      refine w_is (fun _ => rfl) (w_al (fun _ => rfl) (w_il (fun _ => rfl) (w_icI (x := 2) rfl ?_)))
      obtain ⟨_, m3, srt3, itm3, rfl, l3_srt, u3_srt, f3_0⟩ := iv_130 iv ht_p
      refine w_this (fun _ => rfl) m3 (w_ca (fun _ => rfl) rfl (w_run k_258048 (w_il (fun _ => rfl) ?_)))
      refine w_ltz2 (by omega) (by omega)  (fun c4 => ?_) (fun c4 => ?_)
      · refine w_run k_258080 (w_icI (x := 0) rfl (w_rz (by decide) ⟨_, rfl, ?_⟩))
        refine w_nezf (by omega) (by omega) (by omega)  (w_icI (x := (-12)) wn_12 (w_ri ?_))
        exact k0 (-12) h iv F (by omega) (by omega)
      · refine w_il (fun _ => rfl) (w_ltzf (by omega) (by omega) (by omega)  (w_il (fun _ => rfl) (w_al (fun _ => rfl) (w_getf m3 rfl (fun _ => rfl) ?_))))
        obtain ⟨_, m5, A5, rfl, g5_0⟩ := iv_131 iv f3_0
        refine w_len m5 (w_nat (by omega) ?_)
        refine w_gt2 (by omega) (by omega) (by omega) (by omega)  (fun c6 => ?_) (fun c6 => ?_)
        · refine w_run k_258080 (w_icI (x := 0) rfl (w_rz (by decide) ⟨_, rfl, ?_⟩))
          refine w_nezf (by omega) (by omega) (by omega)  (w_icI (x := (-12)) wn_12 (w_ri ?_))
          exact k0 (-12) h iv F (by omega) (by omega)
        · refine w_il (fun _ => rfl) (w_al (fun _ => rfl) (w_getf m3 rfl (fun _ => rfl) (w_len m5 (w_nat (by omega) (w_il (fun _ => rfl) (w_op (c := w_i (((o itm3).2 : Int) - x2)) (i_sub ((o itm3).2 : Int) x2) ?_))))))
          refine w_gt2 (by omega) (by omega) (by omega) (by omega)  (fun c7 => ?_) (fun c7 => ?_)
          · refine w_run k_258080 (w_icI (x := 0) rfl (w_rz (by decide) ⟨_, rfl, ?_⟩))
            refine w_nezf (by omega) (by omega) (by omega)  (w_icI (x := (-12)) wn_12 (w_ri ?_))
            exact k0 (-12) h iv F (by omega) (by omega)
          · refine w_icI (x := 1) rfl (w_go (w_run k_258081 (w_rz (by decide) ⟨_, rfl, ?_⟩)))
            refine w_nezt (by omega) (by omega) (by omega)  (w_run k_487515 (w_al (fun _ => rfl) (w_al (fun _ => rfl) (w_getf m3 rfl (fun _ => rfl) (w_il (fun _ => rfl) (w_aldI m5 (by omega) (by omega) (by omega) ?_))))))
            obtain ⟨b8, b9⟩ := ag_rg A5 x2
            refine w_al (fun _ => rfl) (w_getf m3 rfl (fun _ => rfl) (w_il (fun _ => rfl) (w_icI (x := 1) rfl (w_op (c := w_i (x2 + 1)) (i_add x2 1) (w_aldI m5 (by omega) (by omega) (by omega) ?_)))))
            obtain ⟨b10, b11⟩ := ag_rg A5 (x2 + 1)
            obtain ⟨_, m12, rfl⟩ := iv_0 iv
            refine w_this (fun _ => rfl) m12 ?_
            refine w_ca (fun _ => rfl) rfl (c_paint (d := d) iv (house := (a_g A5 x2)) (colour := (a_g A5 (x2 + 1))) (by omega) (by omega) (by omega) (by omega)   (fun y13 h14 iv15 F16 b17 b18 => ⟨_, rfl, ?_⟩))
            have F19 := fr_ca F F16 (fun t ht => by exact ht)
            refine w_ltz2 (by omega) (by omega)  (fun c20 => ?_) (fun c20 => ?_)
            · refine w_run k_487543 (w_inc (c := w_i (k_ + 1)) (fun _ => rfl) (i_addL (y := 1) rfl k_) (fun _ => rfl) (w_go ?_))
              exact ih h14 tak (k_ + 1) (.inl (w_i x2)) iv15 F19 (by omega) (by omega) (by omega) (by omega)  (by omega) (by omega) (by omega) (by omega) (by omega) (by omega)
            · refine w_inc (c := w_i (tak + 1)) (fun _ => rfl) (i_addL (y := 1) rfl tak) (fun _ => rfl) (w_inc (c := w_i (k_ + 1)) (fun _ => rfl) (i_addL (y := 1) rfl k_) (fun _ => rfl) (w_go ?_))
              exact ih h14 (tak + 1) (k_ + 1) (.inl (w_i x2)) iv15 F19 (by omega) (by omega) (by omega) (by omega)  (by omega) (by omega) (by omega) (by omega) (by omega) (by omega)
theorem k_487424 : m_cg 487424 = g_119_0 := rfl
theorem k_487452 : m_cg 487452 = g_119_28 := rfl
theorem k_487468 : m_cg 487468 = g_119_44 := rfl
theorem k_487480 : m_cg 487480 = g_119_56 := rfl
theorem k_487449 : m_cg 487449 = g_119_25 := rfl
theorem c_paints {g : w_G} {o : w_O} {h : m_H} {d : Nat} {Q : Option m_V → m_H → Prop} (iv : w_Inv g o h) {sh : Int} {sort : Int} {fro : Int} {n : Int} (sh_lo : -2147483648 ≤ sh) (sh_hi : sh ≤ 2147483647) (sort_lo : -2147483648 ≤ sort) (sort_hi : sort ≤ 2147483647) (fro_lo : -2147483648 ≤ fro) (fro_hi : fro ≤ 2147483647) (n_lo : -2147483648 ≤ n) (n_hi : n ≤ 2147483647) (k0 : ∀ (x : Int), ∀ h2 : m_H, w_Inv g o h2 → w_fr o [1, 3, 9, 25, 112] h h2 → -2147483648 ≤ x → x ≤ 2147483647 → Q (some (.inl (w_i x))) h2) : wp (d + 6) 487424 [.inr (.inl (some 0)), .inl (w_i sh), .inl (w_i sort), .inl (w_i fro), .inl (w_i n), .inr (.inr (.inl 0)), .inr (.inr (.inl 0)), .inr (.inr (.inl 0)), .inr (.inr (.inl 0))] [] h Q := by
  have F := fr_rf (o := o) (h := h) (W := [1, 3, 9, 25, 112])
  have W := iv_wc iv
  refine w_run k_487424 (w_il (fun _ => rfl) ?_)
  refine w_ca (fun _ => rfl) rfl (c_isSheet (d := (d + 4)) iv (n := sh) (by omega) (by omega)   (fun b1 b2 => ⟨_, rfl, ?_⟩) (fun b3 => ⟨_, rfl, ?_⟩))
  · refine w_eqzf (by omega) (by omega) (by omega)  (w_il (fun _ => rfl) (w_icI (x := 2) rfl ?_))
    refine w_ca (fun _ => rfl) rfl (c_isWithin (d := (d + 5)) iv (n := sort) (most := 2) (by omega) (by omega) (by omega) (by omega)   (fun b4 b5 => ⟨_, rfl, ?_⟩) (fun b6 => ⟨_, rfl, ?_⟩))
    · refine w_eqzf (by omega) (by omega) (by omega)  (w_il (fun _ => rfl) (w_icI (x := 20) rfl ?_))
      refine w_ca (fun _ => rfl) rfl (c_isWithin (d := (d + 5)) iv (n := n) (most := 20) (by omega) (by omega) (by omega) (by omega)   (fun b7 b8 => ⟨_, rfl, ?_⟩) (fun b9 => ⟨_, rfl, ?_⟩))
      · refine w_nezt (by omega) (by omega) (by omega)  (w_run k_487452 (w_al (fun _ => rfl) ?_))
        obtain ⟨_, m10, rfl⟩ := iv_0 iv
        refine w_getf m10 rfl (fun _ => rfl) (w_il (fun _ => rfl) ?_)
        obtain ⟨_, m11, l11, rfl, ll11, lp11⟩ := iv_24 iv
        rcases lp11 (sh).toNat (by omega) with b13 | ⟨p12, b13, b14⟩
        · refine w_aaldI m11 (by omega) (by omega) (by decide) b13 (w_as (fun _ => rfl) (w_al (fun _ => rfl) (w_ifnn0 (w_icI (x := (-11)) wn_11 (w_ri ?_)))))
          exact k0 (-11) h iv F (by omega) (by omega)
        · refine w_aaldI m11 (by omega) (by omega) (by decide) b13 (w_as (fun _ => rfl) (w_al (fun _ => rfl) (w_ifnn1 (w_run k_487468 (w_al (fun _ => rfl) ?_)))))
          obtain ⟨_, m15, srt15, itm15, rfl, l15_srt, u15_srt, f15_0⟩ := iv_130 iv b14
          refine w_getf m15 rfl (fun _ => rfl) (w_il (fun _ => rfl) ?_)
          refine w_eq2 (by omega) (by omega) (by omega) (by omega)  (fun c16 => ?_) (fun c16 => ?_)
          · refine w_run k_487480 (w_icI (x := 0) rfl (w_is (fun _ => rfl) (w_icI (x := 0) rfl (w_is (fun _ => rfl) (w_nur k_487486 ?_)))))
            exact l_paints_62    (p := p12) sh_lo sh_hi sort_lo sort_hi fro_lo fro_hi n_lo n_hi  b14   k0 (20 - 0 + 1 : Int).toNat h 0 0 (.inr (.inr (.inl 0))) iv F (by omega) (by omega) (by omega) (by omega)  (by omega) (by omega) (by omega) (by omega) (by omega) (by omega)
          · refine w_icI (x := (-13)) wn_13 (w_ri ?_)
            exact k0 (-13) h iv F (by omega) (by omega)
      · refine w_nezf (by omega) (by omega) (by omega)  (w_icI (x := (-2)) wn_2 (w_ri ?_))
        exact k0 (-2) h iv F (by omega) (by omega)
    · refine w_eqzt (by omega) (by omega) (by omega)  (w_run k_487449 (w_icI (x := (-2)) wn_2 (w_ri ?_)))
      exact k0 (-2) h iv F (by omega) (by omega)
  · refine w_eqzt (by omega) (by omega) (by omega)  (w_run k_487449 (w_icI (x := (-2)) wn_2 (w_ri ?_)))
    exact k0 (-2) h iv F (by omega) (by omega)
theorem k_561191 : m_cg 561191 = g_137_39 := rfl
theorem k_561219 : m_cg 561219 = g_137_67 := rfl
theorem k_561226 : m_cg 561226 = g_137_74 := rfl
theorem l_tellPrices_39 {g : w_G} {o : w_O} {h0 : m_H} {d : Nat} {Q : Option m_V → m_H → Prop} {ho : Int} {f : Int} (ho_lo : -2147483648 ≤ ho) (ho_hi : ho ≤ 2147483647) (f_lo : -2147483648 ≤ f) (f_hi : f ≤ 2147483647) (h0_ : 0 ≤ ho) (h1_ : ho < g_H g) (f0_ : 0 ≤ f) (f1_ : f < g_C g) (k0 : ∀ h2 : m_H, w_Inv g o h2 → w_fr o [9, 10, 25, 112] h0 h2 → Q none h2) (kx : ∀ (t : Int), ∀ h2 : m_H, w_Inv g o h2 → w_fr o [9, 10, 25, 112] h0 h2 → -2147483648 ≤ t → t ≤ 2147483647 → wp (d + 4) 561235 [.inr (.inl (some 0)), .inl (w_i ho), .inl (w_i f), .inl (w_i t)] [] h2 Q) : ∀ (k : Nat) (h : m_H) (t : Int) (iv : w_Inv g o h) (F : w_fr o [9, 10, 25, 112] h0 h) (t_lo : -2147483648 ≤ t) (t_hi : t ≤ 2147483647) (t0_ : 0 ≤ t) (t1_ : t ≤ g_C g), g_C g - t < (k : Int) → wp (d + 4) 561191 [.inr (.inl (some 0)), .inl (w_i ho), .inl (w_i f), .inl (w_i t)] [] h Q := by
  intro k
  induction k with
  | zero => intro h t iv F t_lo t_hi t0_ t1_ hk; exact absurd hk (by omega)
  | succ k ih =>
    intro h t iv F t_lo t_hi t0_ t1_ hk
    have W := iv_wc iv
    refine w_run k_561191 (w_il (fun _ => rfl) (w_al (fun _ => rfl) ?_))
    obtain ⟨_, m1, rfl⟩ := iv_0 iv
    refine w_getf m1 rfl (fun _ => rfl) ?_
    obtain ⟨_, m2, kp2, sp2, rl2, rfl, l2_kp, u2_kp, l2_sp, u2_sp, l2_rl, u2_rl, f2_0, f2_1⟩ := iv_1 iv
    refine w_getf m2 rfl (fun _ => rfl) ?_
    refine w_ge2 (by omega) (by omega) (by omega) (by omega)  (fun c3 => ?_) (fun c3 => ?_)
    · exact kx t h iv F (by omega) (by omega)  
    · refine w_al (fun _ => rfl) (w_getf m1 rfl (fun _ => rfl) (w_il (fun _ => rfl) (w_il (fun _ => rfl) (w_il (fun _ => rfl) (w_il (fun _ => rfl) (w_il (fun _ => rfl) ?_))))))
      refine w_ne2 (by omega) (by omega) (by omega) (by omega)  (fun c4 => ?_) (fun c4 => ?_)
      · refine w_run k_561219 (w_al (fun _ => rfl) (w_il (fun _ => rfl) (w_il (fun _ => rfl) (w_il (fun _ => rfl) (w_this (fun _ => rfl) m1 ?_)))))
        refine w_ca (fun _ => rfl) rfl (c_price (d := d) iv (house := ho) (f := f) (t := t) (by omega) (by omega) (by omega) (by omega) (by omega) (by omega) (by omega) (by omega)  (fun y5 h6 iv7 F8 b9 b10 => ⟨_, rfl, ?_⟩))
        have F11 := fr_ca F F8 (fun t ht => by simp at ht ⊢; omega)
        obtain ⟨_, m12, kpr12, sta12, fnd12, kco12, rfl, l12_kpr, u12_kpr, l12_sta, u12_sta, l12_fnd, u12_fnd, l12_kco, u12_kco, f12_0, f12_1, f12_2, f12_3, f12_4, f12_5, f12_6⟩ := iv_9 iv7
        refine w_this (fun _ => rfl) m12 ?_
        refine w_cv (fun _ => rfl) rfl (c_setPrice (d := (d + 2)) iv7 (house := ho) (f := f) (t := t) (price := y5) (by omega) (by omega) (by omega) (by omega) (by omega) (by omega) (by omega) (by omega) (by omega) (by omega) (by omega) (by omega) (by omega) (by omega)  (fun h13 iv14 F15 => ⟨rfl, ?_⟩))
        have F16 := fr_ca F11 F15 (fun t ht => by simp at ht ⊢; omega)
        refine w_inc (c := w_i (t + 1)) (fun _ => rfl) (i_addL (y := 1) rfl t) (fun _ => rfl) (w_go ?_)
        exact ih h13 (t + 1) iv14 F16 (by omega) (by omega)  (by omega) (by omega) (by omega)
      · refine w_icI (x := (-5)) wn_5 (w_go (w_run k_561226 ?_))
        obtain ⟨_, m17, kpr17, sta17, fnd17, kco17, rfl, l17_kpr, u17_kpr, l17_sta, u17_sta, l17_fnd, u17_fnd, l17_kco, u17_kco, f17_0, f17_1, f17_2, f17_3, f17_4, f17_5, f17_6⟩ := iv_9 iv
        refine w_this (fun _ => rfl) m17 ?_
        refine w_cv (fun _ => rfl) rfl (c_setPrice (d := (d + 2)) iv (house := ho) (f := f) (t := t) (price := (-5)) (by omega) (by omega) (by omega) (by omega) (by omega) (by omega) (by omega) (by omega) (by omega) (by omega) (by omega) (by omega) (by omega) (by omega)  (fun h18 iv19 F20 => ⟨rfl, ?_⟩))
        have F21 := fr_ca F F20 (fun t ht => by simp at ht ⊢; omega)
        refine w_inc (c := w_i (t + 1)) (fun _ => rfl) (i_addL (y := 1) rfl t) (fun _ => rfl) (w_go ?_)
        exact ih h18 (t + 1) iv19 F21 (by omega) (by omega)  (by omega) (by omega) (by omega)
theorem k_561178 : m_cg 561178 = g_137_26 := rfl
theorem k_561235 : m_cg 561235 = g_137_83 := rfl
theorem l_tellPrices_26 {g : w_G} {o : w_O} {h0 : m_H} {d : Nat} {Q : Option m_V → m_H → Prop} {ho : Int} (ho_lo : -2147483648 ≤ ho) (ho_hi : ho ≤ 2147483647) (h0_ : 0 ≤ ho) (h1_ : ho < g_H g) (k0 : ∀ h2 : m_H, w_Inv g o h2 → w_fr o [9, 10, 25, 112] h0 h2 → Q none h2) (kx : ∀ (x3_ : m_V), ∀ (f : Int), ∀ h2 : m_H, w_Inv g o h2 → w_fr o [9, 10, 25, 112] h0 h2 → -2147483648 ≤ f → f ≤ 2147483647 → wp (d + 4) 561241 [.inr (.inl (some 0)), .inl (w_i ho), .inl (w_i f), x3_] [] h2 Q) : ∀ (k : Nat) (h : m_H) (f : Int) (x3_ : m_V) (iv : w_Inv g o h) (F : w_fr o [9, 10, 25, 112] h0 h) (f_lo : -2147483648 ≤ f) (f_hi : f ≤ 2147483647) (f0_ : 0 ≤ f) (f1_ : f ≤ g_C g), g_C g - f < (k : Int) → wp (d + 4) 561178 [.inr (.inl (some 0)), .inl (w_i ho), .inl (w_i f), x3_] [] h Q := by
  intro k
  induction k with
  | zero => intro h f x3_ iv F f_lo f_hi f0_ f1_ hk; exact absurd hk (by omega)
  | succ k ih =>
    intro h f x3_ iv F f_lo f_hi f0_ f1_ hk
    have W := iv_wc iv
    refine w_run k_561178 (w_il (fun _ => rfl) (w_al (fun _ => rfl) ?_))
    obtain ⟨_, m1, rfl⟩ := iv_0 iv
    refine w_getf m1 rfl (fun _ => rfl) ?_
    obtain ⟨_, m2, kp2, sp2, rl2, rfl, l2_kp, u2_kp, l2_sp, u2_sp, l2_rl, u2_rl, f2_0, f2_1⟩ := iv_1 iv
    refine w_getf m2 rfl (fun _ => rfl) ?_
    refine w_ge2 (by omega) (by omega) (by omega) (by omega)  (fun c3 => ?_) (fun c3 => ?_)
    · exact kx (x3_) f h iv F (by omega) (by omega)  
    · refine w_icI (x := 0) rfl (w_is (fun _ => rfl) (w_nur k_561191 ?_))
      refine l_tellPrices_39   (ho := ho) (f := f)     (by omega) (by omega) (by omega) (by omega) (by omega) (by omega) (by omega) (by omega) k0 (fun t4 h5 iv6 F7 b8 b9 => ?_) (g_C g - 0 + 1 : Int).toNat h 0 iv F (by omega) (by omega)  (by omega) (by omega) (by omega)
      refine w_run k_561235 (w_inc (c := w_i (f + 1)) (fun _ => rfl) (i_addL (y := 1) rfl f) (fun _ => rfl) (w_go ?_))
      exact ih h5 (f + 1) (.inl (w_i t4)) iv6 F7 (by omega) (by omega)  (by omega) (by omega) (by omega)
theorem k_561165 : m_cg 561165 = g_137_13 := rfl
theorem k_561247 : m_cg 561247 = g_137_95 := rfl
theorem k_561241 : m_cg 561241 = g_137_89 := rfl
theorem l_tellPrices_13 {g : w_G} {o : w_O} {h0 : m_H} {d : Nat} {Q : Option m_V → m_H → Prop} (k0 : ∀ h2 : m_H, w_Inv g o h2 → w_fr o [9, 10, 25, 112] h0 h2 → Q none h2) : ∀ (k : Nat) (h : m_H) (ho : Int) (x2_ : m_V) (x3_ : m_V) (iv : w_Inv g o h) (F : w_fr o [9, 10, 25, 112] h0 h) (ho_lo : -2147483648 ≤ ho) (ho_hi : ho ≤ 2147483647) (h0_ : 0 ≤ ho) (h1_ : ho ≤ g_H g), g_H g - ho < (k : Int) → wp (d + 4) 561165 [.inr (.inl (some 0)), .inl (w_i ho), x2_, x3_] [] h Q := by
  intro k
  induction k with
  | zero => intro h ho x2_ x3_ iv F ho_lo ho_hi h0_ h1_ hk; exact absurd hk (by omega)
  | succ k ih =>
    intro h ho x2_ x3_ iv F ho_lo ho_hi h0_ h1_ hk
    have W := iv_wc iv
    refine w_run k_561165 (w_il (fun _ => rfl) (w_al (fun _ => rfl) ?_))
    obtain ⟨_, m1, rfl⟩ := iv_0 iv
    refine w_getf m1 rfl (fun _ => rfl) ?_
    obtain ⟨_, m2, kp2, sp2, rl2, rfl, l2_kp, u2_kp, l2_sp, u2_sp, l2_rl, u2_rl, f2_0, f2_1⟩ := iv_1 iv
    refine w_getf m2 rfl (fun _ => rfl) ?_
    refine w_ge2 (by omega) (by omega) (by omega) (by omega)  (fun c3 => ?_) (fun c3 => ?_)
    · refine w_run k_561247 (w_al (fun _ => rfl) (w_getf m1 rfl (fun _ => rfl) (w_icI (x := 1) rfl ?_)))
      obtain ⟨_, m4, kpr4, sta4, fnd4, kco4, rfl, l4_kpr, u4_kpr, l4_sta, u4_sta, l4_fnd, u4_fnd, l4_kco, u4_kco, f4_0, f4_1, f4_2, f4_3, f4_4, f4_5, f4_6⟩ := iv_9 iv
      refine w_putf [.inr (.inl (some 1)), .inr (.inl (some 10)), .inl (w_i 1), .inr (.inl (some 11)), .inl (w_i sta4), .inr (.inl (some (g_rw g))), .inl (w_i fnd4), .inr (.inl (some (g_stp g))), .inr (.inl (some (g_ahd g))), .inr (.inl (some (g_cst g))), .inr (.inl (some (g_chp g))), .inl (w_i kco4)] m4 rfl rfl rfl (fun _ => rfl) (fun h6 s5 => ?_)
      have iv7 := is_9 iv s5 ⟨_, _, _, _, rfl, by omega, by omega, by omega, by omega, by omega, by omega, by omega, by omega, by omega, by omega, by omega, by omega, by omega, by omega, by omega⟩
      have F8 := fr_st F s5 (by rw [(ow_9 iv)]; rfl)
      refine w_rv ?_
      exact k0 h6 iv7 F8
    · refine w_icI (x := 0) rfl (w_is (fun _ => rfl) (w_nur k_561178 ?_))
      refine l_tellPrices_26   (ho := ho)     (by omega) (by omega) (by omega) (by omega) k0 (fun z10 f9 h11 iv12 F13 b14 b15 => ?_) (g_C g - 0 + 1 : Int).toNat h 0 (x3_) iv F (by omega) (by omega)  (by omega) (by omega) (by omega)
      refine w_run k_561241 (w_inc (c := w_i (ho + 1)) (fun _ => rfl) (i_addL (y := 1) rfl ho) (fun _ => rfl) (w_go ?_))
      exact ih h11 (ho + 1) (.inl (w_i f9)) (z10) iv12 F13 (by omega) (by omega)  (by omega) (by omega) (by omega)
theorem k_561152 : m_cg 561152 = g_137_0 := rfl
theorem k_561163 : m_cg 561163 = g_137_11 := rfl
theorem c_tellPrices {g : w_G} {o : w_O} {h : m_H} {d : Nat} {Q : Option m_V → m_H → Prop} (iv : w_Inv g o h) (k0 : ∀ h2 : m_H, w_Inv g o h2 → w_fr o [9, 10, 25, 112] h h2 → Q none h2) : wp (d + 4) 561152 [.inr (.inl (some 0)), .inr (.inr (.inl 0)), .inr (.inr (.inl 0)), .inr (.inr (.inl 0))] [] h Q := by
  have F := fr_rf (o := o) (h := h) (W := [9, 10, 25, 112])
  have W := iv_wc iv
  refine w_run k_561152 (w_al (fun _ => rfl) ?_)
  obtain ⟨_, m1, rfl⟩ := iv_0 iv
  refine w_getf m1 rfl (fun _ => rfl) ?_
  obtain ⟨_, m2, kpr2, sta2, fnd2, kco2, rfl, l2_kpr, u2_kpr, l2_sta, u2_sta, l2_fnd, u2_fnd, l2_kco, u2_kco, f2_0, f2_1, f2_2, f2_3, f2_4, f2_5, f2_6⟩ := iv_9 iv
  refine w_getf m2 rfl (fun _ => rfl) ?_
  refine w_eqz2 (by omega) (by omega)  (fun c3 => ?_) (fun c3 => ?_)
  · refine w_run k_561163 (w_icI (x := 0) rfl (w_is (fun _ => rfl) (w_nur k_561165 ?_)))
    exact l_tellPrices_13          k0 (g_H g - 0 + 1 : Int).toNat h 0 (.inr (.inr (.inl 0))) (.inr (.inr (.inl 0))) iv F (by omega) (by omega)  (by omega) (by omega) (by omega)
  · refine w_rv ?_
    exact k0 h iv F
