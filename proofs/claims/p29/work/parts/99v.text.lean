theorem k_716825 : m_cg 716825 = g_175_25 := rfl
theorem k_716894 : m_cg 716894 = g_175_94 := rfl
theorem k_716911 : m_cg 716911 = g_175_111 := rfl
theorem k_716912 : m_cg 716912 = g_175_112 := rfl
theorem k_716932 : m_cg 716932 = g_175_132 := rfl
theorem k_716858 : m_cg 716858 = g_175_58 := rfl
theorem k_716888 : m_cg 716888 = g_175_88 := rfl
theorem k_716859 : m_cg 716859 = g_175_59 := rfl
theorem k_716867 : m_cg 716867 = g_175_67 := rfl
theorem l_mText_25 {g : w_G} {o : w_O} {h0 : m_H} {d : Nat} {Q : Option m_V → m_H → Prop} (k0 : ∀ (x : Int) (g2 : w_G) (h2 : m_H), w_Inv g2 o h2 → w_ch [10] [6] g g2 → h2.1 = h.1 → h2.2.1 = h.2.1 → Q (some (.inl (w_i x))) h2) (k1 : ∀ (x : Int), ∀ h2 : m_H, w_Inv g o h2 → w_fr o [31, 51, 52, 53] h0 h2 → -2147483648 ≤ x → x ≤ 2147483647 → Q (some (.inl (w_i x))) h2) : ∀ (k : Nat) (h : m_H) (good k_ : Int) (iv : w_Inv g o h) (F : w_fr o [31, 51, 52, 53] h0 h) (rr : w_rr g o h good (3 * g_mnt g + k_)) (good_lo : -2147483648 ≤ good) (good_hi : good ≤ 2147483647) (k__lo : -2147483648 ≤ k_) (k__hi : k_ ≤ 2147483647) (o0_ : 0 ≤ good) (o1_ : good ≤ 1) (k0_ : 0 ≤ k_) (k1_ : k_ ≤ 3) (t5_ : g_mnt g ≤ 5), 3 - k_ < (k : Int) → wp (d + 6) 716825 [.inr (.inl (some 31)), .inl (w_i good), .inl (w_i k_)] [] h Q := by
  intro k
  induction k with
  | zero => intro h good k_ iv F rr good_lo good_hi k__lo k__hi o0_ o1_ k0_ k1_ t5_ hk; exact absurd hk (by omega)
  | succ k ih =>
    intro h good k_ iv F rr good_lo good_hi k__lo k__hi o0_ o1_ k0_ k1_ t5_ hk
    have W := iv_wm iv
    refine w_run k_716825 (w_il (fun _ => rfl) (w_icI (x := 3) rfl ?_))
    refine w_ge2 (by omega) (by omega) (by omega) (by omega)  (fun c1 => ?_) (fun c1 => ?_)
    · refine w_run k_716894 (w_il (fun _ => rfl) ?_)
      refine w_eqz2 (by omega) (by omega)  (fun c2 => ?_) (fun c2 => ?_)
      · refine w_run k_716911 (w_icI (x := 0) rfl (w_is (fun _ => rfl) (w_al (fun _ => rfl) ?_)))
        obtain ⟨_, m3, spr3, kee3, rul3, tpd3, nxt3, tok3, tka3, val3, opn3, hm3, row3, ksp3, kke3, kru3, rfl, l3_spr, u3_spr, l3_kee, u3_kee, l3_rul, u3_rul, l3_tpd, u3_tpd, l3_nxt, u3_nxt, l3_tok, u3_tok, l3_tka, u3_tka, l3_val, u3_val, l3_opn, u3_opn, l3_hm, u3_hm, l3_row, u3_row, l3_ksp, u3_ksp, l3_kke, u3_kke, l3_kru, u3_kru, f3_0, f3_1, f3_2, f3_3, f3_4, f3_5, f3_6, f3_7, f3_8, f3_9⟩ := iv_31 iv
        refine w_getf m3 rfl (fun _ => rfl) (w_is (fun _ => rfl) ?_)
        refine w_al (fun _ => rfl) (w_icI (x := 0) rfl (w_putf [.inr (.inl (some 32)), .inr (.inl (some 33)), .inr (.inl (some 34)), .inr (.inl (some 35)), .inr (.inl (some 36)), .inl (w_i (g_mH g)), .inl (w_i (g_mC g)), .inl (w_i spr3), .inl (w_i kee3), .inl (w_i (g_mnp g)), .inl (w_i rul3), .inl (w_i (g_mhi g)), .inr (.inl (some 37)), .inr (.inl (some 50)), .inr (.inl (some 51)), .inr (.inl (some 52)), .inr (.inl (some 53)), .inr (.inl (some 54)), .inl (w_i 0), .inl (w_i (g_mnt g)), .inl (w_i nxt3), .inl (w_i tok3), .inl (w_i tka3), .inl (w_i val3), .inl (w_i opn3), .inl (w_i hm3), .inl (w_i row3), .inr (.inl (some 55)), .inr (.inl (some 56)), .inr (.inl (some 57)), .inr (.inl (some 58)), .inr (.inl (some 59)), .inr (.inl (some 60)), .inr (.inl (some 61)), .inr (.inl (some 62)), .inl (w_i ksp3), .inl (w_i kke3), .inl (w_i kru3), .inr (.inl (some 63)), .inr (.inl (some 64)), .inr (.inl (some 65)), .inr (.inl (some 66))] m3 rfl rfl rfl (fun _ => rfl) (fun h5 s4 => ?_)))
        have iv6 := is_31 iv s4 ⟨_, _, _, _, _, _, _, _, _, _, _, _, _, _, rfl, by omega, by omega, by omega, by omega, by omega, by omega, by omega, by omega, by omega, by omega, by omega, by omega, by omega, by omega, by omega, by omega, by omega, by omega, by omega, by omega, by omega, by omega, by omega, by omega, by omega, by omega, by omega, by omega, by omega, by omega, by omega, by omega, by omega, by omega, by omega, by omega, by omega, by omega⟩
        have F7 := fr_st F s4 (by rw [(ow_31 iv)]; rfl)
        refine w_il (fun _ => rfl) (w_nezf (by omega) (by omega) (by omega)  (w_icI (x := (-100)) wn_100 (w_il (fun _ => rfl) (w_op (c := w_i ((-100) - tka3)) (i_sub (-100) tka3) (w_ri ?_)))))
        exact k1 ((-100) - tka3) h5 iv6 F7 (by omega) (by omega)
      · refine w_al (fun _ => rfl) ?_
        obtain ⟨_, m8, spr8, kee8, rul8, tpd8, nxt8, tok8, tka8, val8, opn8, hm8, row8, ksp8, kke8, kru8, rfl, l8_spr, u8_spr, l8_kee, u8_kee, l8_rul, u8_rul, l8_tpd, u8_tpd, l8_nxt, u8_nxt, l8_tok, u8_tok, l8_tka, u8_tka, l8_val, u8_val, l8_opn, u8_opn, l8_hm, u8_hm, l8_row, u8_row, l8_ksp, u8_ksp, l8_kke, u8_kke, l8_kru, u8_kru, f8_0, f8_1, f8_2, f8_3, f8_4, f8_5, f8_6, f8_7, f8_8, f8_9⟩ := iv_31 iv
        refine w_getf m8 rfl (fun _ => rfl) (w_icI (x := 103) rfl ?_)
        refine w_ne2 (by omega) (by omega) (by omega) (by omega)  (fun c9 => ?_) (fun c9 => ?_)
        · refine w_run k_716911 (w_icI (x := 0) rfl (w_is (fun _ => rfl) (w_al (fun _ => rfl) (w_getf m8 rfl (fun _ => rfl) (w_is (fun _ => rfl) ?_)))))
          refine w_al (fun _ => rfl) (w_icI (x := 0) rfl (w_putf [.inr (.inl (some 32)), .inr (.inl (some 33)), .inr (.inl (some 34)), .inr (.inl (some 35)), .inr (.inl (some 36)), .inl (w_i (g_mH g)), .inl (w_i (g_mC g)), .inl (w_i spr8), .inl (w_i kee8), .inl (w_i (g_mnp g)), .inl (w_i rul8), .inl (w_i (g_mhi g)), .inr (.inl (some 37)), .inr (.inl (some 50)), .inr (.inl (some 51)), .inr (.inl (some 52)), .inr (.inl (some 53)), .inr (.inl (some 54)), .inl (w_i 0), .inl (w_i (g_mnt g)), .inl (w_i nxt8), .inl (w_i tok8), .inl (w_i tka8), .inl (w_i val8), .inl (w_i opn8), .inl (w_i hm8), .inl (w_i row8), .inr (.inl (some 55)), .inr (.inl (some 56)), .inr (.inl (some 57)), .inr (.inl (some 58)), .inr (.inl (some 59)), .inr (.inl (some 60)), .inr (.inl (some 61)), .inr (.inl (some 62)), .inl (w_i ksp8), .inl (w_i kke8), .inl (w_i kru8), .inr (.inl (some 63)), .inr (.inl (some 64)), .inr (.inl (some 65)), .inr (.inl (some 66))] m8 rfl rfl rfl (fun _ => rfl) (fun h11 s10 => ?_)))
          have iv12 := is_31 iv s10 ⟨_, _, _, _, _, _, _, _, _, _, _, _, _, _, rfl, by omega, by omega, by omega, by omega, by omega, by omega, by omega, by omega, by omega, by omega, by omega, by omega, by omega, by omega, by omega, by omega, by omega, by omega, by omega, by omega, by omega, by omega, by omega, by omega, by omega, by omega, by omega, by omega, by omega, by omega, by omega, by omega, by omega, by omega, by omega, by omega, by omega, by omega⟩
          have F13 := fr_st F s10 (by rw [(ow_31 iv)]; rfl)
          refine w_il (fun _ => rfl) (w_nezf (by omega) (by omega) (by omega)  (w_icI (x := (-100)) wn_100 (w_il (fun _ => rfl) (w_op (c := w_i ((-100) - tka8)) (i_sub (-100) tka8) (w_ri ?_)))))
          exact k1 ((-100) - tka8) h11 iv12 F13 (by omega) (by omega)
        · refine w_icI (x := 1) rfl (w_go (w_run k_716912 (w_is (fun _ => rfl) (w_al (fun _ => rfl) (w_getf m8 rfl (fun _ => rfl) (w_is (fun _ => rfl) ?_))))))
          obtain ⟨rwo, hmo, A0, B0, x0, pa0, pb0, hrows⟩ := rr (by omega)
          refine w_al (fun _ => rfl) (w_icI (x := 0) rfl (w_putf [.inr (.inl (some 32)), .inr (.inl (some 33)), .inr (.inl (some 34)), .inr (.inl (some 35)), .inr (.inl (some 36)), .inl (w_i (g_mH g)), .inl (w_i (g_mC g)), .inl (w_i spr8), .inl (w_i kee8), .inl (w_i (g_mnp g)), .inl (w_i rul8), .inl (w_i (g_mhi g)), .inr (.inl (some 37)), .inr (.inl (some 50)), .inr (.inl (some 51)), .inr (.inl (some 52)), .inr (.inl (some 53)), .inr (.inl (some 54)), .inl (w_i 0), .inl (w_i (g_mnt g)), .inl (w_i nxt8), .inl (w_i tok8), .inl (w_i tka8), .inl (w_i val8), .inl (w_i opn8), .inl (w_i hm8), .inl (w_i row8), .inr (.inl (some 55)), .inr (.inl (some 56)), .inr (.inl (some 57)), .inr (.inl (some 58)), .inr (.inl (some 59)), .inr (.inl (some 60)), .inr (.inl (some 61)), .inr (.inl (some 62)), .inl (w_i ksp8), .inl (w_i kke8), .inl (w_i kru8), .inr (.inl (some 63)), .inr (.inl (some 64)), .inr (.inl (some 65)), .inr (.inl (some 66))] m8 rfl rfl rfl (fun _ => rfl) (fun h15 s14 => ?_)))
          have iv16 := is_31 iv s14 ⟨_, _, _, _, _, _, _, _, _, _, _, _, _, _, rfl, by omega, by omega, by omega, by omega, by omega, by omega, by omega, by omega, by omega, by omega, by omega, by omega, by omega, by omega, by omega, by omega, by omega, by omega, by omega, by omega, by omega, by omega, by omega, by omega, by omega, by omega, by omega, by omega, by omega, by omega, by omega, by omega, by omega, by omega, by omega, by omega, by omega, by omega⟩
          have F17 := fr_st F s14 (by rw [(ow_31 iv)]; rfl)
          refine w_il (fun _ => rfl) (w_nezt (by omega) (by omega) (by omega)  (w_run k_716932 ?_))
          have m18 := st_fr s14 pa0 (by decide)
          have m19 := st_fr s14 pb0 (by decide)
          have z20 := iv16.2.2.2.2.1
          have z20w := iv16.1
          refine w_al (fun _ => rfl) (w_dup (fun _ => rfl) (w_getf s14.2.2.1 rfl (fun _ => rfl) (w_icI (x := 1) rfl (w_op (c := w_i (g_mnt g + 1)) (i_add (g_mnt g) 1) (w_putf [.inr (.inl (some 32)), .inr (.inl (some 33)), .inr (.inl (some 34)), .inr (.inl (some 35)), .inr (.inl (some 36)), .inl (w_i (g_mH g)), .inl (w_i (g_mC g)), .inl (w_i spr8), .inl (w_i kee8), .inl (w_i (g_mnp g)), .inl (w_i rul8), .inl (w_i (g_mhi g)), .inr (.inl (some 37)), .inr (.inl (some 50)), .inr (.inl (some 51)), .inr (.inl (some 52)), .inr (.inl (some 53)), .inr (.inl (some 54)), .inl (w_i 0), .inl (w_i (g_mnt g + 1)), .inl (w_i nxt8), .inl (w_i tok8), .inl (w_i tka8), .inl (w_i val8), .inl (w_i opn8), .inl (w_i hm8), .inl (w_i row8), .inr (.inl (some 55)), .inr (.inl (some 56)), .inr (.inl (some 57)), .inr (.inl (some 58)), .inr (.inl (some 59)), .inr (.inl (some 60)), .inr (.inl (some 61)), .inr (.inl (some 62)), .inl (w_i ksp8), .inl (w_i kke8), .inl (w_i kru8), .inr (.inl (some 63)), .inr (.inl (some 64)), .inr (.inl (some 65)), .inr (.inl (some 66))] s14.2.2.1 rfl rfl rfl (fun _ => rfl) (fun h22 s21 => ?_))))))
          have z24 := s21.1
          have z24y := s21.2.1
          have z24w := s21.2.2.2.2 z20w
          refine w_al (fun _ => rfl) (w_getf s21.2.2.1 rfl (fun _ => rfl) (w_icI (x := 1) rfl (w_op (c := w_i ((g_mnt g + 1) - 1)) (i_sub (g_mnt g + 1) 1) (w_ri ?_))))
          have F1 := F17.1
          have F2 := F17.2.1
          have m25 := st_fr s21 m19 (by decide)
          have m26 := st_fr s21 m18 (by decide)
          have gz : g_mnt (g_mtx g B0) = g_mnt g + 1 := rfl
          have ivn := mtx_fin (e := _) iv16 (by omega) m18 m19 (fun i i0 i1 => hrows i i0 (by omega)) s21 ⟨_, _, _, _, _, _, _, _, _, _, _, _, _, _, rfl, by omega, by omega, by omega, by omega, by omega, by omega, by omega, by omega, by omega, by omega, by omega, by omega, by omega, by omega, by omega, by omega, by omega, by omega, by omega, by omega, by omega, by omega, by omega, by omega, by omega, by omega, by omega, by omega, by omega, by omega, by omega, by omega, by omega, by omega, by omega, by omega, by omega, by omega⟩
          exact k0 _ (g_mtx g B0) h22 ivn ch_gmtx (by omega) (by omega)
    · refine w_il (fun _ => rfl) ?_
      refine w_eqz2 (by omega) (by omega)  (fun c27 => ?_) (fun c27 => ?_)
      · refine w_run k_716894 (w_il (fun _ => rfl) (w_eqzt (by omega) (by omega) (by omega)  (w_run k_716911 (w_icI (x := 0) rfl (w_is (fun _ => rfl) (w_al (fun _ => rfl) ?_))))))
        obtain ⟨_, m28, spr28, kee28, rul28, tpd28, nxt28, tok28, tka28, val28, opn28, hm28, row28, ksp28, kke28, kru28, rfl, l28_spr, u28_spr, l28_kee, u28_kee, l28_rul, u28_rul, l28_tpd, u28_tpd, l28_nxt, u28_nxt, l28_tok, u28_tok, l28_tka, u28_tka, l28_val, u28_val, l28_opn, u28_opn, l28_hm, u28_hm, l28_row, u28_row, l28_ksp, u28_ksp, l28_kke, u28_kke, l28_kru, u28_kru, f28_0, f28_1, f28_2, f28_3, f28_4, f28_5, f28_6, f28_7, f28_8, f28_9⟩ := iv_31 iv
        refine w_getf m28 rfl (fun _ => rfl) (w_is (fun _ => rfl) ?_)
        refine w_al (fun _ => rfl) (w_icI (x := 0) rfl (w_putf [.inr (.inl (some 32)), .inr (.inl (some 33)), .inr (.inl (some 34)), .inr (.inl (some 35)), .inr (.inl (some 36)), .inl (w_i (g_mH g)), .inl (w_i (g_mC g)), .inl (w_i spr28), .inl (w_i kee28), .inl (w_i (g_mnp g)), .inl (w_i rul28), .inl (w_i (g_mhi g)), .inr (.inl (some 37)), .inr (.inl (some 50)), .inr (.inl (some 51)), .inr (.inl (some 52)), .inr (.inl (some 53)), .inr (.inl (some 54)), .inl (w_i 0), .inl (w_i (g_mnt g)), .inl (w_i nxt28), .inl (w_i tok28), .inl (w_i tka28), .inl (w_i val28), .inl (w_i opn28), .inl (w_i hm28), .inl (w_i row28), .inr (.inl (some 55)), .inr (.inl (some 56)), .inr (.inl (some 57)), .inr (.inl (some 58)), .inr (.inl (some 59)), .inr (.inl (some 60)), .inr (.inl (some 61)), .inr (.inl (some 62)), .inl (w_i ksp28), .inl (w_i kke28), .inl (w_i kru28), .inr (.inl (some 63)), .inr (.inl (some 64)), .inr (.inl (some 65)), .inr (.inl (some 66))] m28 rfl rfl rfl (fun _ => rfl) (fun h30 s29 => ?_)))
        have iv31 := is_31 iv s29 ⟨_, _, _, _, _, _, _, _, _, _, _, _, _, _, rfl, by omega, by omega, by omega, by omega, by omega, by omega, by omega, by omega, by omega, by omega, by omega, by omega, by omega, by omega, by omega, by omega, by omega, by omega, by omega, by omega, by omega, by omega, by omega, by omega, by omega, by omega, by omega, by omega, by omega, by omega, by omega, by omega, by omega, by omega, by omega, by omega, by omega, by omega⟩
        have F32 := fr_st F s29 (by rw [(ow_31 iv)]; rfl)
        refine w_il (fun _ => rfl) (w_nezf (by omega) (by omega) (by omega)  (w_icI (x := (-100)) wn_100 (w_il (fun _ => rfl) (w_op (c := w_i ((-100) - tka28)) (i_sub (-100) tka28) (w_ri ?_)))))
        exact k1 ((-100) - tka28) h30 iv31 F32 (by omega) (by omega)
      · obtain ⟨rwo, hmo, A0, B0, x0, pa0, pb0, hrows⟩ := rr (by omega)
        have b00 := iv_52h iv pb0
        obtain ⟨sprz33, keez33, rulz33, tpdz33, nxtz33, tokz33, tkaz33, valz33, opnz33, kspz33, kkez33, kruz33, pz33, rz33_0, rz33_1, rz33_2, rz33_3, rz33_4, rz33_5, rz33_6, rz33_7, rz33_8, rz33_9, rz33_10, rz33_11, rz33_12, rz33_13, rz33_14, rz33_15, rz33_16, rz33_17, rz33_18, rz33_19, rz33_20, rz33_21, rz33_22, rz33_23, rz33_24, rz33_25, rz33_26, rz33_27, rz33_28, rz33_29, rz33_30, rz33_31, rz33_32, rz33_33, rz33_34, rz33_35, rz33_36, rz33_37, sz33_0, sz33_1, sz33_2, sz33_3, sz33_4, sz33_5, sz33_6, sz33_7, sz33_8⟩ := (id x0)
        refine w_al (fun _ => rfl) (w_getf pz33 rfl (fun _ => rfl) (w_icI (x := 101) rfl ?_))
        refine w_ne2 (by omega) (by omega) (by omega) (by omega)  (fun c34 => ?_) (fun c34 => ?_)
        · refine w_run k_716858 (w_icI (x := 0) rfl (w_is (fun _ => rfl) (w_il (fun _ => rfl) (w_nezf (by omega) (by omega) (by omega)  (w_go (w_run k_716888 (w_inc (c := w_i (k_ + 1)) (fun _ => rfl) (i_addL (y := 1) rfl k_) (fun _ => rfl) (w_go ?_))))))))
          exact ih h 0 (k_ + 1) iv F (fun e => absurd e (by decide)) (by omega) (by omega) (by omega) (by omega)  (by omega) (by omega) (by omega) (by omega) (by omega) (by omega)
        · refine w_al (fun _ => rfl) (w_getf pz33 rfl (fun _ => rfl) (w_icI (x := 6) rfl (w_il (fun _ => rfl) (w_op (c := w_i (6 + k_)) (i_add 6 k_) ?_))))
          refine w_ne2 (by omega) (by omega) (by omega) (by omega)  (fun c35 => ?_) (fun c35 => ?_)
          · refine w_run k_716858 (w_icI (x := 0) rfl (w_is (fun _ => rfl) (w_il (fun _ => rfl) (w_nezf (by omega) (by omega) (by omega)  (w_go (w_run k_716888 (w_inc (c := w_i (k_ + 1)) (fun _ => rfl) (i_addL (y := 1) rfl k_) (fun _ => rfl) (w_go ?_))))))))
            exact ih h 0 (k_ + 1) iv F (fun e => absurd e (by decide)) (by omega) (by omega) (by omega) (by omega)  (by omega) (by omega) (by omega) (by omega) (by omega) (by omega)
          · refine w_icI (x := 1) rfl (w_go (w_run k_716859 (w_is (fun _ => rfl) (w_il (fun _ => rfl) (w_nezt (by omega) (by omega) (by omega)  (w_run k_716867 ?_))))))
            refine w_al (fun _ => rfl) (w_this (fun _ => rfl) pz33 ?_)
            refine w_cv (fun _ => rfl) rfl (c_mReads (d := (d + 3)) iv    (rs_10 x0) (fun h36 iv37 F38 b39 => ⟨rfl, ?_⟩))
            have F40 := fr_ca F F38 (fun t ht => by simp at ht ⊢; omega)
            have x1 := b39
            obtain ⟨sprz41, keez41, rulz41, tpdz41, nxtz41, tokz41, tkaz41, valz41, opnz41, kspz41, kkez41, kruz41, pz41, rz41_0, rz41_1, rz41_2, rz41_3, rz41_4, rz41_5, rz41_6, rz41_7, rz41_8, rz41_9, rz41_10, rz41_11, rz41_12, rz41_13, rz41_14, rz41_15, rz41_16, rz41_17, rz41_18, rz41_19, rz41_20, rz41_21, rz41_22, rz41_23, rz41_24, rz41_25, rz41_26, rz41_27, rz41_28, rz41_29, rz41_30, rz41_31, rz41_32, rz41_33, rz41_34, rz41_35, rz41_36, rz41_37, sz41_0, sz41_1, sz41_2, sz41_3, sz41_4, sz41_5, sz41_6, sz41_7, sz41_8⟩ := (id x1)
            refine w_al (fun _ => rfl) (w_icI (x := 3) rfl (w_al (fun _ => rfl) (w_getf pz41 rfl (fun _ => rfl) (w_op (c := w_i (3 * g_mnt g)) (i_mul 3 (g_mnt g)) (w_il (fun _ => rfl) (w_op (c := w_i ((3 * g_mnt g) + k_)) (i_add (3 * g_mnt g) k_) (w_putf [.inr (.inl (some 32)), .inr (.inl (some 33)), .inr (.inl (some 34)), .inr (.inl (some 35)), .inr (.inl (some 36)), .inl (w_i (g_mH g)), .inl (w_i (g_mC g)), .inl (w_i sprz41), .inl (w_i keez41), .inl (w_i (g_mnp g)), .inl (w_i rulz41), .inl (w_i (g_mhi g)), .inr (.inl (some 37)), .inr (.inl (some 50)), .inr (.inl (some 51)), .inr (.inl (some 52)), .inr (.inl (some 53)), .inr (.inl (some 54)), .inl (w_i tpdz41), .inl (w_i (g_mnt g)), .inl (w_i nxtz41), .inl (w_i tokz41), .inl (w_i tkaz41), .inl (w_i valz41), .inl (w_i opnz41), .inl (w_i hmo), .inl (w_i ((3 * g_mnt g) + k_)), .inr (.inl (some 55)), .inr (.inl (some 56)), .inr (.inl (some 57)), .inr (.inl (some 58)), .inr (.inl (some 59)), .inr (.inl (some 60)), .inr (.inl (some 61)), .inr (.inl (some 62)), .inl (w_i kspz41), .inl (w_i kkez41), .inl (w_i kruz41), .inr (.inl (some 63)), .inr (.inl (some 64)), .inr (.inl (some 65)), .inr (.inl (some 66))] pz41 rfl rfl rfl (fun _ => rfl) (fun h43 s42 => ?_))))))))
            have iv44 := is_31 iv37 s42 ⟨_, _, _, _, _, _, _, _, _, _, _, _, _, _, rfl, by omega, by omega, by omega, by omega, by omega, by omega, by omega, by omega, by omega, by omega, by omega, by omega, by omega, by omega, by omega, by omega, by omega, by omega, by omega, by omega, by omega, by omega, by omega, by omega, by omega, by omega, by omega, by omega, by omega, by omega, by omega, by omega, by omega, by omega, by omega, by omega, by omega, by omega⟩
            have F45 := fr_st F40 s42 (by rw [(ow_31 iv37)]; rfl)
            have m46 := fr_at F38 pa0 iv (ow_51 iv) rfl rfl
            have m47 := st_fr s42 m46 (by decide)
            have m48 := fr_at F38 pb0 iv (ow_52 iv) rfl rfl
            have m49 := st_fr s42 m48 (by decide)
            have pr0 : w_pr g o h43 (3 * g_mnt g + k_) := ⟨_, _, _, ⟨_, _, _, _, _, _, _, _, _, _, _, _, s42.2.2.1, by omega, by omega, by omega, by omega, by omega, by omega, by omega, by omega, by omega, by omega, by omega, by omega, by omega, by omega, by omega, by omega, by omega, by omega, by omega, by omega, by omega, by omega, by omega, by omega, by omega, by omega, by omega, by omega, by omega, by omega, by omega, by omega, by omega, by omega, by omega, by omega, by omega, by omega, by omega, by omega, by omega, by omega, by omega, by omega, by omega, by omega, by omega⟩, m47, m49, fun i i0 i1 => hrows i i0 (by omega)⟩
            refine w_al (fun _ => rfl) (w_this (fun _ => rfl) s42.2.2.1 ?_)
            refine w_ca (fun _ => rfl) rfl (c_mReadsRow (d := d) iv44   (by omega) (by omega) pr0 (fun h50 iv51 F52 b53 => ⟨_, rfl, ?_⟩) (fun h54 iv55 F56 b57 => ⟨_, rfl, ?_⟩))
            · have F58 := fr_ca F45 F52 (fun t ht => by exact ht)
              refine w_is (fun _ => rfl) (w_inc (c := w_i (k_ + 1)) (fun _ => rfl) (i_addL (y := 1) rfl k_) (fun _ => rfl) (w_go ?_))
              exact ih h50 1 (k_ + 1) iv51 F58 (by rw [show 3 * g_mnt g + (k_ + 1) = 3 * g_mnt g + k_ + 1 from by omega]; exact b53) (by omega) (by omega) (by omega) (by omega)  (by omega) (by omega) (by omega) (by omega) (by omega) (by omega)
            · have F59 := fr_ca F45 F56 (fun t ht => by exact ht)
              refine w_is (fun _ => rfl) (w_inc (c := w_i (k_ + 1)) (fun _ => rfl) (i_addL (y := 1) rfl k_) (fun _ => rfl) (w_go ?_))
              exact ih h54 0 (k_ + 1) iv55 F59 (fun e => absurd e (by decide)) (by omega) (by omega) (by omega) (by omega)  (by omega) (by omega) (by omega) (by omega) (by omega) (by omega)
theorem k_716800 : m_cg 716800 = g_175_0 := rfl
theorem k_716812 : m_cg 716812 = g_175_12 := rfl
theorem c_mText {g : w_G} {o : w_O} {h : m_H} {d : Nat} {Q : Option m_V → m_H → Prop} (iv : w_Inv g o h) (k0 : ∀ (x : Int) (g2 : w_G) (h2 : m_H), w_Inv g2 o h2 → w_ch [10] [6] g g2 → h2.1 = h.1 → h2.2.1 = h.2.1 → Q (some (.inl (w_i x))) h2) (k1 : ∀ (x : Int), ∀ h2 : m_H, w_Inv g o h2 → w_fr o [31, 51, 52, 53] h h2 → -2147483648 ≤ x → x ≤ 2147483647 → Q (some (.inl (w_i x))) h2) : wp (d + 6) 716800 [.inr (.inl (some 31)), .inr (.inr (.inl 0)), .inr (.inr (.inl 0))] [] h Q := by
  have F := fr_rf (o := o) (h := h) (W := [31, 51, 52, 53])
  have W := iv_wm iv
  refine w_run k_716800 (w_al (fun _ => rfl) ?_)
  obtain ⟨_, m1, spr1, kee1, rul1, tpd1, nxt1, tok1, tka1, val1, opn1, hm1, row1, ksp1, kke1, kru1, rfl, l1_spr, u1_spr, l1_kee, u1_kee, l1_rul, u1_rul, l1_tpd, u1_tpd, l1_nxt, u1_nxt, l1_tok, u1_tok, l1_tka, u1_tka, l1_val, u1_val, l1_opn, u1_opn, l1_hm, u1_hm, l1_row, u1_row, l1_ksp, u1_ksp, l1_kke, u1_kke, l1_kru, u1_kru, f1_0, f1_1, f1_2, f1_3, f1_4, f1_5, f1_6, f1_7, f1_8, f1_9⟩ := iv_31 iv
  refine w_getf m1 rfl (fun _ => rfl) (w_icI (x := 6) rfl ?_)
  refine w_ne2 (by omega) (by omega) (by omega) (by omega)  (fun c2 => ?_) (fun c2 => ?_)
  · refine w_run k_716812 (w_al (fun _ => rfl) (w_icI (x := 0) rfl (w_putf [.inr (.inl (some 32)), .inr (.inl (some 33)), .inr (.inl (some 34)), .inr (.inl (some 35)), .inr (.inl (some 36)), .inl (w_i (g_mH g)), .inl (w_i (g_mC g)), .inl (w_i spr1), .inl (w_i kee1), .inl (w_i (g_mnp g)), .inl (w_i rul1), .inl (w_i (g_mhi g)), .inr (.inl (some 37)), .inr (.inl (some 50)), .inr (.inl (some 51)), .inr (.inl (some 52)), .inr (.inl (some 53)), .inr (.inl (some 54)), .inl (w_i tpd1), .inl (w_i (g_mnt g)), .inl (w_i 0), .inl (w_i tok1), .inl (w_i tka1), .inl (w_i val1), .inl (w_i opn1), .inl (w_i hm1), .inl (w_i row1), .inr (.inl (some 55)), .inr (.inl (some 56)), .inr (.inl (some 57)), .inr (.inl (some 58)), .inr (.inl (some 59)), .inr (.inl (some 60)), .inr (.inl (some 61)), .inr (.inl (some 62)), .inl (w_i ksp1), .inl (w_i kke1), .inl (w_i kru1), .inr (.inl (some 63)), .inr (.inl (some 64)), .inr (.inl (some 65)), .inr (.inl (some 66))] m1 rfl rfl rfl (fun _ => rfl) (fun h4 s3 => ?_))))
    have iv5 := is_31 iv s3 ⟨_, _, _, _, _, _, _, _, _, _, _, _, _, _, rfl, by omega, by omega, by omega, by omega, by omega, by omega, by omega, by omega, by omega, by omega, by omega, by omega, by omega, by omega, by omega, by omega, by omega, by omega, by omega, by omega, by omega, by omega, by omega, by omega, by omega, by omega, by omega, by omega, by omega, by omega, by omega, by omega, by omega, by omega, by omega, by omega, by omega, by omega⟩
    have F6 := fr_st F s3 (by rw [(ow_31 iv)]; rfl)
    refine w_al (fun _ => rfl) (w_this (fun _ => rfl) s3.2.2.1 ?_)
    refine w_cv (fun _ => rfl) rfl (c_mReads (d := (d + 3)) iv5    (show w_rs g o h4 0 row1 hm1 0 0 from ⟨_, _, _, _, _, _, _, _, _, _, _, _, s3.2.2.1, by omega, by omega, by omega, by omega, by omega, by omega, by omega, by omega, by omega, by omega, by omega, by omega, by omega, by omega, by omega, by omega, by omega, by omega, by omega, by omega, by omega, by omega, by omega, by omega, by omega, by omega, by omega, by omega, by omega, by omega, by omega, by omega, by omega, by omega, by omega, by omega, by omega, by omega, by omega, by omega, by omega, by omega, by omega, by omega, by omega, by omega, by omega⟩) (fun h7 iv8 F9 b10 => ⟨rfl, ?_⟩))
    have F11 := fr_ca F6 F9 (fun t ht => by simp at ht ⊢; omega)
    refine w_icI (x := 1) rfl (w_is (fun _ => rfl) (w_icI (x := 0) rfl (w_is (fun _ => rfl) (w_nur k_716825 ?_))))
    obtain ⟨_, m12, A12, rfl, g12_0⟩ := iv_51 iv8
    obtain ⟨_, m13, A13, rfl, e13⟩ := iv_52 iv8
    exact l_mText_25          k0 k1 (3 - 0 + 1 : Int).toNat h7 1 0 iv8 F11 (fun _ => ⟨_, _, _, _, b10, m12, m13, fun i i0 i1 => absurd i1 (by omega)⟩) (by omega) (by omega) (by omega) (by omega)  (by omega) (by omega) (by omega) (by omega) (by omega) (by omega)
  · refine w_icI (x := (-4)) wn_4 (w_ri ?_)
    exact k1 (-4) h iv F (by omega) (by omega)
