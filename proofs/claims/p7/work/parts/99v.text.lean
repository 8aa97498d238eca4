theorem k_716825 : m_cg 716825 = g_175_25 := rfl
theorem k_716894 : m_cg 716894 = g_175_94 := rfl
theorem k_716911 : m_cg 716911 = g_175_111 := rfl
theorem k_716912 : m_cg 716912 = g_175_112 := rfl
theorem k_716932 : m_cg 716932 = g_175_132 := rfl
theorem k_716858 : m_cg 716858 = g_175_58 := rfl
theorem k_716888 : m_cg 716888 = g_175_88 := rfl
theorem k_716859 : m_cg 716859 = g_175_59 := rfl
theorem k_716867 : m_cg 716867 = g_175_67 := rfl
theorem l_mText_25 {g : w_G} {o : w_O} {h0 : m_H} {d : Nat} {Q : Option m_V → m_H → Prop} (k0 : ∀ (x : Int) (g2 : w_G) (h2 : m_H), w_Inv g2 o h2 → w_ch [10] [6] g g2 → h2.1 = h0.1 → h2.2.1 = h0.2.1 → Q (some (.inl (w_i x))) h2) (k1 : ∀ (x : Int), ∀ h2 : m_H, w_Inv g o h2 → w_fr o [31, 51, 52, 53] h0 h2 → -2147483648 ≤ x → x ≤ 2147483647 → Q (some (.inl (w_i x))) h2) : ∀ (k : Nat) (h : m_H) (good k_ : Int) (iv : w_Inv g o h) (F : w_fr o [31, 51, 52, 53] h0 h) (rr : w_rr g o h good (3 * g_mnt g + k_)) (good_lo : -2147483648 ≤ good) (good_hi : good ≤ 2147483647) (k__lo : -2147483648 ≤ k_) (k__hi : k_ ≤ 2147483647) (o0_ : 0 ≤ good) (o1_ : good ≤ 1) (k0_ : 0 ≤ k_) (k1_ : k_ ≤ 3) (t5_ : g_mnt g ≤ 5), 3 - k_ < (k : Int) → wp (d + 6) 716825 [.inr (.inl (some 31)), .inl (w_i good), .inl (w_i k_)] [] h Q := by
  intro k
  induction k with
  | zero => intro h good k_ iv F rr good_lo good_hi k__lo k__hi o0_ o1_ k0_ k1_ t5_ hk; exact absurd hk (by omega)
  | succ k ih =>
    intro h good k_ iv F rr good_lo good_hi k__lo k__hi o0_ o1_ k0_ k1_ t5_ hk
    have W := iv_wm iv
    refine w_run k_716825 (w_il (fun _ => rfl) (w_icI (x := 3) rfl ?_))
    refine w_ge2 (by omega) (by omega) (by omega) (by omega)  (fun c1 => ?_) (fun c1 => ?_)
    · refine w_run k_716894 (w_il (fun _ => rfl) ?_)
      refine w_eqz2 (by omega) (by omega)  (fun c2 => ?_) (fun c2 => ?_)
      · refine w_run k_716911 (w_icI (x := 0) rfl (w_is (fun _ => rfl) (w_al (fun _ => rfl) ?_)))
        obtain ⟨_, m3, spr3, kee3, rul3, tpd3, nxt3, tok3, tka3, val3, opn3, hm3, row3, ksp3, kke3, kru3, rfl, l3_spr, u3_spr, l3_kee, u3_kee, l3_rul, u3_rul, l3_tpd, u3_tpd, l3_nxt, u3_nxt, l3_tok, u3_tok, l3_tka, u3_tka, l3_val, u3_val, l3_opn, u3_opn, l3_hm, u3_hm, l3_row, u3_row, l3_ksp, u3_ksp, l3_kke, u3_kke, l3_kru, u3_kru, f3_0, f3_1, f3_2, f3_3, f3_4, f3_5, f3_6, f3_7, f3_8, f3_9⟩ := iv_31 iv
        refine w_getf m3 rfl (fun _ => rfl) (w_is (fun _ => rfl) ?_)
        refine w_al (fun _ => rfl) (w_icI (x := 0) rfl (w_putf [.inr (.inl (some 32)), .inr (.inl (some 33)), .inr (.inl (some 34)), .inr (.inl (some 35)), .inr (.inl (some 36)), .inl (w_i (g_mH g)), .inl (w_i (g_mC g)), .inl (w_i spr3), .inl (w_i kee3), .inl (w_i (g_mnp g)), .inl (w_i rul3), .inl (w_i (g_mhi g)), .inr (.inl (some 37)), .inr (.inl (some 50)), .inr (.inl (some 51)), .inr (.inl (some 52)), .inr (.inl (some 53)), .inr (.inl (some 54)), .inl (w_i 0), .inl (w_i (g_mnt g)), .inl (w_i nxt3), .inl (w_i tok3), .inl (w_i tka3), .inl (w_i val3), .inl (w_i opn3), .inl (w_i hm3), .inl (w_i row3), .inr (.inl (some 55)), .inr (.inl (some 56)), .inr (.inl (some 57)), .inr (.inl (some 58)), .inr (.inl (some 59)), .inr (.inl (some 60)), .inr (.inl (some 61)), .inr (.inl (some 62)), .inl (w_i ksp3), .inl (w_i kke3), .inl (w_i kru3), .inr (.inl (some 63)), .inr (.inl (some 64)), .inr (.inl (some 65)), .inr (.inl (some 66))] m3 rfl rfl rfl (fun _ => rfl) (fun h5 s4 => ?_)))
        have iv6 := is_31 iv s4 ⟨_, _, _, _, _, _, _, _, _, _, _, _, _, _, rfl, by omega, by omega, by omega, by omega, by omega, by omega, by omega, by omega, by omega, by omega, by omega, by omega, by omega, by omega, by omega, by omega, by omega, by omega, by omega, by omega, by omega, by omega, by omega, by omega, by omega, by omega, by omega, by omega, by omega, by omega, by omega, by omega, by omega, by omega, by omega, by omega, by omega, by omega⟩
        have F7 := fr_st F s4 (by rw [(ow_31 iv)]; rfl)
        refine w_il (fun _ => rfl) (w_nezf (by omega) (by omega) (by omega)  (w_icI (x := (-100)) wn_100 (w_il (fun _ => rfl) (w_opR sub_lt (fun x8 x80 x81 x8e => ?_)))))
        refine w_ri ?_
        exact k1 x8 h5 iv6 F7 (by omega) (by omega)
      · refine w_al (fun _ => rfl) ?_
        obtain ⟨_, m9, spr9, kee9, rul9, tpd9, nxt9, tok9, tka9, val9, opn9, hm9, row9, ksp9, kke9, kru9, rfl, l9_spr, u9_spr, l9_kee, u9_kee, l9_rul, u9_rul, l9_tpd, u9_tpd, l9_nxt, u9_nxt, l9_tok, u9_tok, l9_tka, u9_tka, l9_val, u9_val, l9_opn, u9_opn, l9_hm, u9_hm, l9_row, u9_row, l9_ksp, u9_ksp, l9_kke, u9_kke, l9_kru, u9_kru, f9_0, f9_1, f9_2, f9_3, f9_4, f9_5, f9_6, f9_7, f9_8, f9_9⟩ := iv_31 iv
        refine w_getf m9 rfl (fun _ => rfl) (w_icI (x := 103) rfl ?_)
        refine w_ne2 (by omega) (by omega) (by omega) (by omega)  (fun c10 => ?_) (fun c10 => ?_)
        · refine w_run k_716911 (w_icI (x := 0) rfl (w_is (fun _ => rfl) (w_al (fun _ => rfl) (w_getf m9 rfl (fun _ => rfl) (w_is (fun _ => rfl) ?_)))))
          refine w_al (fun _ => rfl) (w_icI (x := 0) rfl (w_putf [.inr (.inl (some 32)), .inr (.inl (some 33)), .inr (.inl (some 34)), .inr (.inl (some 35)), .inr (.inl (some 36)), .inl (w_i (g_mH g)), .inl (w_i (g_mC g)), .inl (w_i spr9), .inl (w_i kee9), .inl (w_i (g_mnp g)), .inl (w_i rul9), .inl (w_i (g_mhi g)), .inr (.inl (some 37)), .inr (.inl (some 50)), .inr (.inl (some 51)), .inr (.inl (some 52)), .inr (.inl (some 53)), .inr (.inl (some 54)), .inl (w_i 0), .inl (w_i (g_mnt g)), .inl (w_i nxt9), .inl (w_i tok9), .inl (w_i tka9), .inl (w_i val9), .inl (w_i opn9), .inl (w_i hm9), .inl (w_i row9), .inr (.inl (some 55)), .inr (.inl (some 56)), .inr (.inl (some 57)), .inr (.inl (some 58)), .inr (.inl (some 59)), .inr (.inl (some 60)), .inr (.inl (some 61)), .inr (.inl (some 62)), .inl (w_i ksp9), .inl (w_i kke9), .inl (w_i kru9), .inr (.inl (some 63)), .inr (.inl (some 64)), .inr (.inl (some 65)), .inr (.inl (some 66))] m9 rfl rfl rfl (fun _ => rfl) (fun h12 s11 => ?_)))
          have iv13 := is_31 iv s11 ⟨_, _, _, _, _, _, _, _, _, _, _, _, _, _, rfl, by omega, by omega, by omega, by omega, by omega, by omega, by omega, by omega, by omega, by omega, by omega, by omega, by omega, by omega, by omega, by omega, by omega, by omega, by omega, by omega, by omega, by omega, by omega, by omega, by omega, by omega, by omega, by omega, by omega, by omega, by omega, by omega, by omega, by omega, by omega, by omega, by omega, by omega⟩
          have F14 := fr_st F s11 (by rw [(ow_31 iv)]; rfl)
          refine w_il (fun _ => rfl) (w_nezf (by omega) (by omega) (by omega)  (w_icI (x := (-100)) wn_100 (w_il (fun _ => rfl) (w_opR sub_lt (fun x15 x150 x151 x15e => ?_)))))
          refine w_ri ?_
          exact k1 x15 h12 iv13 F14 (by omega) (by omega)
        · refine w_icI (x := 1) rfl (w_go (w_run k_716912 (w_is (fun _ => rfl) (w_al (fun _ => rfl) (w_getf m9 rfl (fun _ => rfl) (w_is (fun _ => rfl) ?_))))))
          obtain ⟨rwo, hmo, A0, B0, x0, pa0, pb0, hrows⟩ := rr (by omega)
          refine w_al (fun _ => rfl) (w_icI (x := 0) rfl (w_putf [.inr (.inl (some 32)), .inr (.inl (some 33)), .inr (.inl (some 34)), .inr (.inl (some 35)), .inr (.inl (some 36)), .inl (w_i (g_mH g)), .inl (w_i (g_mC g)), .inl (w_i spr9), .inl (w_i kee9), .inl (w_i (g_mnp g)), .inl (w_i rul9), .inl (w_i (g_mhi g)), .inr (.inl (some 37)), .inr (.inl (some 50)), .inr (.inl (some 51)), .inr (.inl (some 52)), .inr (.inl (some 53)), .inr (.inl (some 54)), .inl (w_i 0), .inl (w_i (g_mnt g)), .inl (w_i nxt9), .inl (w_i tok9), .inl (w_i tka9), .inl (w_i val9), .inl (w_i opn9), .inl (w_i hm9), .inl (w_i row9), .inr (.inl (some 55)), .inr (.inl (some 56)), .inr (.inl (some 57)), .inr (.inl (some 58)), .inr (.inl (some 59)), .inr (.inl (some 60)), .inr (.inl (some 61)), .inr (.inl (some 62)), .inl (w_i ksp9), .inl (w_i kke9), .inl (w_i kru9), .inr (.inl (some 63)), .inr (.inl (some 64)), .inr (.inl (some 65)), .inr (.inl (some 66))] m9 rfl rfl rfl (fun _ => rfl) (fun h17 s16 => ?_)))
          have iv18 := is_31 iv s16 ⟨_, _, _, _, _, _, _, _, _, _, _, _, _, _, rfl, by omega, by omega, by omega, by omega, by omega, by omega, by omega, by omega, by omega, by omega, by omega, by omega, by omega, by omega, by omega, by omega, by omega, by omega, by omega, by omega, by omega, by omega, by omega, by omega, by omega, by omega, by omega, by omega, by omega, by omega, by omega, by omega, by omega, by omega, by omega, by omega, by omega, by omega⟩
          have F19 := fr_st F s16 (by rw [(ow_31 iv)]; rfl)
          refine w_il (fun _ => rfl) (w_nezt (by omega) (by omega) (by omega)  (w_run k_716932 ?_))
          have m20 := st_fr s16 pa0 (by decide)
          have m21 := st_fr s16 pb0 (by decide)
          have z22 := iv18.2.2.2.2.1
          have z22w := iv18.1
          refine w_al (fun _ => rfl) (w_dup (fun _ => rfl) (w_getf s16.2.2.1 rfl (fun _ => rfl) (w_icI (x := 1) rfl (w_op (c := w_i (g_mnt g + 1)) (i_add (g_mnt g) 1) (w_putf [.inr (.inl (some 32)), .inr (.inl (some 33)), .inr (.inl (some 34)), .inr (.inl (some 35)), .inr (.inl (some 36)), .inl (w_i (g_mH g)), .inl (w_i (g_mC g)), .inl (w_i spr9), .inl (w_i kee9), .inl (w_i (g_mnp g)), .inl (w_i rul9), .inl (w_i (g_mhi g)), .inr (.inl (some 37)), .inr (.inl (some 50)), .inr (.inl (some 51)), .inr (.inl (some 52)), .inr (.inl (some 53)), .inr (.inl (some 54)), .inl (w_i 0), .inl (w_i (g_mnt g + 1)), .inl (w_i nxt9), .inl (w_i tok9), .inl (w_i tka9), .inl (w_i val9), .inl (w_i opn9), .inl (w_i hm9), .inl (w_i row9), .inr (.inl (some 55)), .inr (.inl (some 56)), .inr (.inl (some 57)), .inr (.inl (some 58)), .inr (.inl (some 59)), .inr (.inl (some 60)), .inr (.inl (some 61)), .inr (.inl (some 62)), .inl (w_i ksp9), .inl (w_i kke9), .inl (w_i kru9), .inr (.inl (some 63)), .inr (.inl (some 64)), .inr (.inl (some 65)), .inr (.inl (some 66))] s16.2.2.1 rfl rfl rfl (fun _ => rfl) (fun h24 s23 => ?_))))))
          have z26 := s23.1
          have z26y := s23.2.1
          have z26w := s23.2.2.2.2 z22w
          refine w_al (fun _ => rfl) (w_getf s23.2.2.1 rfl (fun _ => rfl) (w_icI (x := 1) rfl (w_op (c := w_i ((g_mnt g + 1) - 1)) (i_sub (g_mnt g + 1) 1) (w_ri ?_))))
          have F1 := F19.1
          have F2 := F19.2.1
          have m27 := st_fr s23 m21 (by decide)
          have m28 := st_fr s23 m20 (by decide)
          have gz : g_mnt (g_mtx g B0) = g_mnt g + 1 := rfl
          have ivn := mtx_fin (e := _) iv18 (by omega) m20 m21 (fun i i0 i1 => hrows i i0 (by omega)) s23 ⟨_, _, _, _, _, _, _, _, _, _, _, _, _, _, rfl, by omega, by omega, by omega, by omega, by omega, by omega, by omega, by omega, by omega, by omega, by omega, by omega, by omega, by omega, by omega, by omega, by omega, by omega, by omega, by omega, by omega, by omega, by omega, by omega, by omega, by omega, by omega, by omega, by omega, by omega, by omega, by omega, by omega, by omega, by omega, by omega, by omega, by omega⟩
          exact k0 _ (g_mtx g B0) h24 ivn ch_gmtx (by omega) (by omega)
    · refine w_il (fun _ => rfl) ?_
      refine w_eqz2 (by omega) (by omega)  (fun c29 => ?_) (fun c29 => ?_)
      · refine w_run k_716894 (w_il (fun _ => rfl) (w_eqzt (by omega) (by omega) (by omega)  (w_run k_716911 (w_icI (x := 0) rfl (w_is (fun _ => rfl) (w_al (fun _ => rfl) ?_))))))
        obtain ⟨_, m30, spr30, kee30, rul30, tpd30, nxt30, tok30, tka30, val30, opn30, hm30, row30, ksp30, kke30, kru30, rfl, l30_spr, u30_spr, l30_kee, u30_kee, l30_rul, u30_rul, l30_tpd, u30_tpd, l30_nxt, u30_nxt, l30_tok, u30_tok, l30_tka, u30_tka, l30_val, u30_val, l30_opn, u30_opn, l30_hm, u30_hm, l30_row, u30_row, l30_ksp, u30_ksp, l30_kke, u30_kke, l30_kru, u30_kru, f30_0, f30_1, f30_2, f30_3, f30_4, f30_5, f30_6, f30_7, f30_8, f30_9⟩ := iv_31 iv
        refine w_getf m30 rfl (fun _ => rfl) (w_is (fun _ => rfl) ?_)
        refine w_al (fun _ => rfl) (w_icI (x := 0) rfl (w_putf [.inr (.inl (some 32)), .inr (.inl (some 33)), .inr (.inl (some 34)), .inr (.inl (some 35)), .inr (.inl (some 36)), .inl (w_i (g_mH g)), .inl (w_i (g_mC g)), .inl (w_i spr30), .inl (w_i kee30), .inl (w_i (g_mnp g)), .inl (w_i rul30), .inl (w_i (g_mhi g)), .inr (.inl (some 37)), .inr (.inl (some 50)), .inr (.inl (some 51)), .inr (.inl (some 52)), .inr (.inl (some 53)), .inr (.inl (some 54)), .inl (w_i 0), .inl (w_i (g_mnt g)), .inl (w_i nxt30), .inl (w_i tok30), .inl (w_i tka30), .inl (w_i val30), .inl (w_i opn30), .inl (w_i hm30), .inl (w_i row30), .inr (.inl (some 55)), .inr (.inl (some 56)), .inr (.inl (some 57)), .inr (.inl (some 58)), .inr (.inl (some 59)), .inr (.inl (some 60)), .inr (.inl (some 61)), .inr (.inl (some 62)), .inl (w_i ksp30), .inl (w_i kke30), .inl (w_i kru30), .inr (.inl (some 63)), .inr (.inl (some 64)), .inr (.inl (some 65)), .inr (.inl (some 66))] m30 rfl rfl rfl (fun _ => rfl) (fun h32 s31 => ?_)))
        have iv33 := is_31 iv s31 ⟨_, _, _, _, _, _, _, _, _, _, _, _, _, _, rfl, by omega, by omega, by omega, by omega, by omega, by omega, by omega, by omega, by omega, by omega, by omega, by omega, by omega, by omega, by omega, by omega, by omega, by omega, by omega, by omega, by omega, by omega, by omega, by omega, by omega, by omega, by omega, by omega, by omega, by omega, by omega, by omega, by omega, by omega, by omega, by omega, by omega, by omega⟩
        have F34 := fr_st F s31 (by rw [(ow_31 iv)]; rfl)
        refine w_il (fun _ => rfl) (w_nezf (by omega) (by omega) (by omega)  (w_icI (x := (-100)) wn_100 (w_il (fun _ => rfl) (w_opR sub_lt (fun x35 x350 x351 x35e => ?_)))))
        refine w_ri ?_
        exact k1 x35 h32 iv33 F34 (by omega) (by omega)
      · obtain ⟨rwo, hmo, A0, B0, x0, pa0, pb0, hrows⟩ := rr (by omega)
        have b00 := iv_52h iv pb0
        obtain ⟨sprz36, keez36, rulz36, tpdz36, nxtz36, tokz36, tkaz36, valz36, opnz36, kspz36, kkez36, kruz36, pz36, rz36_0, rz36_1, rz36_2, rz36_3, rz36_4, rz36_5, rz36_6, rz36_7, rz36_8, rz36_9, rz36_10, rz36_11, rz36_12, rz36_13, rz36_14, rz36_15, rz36_16, rz36_17, rz36_18, rz36_19, rz36_20, rz36_21, rz36_22, rz36_23, rz36_24, rz36_25, rz36_26, rz36_27, rz36_28, rz36_29, rz36_30, rz36_31, rz36_32, rz36_33, rz36_34, rz36_35, rz36_36, rz36_37, sz36_0, sz36_1, sz36_2, sz36_3, sz36_4, sz36_5, sz36_6, sz36_7, sz36_8⟩ := (id x0)
        refine w_al (fun _ => rfl) (w_getf pz36 rfl (fun _ => rfl) (w_icI (x := 101) rfl ?_))
        refine w_ne2 (by omega) (by omega) (by omega) (by omega)  (fun c37 => ?_) (fun c37 => ?_)
        · refine w_run k_716858 (w_icI (x := 0) rfl (w_is (fun _ => rfl) (w_il (fun _ => rfl) (w_nezf (by omega) (by omega) (by omega)  (w_go (w_run k_716888 (w_inc (c := w_i (k_ + 1)) (fun _ => rfl) (i_addL (y := 1) rfl k_) (fun _ => rfl) (w_go ?_))))))))
          exact ih h 0 (k_ + 1) iv F (fun e => absurd e (by decide)) (by omega) (by omega) (by omega) (by omega)  (by omega) (by omega) (by omega) (by omega) (by omega) (by omega)
        · refine w_al (fun _ => rfl) (w_getf pz36 rfl (fun _ => rfl) (w_icI (x := 6) rfl (w_il (fun _ => rfl) (w_op (c := w_i (6 + k_)) (i_add 6 k_) ?_))))
          refine w_ne2 (by omega) (by omega) (by omega) (by omega)  (fun c38 => ?_) (fun c38 => ?_)
          · refine w_run k_716858 (w_icI (x := 0) rfl (w_is (fun _ => rfl) (w_il (fun _ => rfl) (w_nezf (by omega) (by omega) (by omega)  (w_go (w_run k_716888 (w_inc (c := w_i (k_ + 1)) (fun _ => rfl) (i_addL (y := 1) rfl k_) (fun _ => rfl) (w_go ?_))))))))
            exact ih h 0 (k_ + 1) iv F (fun e => absurd e (by decide)) (by omega) (by omega) (by omega) (by omega)  (by omega) (by omega) (by omega) (by omega) (by omega) (by omega)
          · refine w_icI (x := 1) rfl (w_go (w_run k_716859 (w_is (fun _ => rfl) (w_il (fun _ => rfl) (w_nezt (by omega) (by omega) (by omega)  (w_run k_716867 ?_))))))
            refine w_al (fun _ => rfl) (w_this (fun _ => rfl) pz36 ?_)
            refine w_cv (fun _ => rfl) rfl (c_mReads (d := (d + 3)) iv    (rs_10 x0) (fun h39 iv40 F41 b42 => ⟨rfl, ?_⟩))
            have F43 := fr_ca F F41 (fun t ht => by simp at ht ⊢; omega)
            have x1 := b42
            obtain ⟨sprz44, keez44, rulz44, tpdz44, nxtz44, tokz44, tkaz44, valz44, opnz44, kspz44, kkez44, kruz44, pz44, rz44_0, rz44_1, rz44_2, rz44_3, rz44_4, rz44_5, rz44_6, rz44_7, rz44_8, rz44_9, rz44_10, rz44_11, rz44_12, rz44_13, rz44_14, rz44_15, rz44_16, rz44_17, rz44_18, rz44_19, rz44_20, rz44_21, rz44_22, rz44_23, rz44_24, rz44_25, rz44_26, rz44_27, rz44_28, rz44_29, rz44_30, rz44_31, rz44_32, rz44_33, rz44_34, rz44_35, rz44_36, rz44_37, sz44_0, sz44_1, sz44_2, sz44_3, sz44_4, sz44_5, sz44_6, sz44_7, sz44_8⟩ := (id x1)
            refine w_al (fun _ => rfl) (w_icI (x := 3) rfl (w_al (fun _ => rfl) (w_getf pz44 rfl (fun _ => rfl) (w_op (c := w_i (3 * g_mnt g)) (i_mul 3 (g_mnt g)) (w_il (fun _ => rfl) (w_op (c := w_i ((3 * g_mnt g) + k_)) (i_add (3 * g_mnt g) k_) (w_putf [.inr (.inl (some 32)), .inr (.inl (some 33)), .inr (.inl (some 34)), .inr (.inl (some 35)), .inr (.inl (some 36)), .inl (w_i (g_mH g)), .inl (w_i (g_mC g)), .inl (w_i sprz44), .inl (w_i keez44), .inl (w_i (g_mnp g)), .inl (w_i rulz44), .inl (w_i (g_mhi g)), .inr (.inl (some 37)), .inr (.inl (some 50)), .inr (.inl (some 51)), .inr (.inl (some 52)), .inr (.inl (some 53)), .inr (.inl (some 54)), .inl (w_i tpdz44), .inl (w_i (g_mnt g)), .inl (w_i nxtz44), .inl (w_i tokz44), .inl (w_i tkaz44), .inl (w_i valz44), .inl (w_i opnz44), .inl (w_i hmo), .inl (w_i ((3 * g_mnt g) + k_)), .inr (.inl (some 55)), .inr (.inl (some 56)), .inr (.inl (some 57)), .inr (.inl (some 58)), .inr (.inl (some 59)), .inr (.inl (some 60)), .inr (.inl (some 61)), .inr (.inl (some 62)), .inl (w_i kspz44), .inl (w_i kkez44), .inl (w_i kruz44), .inr (.inl (some 63)), .inr (.inl (some 64)), .inr (.inl (some 65)), .inr (.inl (some 66))] pz44 rfl rfl rfl (fun _ => rfl) (fun h46 s45 => ?_))))))))
            have iv47 := is_31 iv40 s45 ⟨_, _, _, _, _, _, _, _, _, _, _, _, _, _, rfl, by omega, by omega, by omega, by omega, by omega, by omega, by omega, by omega, by omega, by omega, by omega, by omega, by omega, by omega, by omega, by omega, by omega, by omega, by omega, by omega, by omega, by omega, by omega, by omega, by omega, by omega, by omega, by omega, by omega, by omega, by omega, by omega, by omega, by omega, by omega, by omega, by omega, by omega⟩
            have F48 := fr_st F43 s45 (by rw [(ow_31 iv40)]; rfl)
            have m49 := fr_at F41 pa0 iv (ow_51 iv) rfl rfl
            have m50 := st_fr s45 m49 (by decide)
            have m51 := fr_at F41 pb0 iv (ow_52 iv) rfl rfl
            have m52 := st_fr s45 m51 (by decide)
            have pr0 : w_pr g o h46 (3 * g_mnt g + k_) := ⟨_, _, _, ⟨_, _, _, _, _, _, _, _, _, _, _, _, s45.2.2.1, by omega, by omega, by omega, by omega, by omega, by omega, by omega, by omega, by omega, by omega, by omega, by omega, by omega, by omega, by omega, by omega, by omega, by omega, by omega, by omega, by omega, by omega, by omega, by omega, by omega, by omega, by omega, by omega, by omega, by omega, by omega, by omega, by omega, by omega, by omega, by omega, by omega, by omega, by omega, by omega, by omega, by omega, by omega, by omega, by omega, by omega, by omega⟩, m50, m52, fun i i0 i1 => hrows i i0 (by omega)⟩
            refine w_al (fun _ => rfl) (w_this (fun _ => rfl) s45.2.2.1 ?_)
            refine w_ca (fun _ => rfl) rfl (c_mReadsRow (d := d) iv47   (by omega) (by omega) pr0 (fun h53 iv54 F55 b56 => ⟨_, rfl, ?_⟩) (fun h57 iv58 F59 b60 => ⟨_, rfl, ?_⟩))
            · have F61 := fr_ca F48 F55 (fun t ht => by exact ht)
              refine w_is (fun _ => rfl) (w_inc (c := w_i (k_ + 1)) (fun _ => rfl) (i_addL (y := 1) rfl k_) (fun _ => rfl) (w_go ?_))
              exact ih h53 1 (k_ + 1) iv54 F61 (by rw [show 3 * g_mnt g + (k_ + 1) = 3 * g_mnt g + k_ + 1 from by omega]; exact b56) (by omega) (by omega) (by omega) (by omega)  (by omega) (by omega) (by omega) (by omega) (by omega) (by omega)
            · have F62 := fr_ca F48 F59 (fun t ht => by exact ht)
              refine w_is (fun _ => rfl) (w_inc (c := w_i (k_ + 1)) (fun _ => rfl) (i_addL (y := 1) rfl k_) (fun _ => rfl) (w_go ?_))
              exact ih h57 0 (k_ + 1) iv58 F62 (fun e => absurd e (by decide)) (by omega) (by omega) (by omega) (by omega)  (by omega) (by omega) (by omega) (by omega) (by omega) (by omega)
theorem k_716800 : m_cg 716800 = g_175_0 := rfl
theorem k_716812 : m_cg 716812 = g_175_12 := rfl
theorem c_mText {g : w_G} {o : w_O} {h : m_H} {d : Nat} {Q : Option m_V → m_H → Prop} (iv : w_Inv g o h) (k0 : ∀ (x : Int) (g2 : w_G) (h2 : m_H), w_Inv g2 o h2 → w_ch [10] [6] g g2 → h2.1 = h.1 → h2.2.1 = h.2.1 → Q (some (.inl (w_i x))) h2) (k1 : ∀ (x : Int), ∀ h2 : m_H, w_Inv g o h2 → w_fr o [31, 51, 52, 53] h h2 → -2147483648 ≤ x → x ≤ 2147483647 → Q (some (.inl (w_i x))) h2) : wp (d + 6) 716800 [.inr (.inl (some 31)), .inr (.inr (.inl 0)), .inr (.inr (.inl 0))] [] h Q := by
  have F := fr_rf (o := o) (h := h) (W := [31, 51, 52, 53])
  have W := iv_wm iv
  refine w_run k_716800 (w_al (fun _ => rfl) ?_)
  obtain ⟨_, m1, spr1, kee1, rul1, tpd1, nxt1, tok1, tka1, val1, opn1, hm1, row1, ksp1, kke1, kru1, rfl, l1_spr, u1_spr, l1_kee, u1_kee, l1_rul, u1_rul, l1_tpd, u1_tpd, l1_nxt, u1_nxt, l1_tok, u1_tok, l1_tka, u1_tka, l1_val, u1_val, l1_opn, u1_opn, l1_hm, u1_hm, l1_row, u1_row, l1_ksp, u1_ksp, l1_kke, u1_kke, l1_kru, u1_kru, f1_0, f1_1, f1_2, f1_3, f1_4, f1_5, f1_6, f1_7, f1_8, f1_9⟩ := iv_31 iv
  refine w_getf m1 rfl (fun _ => rfl) (w_icI (x := 6) rfl ?_)
  refine w_ne2 (by omega) (by omega) (by omega) (by omega)  (fun c2 => ?_) (fun c2 => ?_)
  · refine w_run k_716812 (w_al (fun _ => rfl) (w_icI (x := 0) rfl (w_putf [.inr (.inl (some 32)), .inr (.inl (some 33)), .inr (.inl (some 34)), .inr (.inl (some 35)), .inr (.inl (some 36)), .inl (w_i (g_mH g)), .inl (w_i (g_mC g)), .inl (w_i spr1), .inl (w_i kee1), .inl (w_i (g_mnp g)), .inl (w_i rul1), .inl (w_i (g_mhi g)), .inr (.inl (some 37)), .inr (.inl (some 50)), .inr (.inl (some 51)), .inr (.inl (some 52)), .inr (.inl (some 53)), .inr (.inl (some 54)), .inl (w_i tpd1), .inl (w_i (g_mnt g)), .inl (w_i 0), .inl (w_i tok1), .inl (w_i tka1), .inl (w_i val1), .inl (w_i opn1), .inl (w_i hm1), .inl (w_i row1), .inr (.inl (some 55)), .inr (.inl (some 56)), .inr (.inl (some 57)), .inr (.inl (some 58)), .inr (.inl (some 59)), .inr (.inl (some 60)), .inr (.inl (some 61)), .inr (.inl (some 62)), .inl (w_i ksp1), .inl (w_i kke1), .inl (w_i kru1), .inr (.inl (some 63)), .inr (.inl (some 64)), .inr (.inl (some 65)), .inr (.inl (some 66))] m1 rfl rfl rfl (fun _ => rfl) (fun h4 s3 => ?_))))
    have iv5 := is_31 iv s3 ⟨_, _, _, _, _, _, _, _, _, _, _, _, _, _, rfl, by omega, by omega, by omega, by omega, by omega, by omega, by omega, by omega, by omega, by omega, by omega, by omega, by omega, by omega, by omega, by omega, by omega, by omega, by omega, by omega, by omega, by omega, by omega, by omega, by omega, by omega, by omega, by omega, by omega, by omega, by omega, by omega, by omega, by omega, by omega, by omega, by omega, by omega⟩
    have F6 := fr_st F s3 (by rw [(ow_31 iv)]; rfl)
    refine w_al (fun _ => rfl) (w_this (fun _ => rfl) s3.2.2.1 ?_)
    refine w_cv (fun _ => rfl) rfl (c_mReads (d := (d + 3)) iv5    (show w_rs g o h4 0 row1 hm1 0 0 from ⟨_, _, _, _, _, _, _, _, _, _, _, _, s3.2.2.1, by omega, by omega, by omega, by omega, by omega, by omega, by omega, by omega, by omega, by omega, by omega, by omega, by omega, by omega, by omega, by omega, by omega, by omega, by omega, by omega, by omega, by omega, by omega, by omega, by omega, by omega, by omega, by omega, by omega, by omega, by omega, by omega, by omega, by omega, by omega, by omega, by omega, by omega, by omega, by omega, by omega, by omega, by omega, by omega, by omega, by omega, by omega⟩) (fun h7 iv8 F9 b10 => ⟨rfl, ?_⟩))
    have F11 := fr_ca F6 F9 (fun t ht => by simp at ht ⊢; omega)
    refine w_icI (x := 1) rfl (w_is (fun _ => rfl) (w_icI (x := 0) rfl (w_is (fun _ => rfl) (w_nur k_716825 ?_))))
    obtain ⟨_, m12, A12, rfl, g12_0⟩ := iv_51 iv8
    obtain ⟨_, m13, A13, rfl, e13⟩ := iv_52 iv8
    exact l_mText_25          k0 k1 (3 - 0 + 1 : Int).toNat h7 1 0 iv8 F11 (fun _ => ⟨_, _, _, _, b10, m12, m13, fun i i0 i1 => absurd i1 (by omega)⟩) (by omega) (by omega) (by omega) (by omega)  (by omega) (by omega) (by omega) (by omega) (by omega) (by omega)
  · refine w_icI (x := (-4)) wn_4 (w_ri ?_)
    exact k1 (-4) h iv F (by omega) (by omega)
