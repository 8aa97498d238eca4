theorem k_622592 : m_cg 622592 = g_152_0 := rfl
theorem k_622614 : m_cg 622614 = g_152_22 := rfl
theorem k_622625 : m_cg 622625 = g_152_33 := rfl
theorem k_622611 : m_cg 622611 = g_152_19 := rfl
theorem c_mPainter {g : w_G} {o : w_O} {h : m_H} {d : Nat} {Q : Option m_V → m_H → Prop} (iv : w_Inv g o h) {kd : Int} {nu : Int} (kd_lo : -2147483648 ≤ kd) (kd_hi : kd ≤ 2147483647) (nu_lo : -2147483648 ≤ nu) (nu_hi : nu ≤ 2147483647) (k0 : ∀ (x : Int) (g2 : w_G) (h2 : m_H), w_Inv g2 o h2 → w_ch [9] [4, 5] g g2 → h2.1 = h.1 → h2.2.1 = h.2.1 → Q (some (.inl (w_i x))) h2) (k1 : ∀ (x : Int), ∀ h2 : m_H, w_Inv g o h2 → w_fr o [31, 35, 36] h h2 → -2147483648 ≤ x → x ≤ 2147483647 → Q (some (.inl (w_i x))) h2) : wp (d + 1) 622592 [.inr (.inl (some 31)), .inl (w_i kd), .inl (w_i nu)] [] h Q := by
  have F := fr_rf (o := o) (h := h) (W := [31, 35, 36])
  have W := iv_wm iv
  refine w_run k_622592 (w_il (fun _ => rfl) (w_icI (x := 0) rfl (w_icI (x := 5) rfl ?_)))
  refine w_ca (fun _ => rfl) rfl (c_mIsIn (d := d) iv (n := kd) (ln := 0) (mn := 5) (by omega) (by omega) (by omega) (by omega) (by omega) (by omega)   (fun b1 b2 => ⟨_, rfl, ?_⟩) (fun b3 => ⟨_, rfl, ?_⟩))
  · refine w_eqzf (by omega) (by omega) (by omega)  (w_il (fun _ => rfl) (w_icI (x := 0) rfl (w_icI (x := 9) rfl ?_)))
    refine w_ca (fun _ => rfl) rfl (c_mIsIn (d := d) iv (n := nu) (ln := 0) (mn := 9) (by omega) (by omega) (by omega) (by omega) (by omega) (by omega)   (fun b4 b5 => ⟨_, rfl, ?_⟩) (fun b6 => ⟨_, rfl, ?_⟩))
    · refine w_nezt (by omega) (by omega) (by omega)  (w_run k_622614 (w_al (fun _ => rfl) ?_))
      obtain ⟨_, m7, spr7, kee7, rul7, tpd7, nxt7, tok7, tka7, val7, opn7, hm7, row7, ksp7, kke7, kru7, rfl, l7_spr, u7_spr, l7_kee, u7_kee, l7_rul, u7_rul, l7_tpd, u7_tpd, l7_nxt, u7_nxt, l7_tok, u7_tok, l7_tka, u7_tka, l7_val, u7_val, l7_opn, u7_opn, l7_hm, u7_hm, l7_row, u7_row, l7_ksp, u7_ksp, l7_kke, u7_kke, l7_kru, u7_kru, f7_0, f7_1, f7_2, f7_3, f7_4, f7_5, f7_6, f7_7, f7_8, f7_9⟩ := iv_31 iv
      refine w_getf m7 rfl (fun _ => rfl) (w_icI (x := 5) rfl ?_)
      refine w_ne2 (by omega) (by omega) (by omega) (by omega)  (fun c8 => ?_) (fun c8 => ?_)
      · refine w_run k_622625 (w_al (fun _ => rfl) (w_getf m7 rfl (fun _ => rfl) (w_al (fun _ => rfl) (w_getf m7 rfl (fun _ => rfl) (w_il (fun _ => rfl) ?_)))))
        obtain ⟨_, m9, A9, rfl, e9⟩ := iv_35 iv
        refine w_astI m9 (by omega) (by omega) (by omega) (by omega) (by omega) (fun A13 h11 w14 s10 => ?_)
        have e15 : ∀ j : Int, 0 ≤ j → j < 5 → j < g_mnp g → a_g A13 j = g_mPK g j := fun j j0 j1 => by
          rw [w14 j j0 j1]
          by_cases hj : j = g_mnp g
          · rw [if_pos hj]; intros; omega
          · rw [if_neg hj]; exact e9 j j0 j1
        have iv12 := is_35 iv s10 ⟨_, rfl, e15⟩
        have F16 := fr_st F s10 (by rw [(ow_35 iv)]; rfl)
        refine w_al (fun _ => rfl) ?_
        have m17 := st_fr s10 m7 (by decide)
        refine w_getf m17 rfl (fun _ => rfl) (w_al (fun _ => rfl) (w_getf m17 rfl (fun _ => rfl) (w_il (fun _ => rfl) ?_)))
        obtain ⟨_, m18, A18, rfl, e18⟩ := iv_36 iv12
        refine w_astI m18 (by omega) (by omega) (by omega) (by omega) (by omega) (fun A22 h20 w23 s19 => ?_)
        have e24 : ∀ j : Int, 0 ≤ j → j < 5 → j < g_mnp g → a_g A22 j = g_mPN g j := fun j j0 j1 => by
          rw [w23 j j0 j1]
          by_cases hj : j = g_mnp g
          · rw [if_pos hj]; intros; omega
          · rw [if_neg hj]; exact e18 j j0 j1
        have iv21 := is_36 iv12 s19 ⟨_, rfl, e24⟩
        have F25 := fr_st F16 s19 (by rw [(ow_36 iv12)]; rfl)
        have m26 := st_fr s19 m17 (by decide)
        have m27 := st_fr s19 s10.2.2.1 (by decide)
        have z28 := iv21.2.2.2.2.1
        have z28w := iv21.1
        refine w_al (fun _ => rfl) (w_dup (fun _ => rfl) (w_getf m26 rfl (fun _ => rfl) (w_icI (x := 1) rfl (w_op (c := w_i (g_mnp g + 1)) (i_add (g_mnp g) 1) (w_putf [.inr (.inl (some 32)), .inr (.inl (some 33)), .inr (.inl (some 34)), .inr (.inl (some 35)), .inr (.inl (some 36)), .inl (w_i (g_mH g)), .inl (w_i (g_mC g)), .inl (w_i spr7), .inl (w_i kee7), .inl (w_i (g_mnp g + 1)), .inl (w_i rul7), .inl (w_i (g_mhi g)), .inr (.inl (some 37)), .inr (.inl (some 50)), .inr (.inl (some 51)), .inr (.inl (some 52)), .inr (.inl (some 53)), .inr (.inl (some 54)), .inl (w_i tpd7), .inl (w_i (g_mnt g)), .inl (w_i nxt7), .inl (w_i tok7), .inl (w_i tka7), .inl (w_i val7), .inl (w_i opn7), .inl (w_i hm7), .inl (w_i row7), .inr (.inl (some 55)), .inr (.inl (some 56)), .inr (.inl (some 57)), .inr (.inl (some 58)), .inr (.inl (some 59)), .inr (.inl (some 60)), .inr (.inl (some 61)), .inr (.inl (some 62)), .inl (w_i ksp7), .inl (w_i kke7), .inl (w_i kru7), .inr (.inl (some 63)), .inr (.inl (some 64)), .inr (.inl (some 65)), .inr (.inl (some 66))] m26 rfl rfl rfl (fun _ => rfl) (fun h30 s29 => ?_))))))
        have z32 := s29.1
        have z32y := s29.2.1
        have z32w := s29.2.2.2.2 z28w
        refine w_al (fun _ => rfl) (w_getf s29.2.2.1 rfl (fun _ => rfl) (w_icI (x := 1) rfl (w_op (c := w_i ((g_mnp g + 1) - 1)) (i_sub (g_mnp g + 1) 1) (w_ri ?_))))
        have F1 := F25.1
        have F2 := F25.2.1
        have gz : g_mnt (g_mpa g A13 A22) = g_mnt g := rfl
        have qa : a_g A13 (g_mnp g) = kd := by rw [w14 (g_mnp g) (by omega) (by omega)]; exact if_pos rfl
        have qb : a_g A22 (g_mnp g) = nu := by rw [w23 (g_mnp g) (by omega) (by omega)]; exact if_pos rfl
        have ivn := mpa_fin (e := _) iv21 (by omega) m27 s19.2.2.1 (by omega) (by omega) s29 ⟨_, _, _, _, _, _, _, _, _, _, _, _, _, _, rfl, by omega, by omega, by omega, by omega, by omega, by omega, by omega, by omega, by omega, by omega, by omega, by omega, by omega, by omega, by omega, by omega, by omega, by omega, by omega, by omega, by omega, by omega, by omega, by omega, by omega, by omega, by omega, by omega, by omega, by omega, by omega, by omega, by omega, by omega, by omega, by omega, by omega, by omega⟩
        exact k0 _ (g_mpa g A13 A22) h30 ivn ch_gmpa (by omega) (by omega)
      · refine w_icI (x := (-4)) wn_4 (w_ri ?_)
        exact k1 (-4) h iv F (by omega) (by omega)
    · refine w_nezf (by omega) (by omega) (by omega)  (w_icI (x := (-2)) wn_2 (w_ri ?_))
      exact k1 (-2) h iv F (by omega) (by omega)
  · refine w_eqzt (by omega) (by omega) (by omega)  (w_run k_622611 (w_icI (x := (-2)) wn_2 (w_ri ?_)))
    exact k1 (-2) h iv F (by omega) (by omega)
theorem k_610304 : m_cg 610304 = g_149_0 := rfl
theorem k_610325 : m_cg 610325 = g_149_21 := rfl
theorem k_610367 : m_cg 610367 = g_149_63 := rfl
theorem k_610322 : m_cg 610322 = g_149_18 := rfl
theorem c_mTouch {g : w_G} {o : w_O} {h : m_H} {d : Nat} {Q : Option m_V → m_H → Prop} (iv : w_Inv g o h) {a : Int} {b : Int} {is_ : Int} (a_lo : -2147483648 ≤ a) (a_hi : a ≤ 2147483647) (b_lo : -2147483648 ≤ b) (b_hi : b ≤ 2147483647) (is__lo : -2147483648 ≤ is_) (is__hi : is_ ≤ 2147483647) (k0 : ∀ (x : Int) (g2 : w_G) (h2 : m_H), w_Inv g2 o h2 → w_ch [] [3] g g2 → h2.1 = h.1 → h2.2.1 = h.2.1 → Q (some (.inl (w_i x))) h2) (k1 : ∀ (x : Int), ∀ h2 : m_H, w_Inv g o h2 → w_fr o [31] h h2 → -2147483648 ≤ x → x ≤ 2147483647 → Q (some (.inl (w_i x))) h2) : wp (d + 2) 610304 [.inr (.inl (some 31)), .inl (w_i a), .inl (w_i b), .inl (w_i is_), .inr (.inr (.inl 0))] [] h Q := by
  have F := fr_rf (o := o) (h := h) (W := [31])
  have W := iv_wm iv
  refine w_run k_610304 (w_al (fun _ => rfl) (w_il (fun _ => rfl) (w_il (fun _ => rfl) ?_)))
  obtain ⟨_, m1, spr1, kee1, rul1, tpd1, nxt1, tok1, tka1, val1, opn1, hm1, row1, ksp1, kke1, kru1, rfl, l1_spr, u1_spr, l1_kee, u1_kee, l1_rul, u1_rul, l1_tpd, u1_tpd, l1_nxt, u1_nxt, l1_tok, u1_tok, l1_tka, u1_tka, l1_val, u1_val, l1_opn, u1_opn, l1_hm, u1_hm, l1_row, u1_row, l1_ksp, u1_ksp, l1_kke, u1_kke, l1_kru, u1_kru, f1_0, f1_1, f1_2, f1_3, f1_4, f1_5, f1_6, f1_7, f1_8, f1_9⟩ := iv_31 iv
  refine w_this (fun _ => rfl) m1 ?_
  refine w_ca (fun _ => rfl) rfl (c_mAreTwo (d := d) iv (a := a) (b := b) (by omega) (by omega) (by omega) (by omega)   (fun b2 b3 b4 b5 b6 => ⟨_, rfl, ?_⟩) (fun b7 => ⟨_, rfl, ?_⟩))
  · refine w_eqzf (by omega) (by omega) (by omega)  (w_il (fun _ => rfl) (w_icI (x := 0) rfl (w_icI (x := 1) rfl ?_)))
    refine w_ca (fun _ => rfl) rfl (c_mIsIn (d := (d + 1)) iv (n := is_) (ln := 0) (mn := 1) (by omega) (by omega) (by omega) (by omega) (by omega) (by omega)   (fun b8 b9 => ⟨_, rfl, ?_⟩) (fun b10 => ⟨_, rfl, ?_⟩))
    · refine w_nezt (by omega) (by omega) (by omega)  (w_run k_610325 (w_al (fun _ => rfl) (w_getf m1 rfl (fun _ => rfl) (w_il (fun _ => rfl) ?_))))
      obtain ⟨_, m11, A11, rfl, e11⟩ := iv_32 iv
      refine w_aldI m11 (by omega) (by omega) (by omega) ?_
      obtain ⟨b12, b13⟩ := ag_rg A11 a
      have e14 := e11 a (by omega) (by omega)
      refine w_il (fun _ => rfl) (w_opR shr_lt (fun x15 x150 x151 x15e => ?_))
      refine w_icI (x := 1) rfl (w_op01 and_1 (fun x16 x160 x161 x16e => ?_))
      refine w_is (fun _ => rfl) (w_il (fun _ => rfl) (w_il (fun _ => rfl) ?_))
      refine w_eq2 (by omega) (by omega) (by omega) (by omega)  (fun c17 => ?_) (fun c17 => ?_)
      · refine w_run k_610367 (w_il (fun _ => rfl) (w_ri ?_))
        exact k1 x16 h iv F (by omega) (by omega)
      · have z18 := iv.2.2.2.2.1
        have z18w := iv.1
        refine w_al (fun _ => rfl) (w_getf m1 rfl (fun _ => rfl) (w_il (fun _ => rfl) (w_dup2 (fun _ => rfl) (fun _ => rfl) (w_aldI m11 (by omega) (by omega) (by omega) ?_))))
        obtain ⟨b19, b20⟩ := ag_rg A11 a
        have e21 := e11 a (by omega) (by omega)
        refine w_icI (x := 1) rfl (w_il (fun _ => rfl) (w_opR shl_lt (fun x22 x220 x221 x22e => ?_)))
        refine w_opR xor_lt (fun x23 x230 x231 x23e => ?_)
        have hTa := wf_mT iv a (by omega) (by omega)
        have eTa := e11 a (by omega) (by omega)
        have hxa := xr_63 (T := (a_g A11 a)) (b := b) (by omega) (by omega) (by omega) (by omega) x22e x23e (by omega) (by omega)
        refine w_astI m11 (by omega) (by omega) (by omega) (by omega) (by omega) (fun A26 h25 w27 s24 => ?_)
        have z28 := s24.1
        have z28y := s24.2.1
        have z28w := s24.2.2.2.2 z18w
        refine w_al (fun _ => rfl) ?_
        have m29 := st_fr s24 m1 (by decide)
        refine w_getf m29 rfl (fun _ => rfl) (w_il (fun _ => rfl) (w_dup2 (fun _ => rfl) (fun _ => rfl) (w_aldI s24.2.2.1 (by omega) (by omega) (by omega) ?_)))
        obtain ⟨b30, b31⟩ := ag_rg A26 b
        have eb2 : a_g A26 b = a_g A11 b := (w27 b (by omega) (by omega)).trans (if_neg (by omega))
        refine w_icI (x := 1) rfl (w_il (fun _ => rfl) (w_opR shl_lt (fun x32 x320 x321 x32e => ?_)))
        refine w_opR xor_lt (fun x33 x330 x331 x33e => ?_)
        have hTb := wf_mT iv b (by omega) (by omega)
        have eTb := e11 b (by omega) (by omega)
        have hxb := xr_63 (T := (a_g A26 b)) (b := a) (by omega) (by omega) (by omega) (by omega) x32e x33e (by omega) (by omega)
        refine w_astI s24.2.2.1 (by omega) (by omega) (by omega) (by omega) (by omega) (fun A36 h35 w37 s34 => ?_)
        have z38 := s34.1
        have z38y := s34.2.1
        have z38w := s34.2.2.2.2 z28w
        refine w_il (fun _ => rfl) (w_ri ?_)
        have F1 := F.1
        have F2 := F.2.1
        have hA : ∀ j : Int, 0 ≤ j → j < 6 → 0 ≤ a_g A36 j ∧ a_g A36 j ≤ 63 := fun j j0 j1 => by
          rw [w37 j j0 (by omega)]
          by_cases hb : j = b
          · rw [if_pos hb]; exact hxb
          · rw [if_neg hb, w27 j j0 (by omega)]
            by_cases ha : j = a
            · rw [if_pos ha]; exact hxa
            · rw [if_neg ha, e11 j j0 (by omega)]; exact wf_mT iv j j0 (by omega)
        have ivn := mto_fin iv z38w (by omega) (fun q n32 => (s34.2.2.2.1 q n32).trans ((s24.2.2.2.1 q n32).trans (rfl))) s34.2.2.1 hA
        exact k0 _ (g_mto g A36) h35 ivn ch_gmto (by omega) (by omega)
    · refine w_nezf (by omega) (by omega) (by omega)  (w_icI (x := (-2)) wn_2 (w_ri ?_))
      exact k1 (-2) h iv F (by omega) (by omega)
  · refine w_eqzt (by omega) (by omega) (by omega)  (w_run k_610322 (w_icI (x := (-2)) wn_2 (w_ri ?_)))
    exact k1 (-2) h iv F (by omega) (by omega)
theorem k_884736 : m_cg 884736 = g_216_0 := rfl
theorem k_884743 : m_cg 884743 = g_216_7 := rfl
theorem k_884779 : m_cg 884779 = g_216_43 := rfl
theorem c_mImage {g : w_G} {o : w_O} {h : m_H} {d : Nat} {Q : Option m_V → m_H → Prop} (iv : w_Inv g o h) (k0 : ∀ (x : Int) (g2 : w_G) (h2 : m_H), w_Inv g2 o h2 → w_ch [11] [] g g2 → h2.1 = h.1 → h2.2.1 = h.2.1 → Q (some (.inl (w_i x))) h2) : wp (d + 1) 884736 [.inr (.inl (some 31)), .inr (.inr (.inl 0))] [] h Q := by
  have F := fr_rf (o := o) (h := h) (W := [31])
  have W := iv_wm iv
  refine w_run k_884736 ?_
  obtain ⟨_, m1, spr1, kee1, rul1, tpd1, nxt1, tok1, tka1, val1, opn1, hm1, row1, ksp1, kke1, kru1, rfl, l1_spr, u1_spr, l1_kee, u1_kee, l1_rul, u1_rul, l1_tpd, u1_tpd, l1_nxt, u1_nxt, l1_tok, u1_tok, l1_tka, u1_tka, l1_val, u1_val, l1_opn, u1_opn, l1_hm, u1_hm, l1_row, u1_row, l1_ksp, u1_ksp, l1_kke, u1_kke, l1_kru, u1_kru, f1_0, f1_1, f1_2, f1_3, f1_4, f1_5, f1_6, f1_7, f1_8, f1_9⟩ := iv_31 iv
  obtain ⟨_, m2, A2, rfl, e2⟩ := iv_33 iv
  obtain ⟨_, m3, A3, rfl⟩ := iv_34 iv
  obtain ⟨_, m4, A4, rfl, e4⟩ := iv_61 iv
  obtain ⟨_, m5, A5, rfl⟩ := iv_62 iv
  have z6 := iv.2.2.2.2.1
  have z6w := iv.1
  refine w_al (fun _ => rfl) (w_icI (x := 1) rfl (w_putf [.inr (.inl (some 32)), .inr (.inl (some 33)), .inr (.inl (some 34)), .inr (.inl (some 35)), .inr (.inl (some 36)), .inl (w_i (g_mH g)), .inl (w_i (g_mC g)), .inl (w_i spr1), .inl (w_i kee1), .inl (w_i (g_mnp g)), .inl (w_i rul1), .inl (w_i 1), .inr (.inl (some 37)), .inr (.inl (some 50)), .inr (.inl (some 51)), .inr (.inl (some 52)), .inr (.inl (some 53)), .inr (.inl (some 54)), .inl (w_i tpd1), .inl (w_i (g_mnt g)), .inl (w_i nxt1), .inl (w_i tok1), .inl (w_i tka1), .inl (w_i val1), .inl (w_i opn1), .inl (w_i hm1), .inl (w_i row1), .inr (.inl (some 55)), .inr (.inl (some 56)), .inr (.inl (some 57)), .inr (.inl (some 58)), .inr (.inl (some 59)), .inr (.inl (some 60)), .inr (.inl (some 61)), .inr (.inl (some 62)), .inl (w_i ksp1), .inl (w_i kke1), .inl (w_i kru1), .inr (.inl (some 63)), .inr (.inl (some 64)), .inr (.inl (some 65)), .inr (.inl (some 66))] m1 rfl rfl rfl (fun _ => rfl) (fun h8 s7 => ?_)))
  have z10 := s7.1
  have z10y := s7.2.1
  have z10w := s7.2.2.2.2 z6w
  refine w_icI (x := 0) rfl (w_is (fun _ => rfl) (w_il (fun _ => rfl) (w_icI (x := 6) rfl (w_gef (by omega) (by omega) (by omega) (by omega) (by omega)  (w_al (fun _ => rfl) (w_getf s7.2.2.1 rfl (fun _ => rfl) (w_il (fun _ => rfl) (w_al (fun _ => rfl) (w_getf s7.2.2.1 rfl (fun _ => rfl) (w_il (fun _ => rfl) ?_))))))))))
  have m11 := st_fr s7 m2 (by decide)
  refine w_aldI m11 (by omega) (by omega) (by omega) ?_
  obtain ⟨b12, b13⟩ := ag_rg A2 0
  have e14 := e2 0 (by omega) (by omega)
  have m15 := st_fr s7 m4 (by decide)
  refine w_astI m15 (by omega) (by omega) (by omega) (by omega) (by omega) (fun A18 h17 w19 s16 => ?_)
  have q20 : a_g A18 0 = (a_g A2 0) := (w19 0 (by omega) (by omega)).trans (if_pos rfl)
  have z21 := s16.1
  have z21y := s16.2.1
  have z21w := s16.2.2.2.2 z10w
  refine w_al (fun _ => rfl) ?_
  have m22 := st_fr s16 s7.2.2.1 (by decide)
  refine w_getf m22 rfl (fun _ => rfl) (w_il (fun _ => rfl) (w_al (fun _ => rfl) (w_getf m22 rfl (fun _ => rfl) (w_il (fun _ => rfl) ?_))))
  have m23 := st_fr s7 m3 (by decide)
  have m24 := st_fr s16 m23 (by decide)
  refine w_aldI m24 (by omega) (by omega) (by omega) ?_
  obtain ⟨b25, b26⟩ := ag_rg A3 0
  have m27 := st_fr s7 m5 (by decide)
  have m28 := st_fr s16 m27 (by decide)
  refine w_astI m28 (by omega) (by omega) (by omega) (by omega) (by omega) (fun A31 h30 w32 s29 => ?_)
  have q33 : a_g A31 0 = (a_g A3 0) := (w32 0 (by omega) (by omega)).trans (if_pos rfl)
  have z34 := s29.1
  have z34y := s29.2.1
  have z34w := s29.2.2.2.2 z21w
  refine w_inc (c := w_i (0 + 1)) (fun _ => rfl) (i_addL (y := 1) rfl 0) (fun _ => rfl) (w_go (w_run k_884743 (w_il (fun _ => rfl) (w_icI (x := 6) rfl (w_gef (by omega) (by omega) (by omega) (by omega) (by omega)  (w_al (fun _ => rfl) ?_))))))
  have m35 := st_fr s29 m22 (by decide)
  refine w_getf m35 rfl (fun _ => rfl) (w_il (fun _ => rfl) (w_al (fun _ => rfl) (w_getf m35 rfl (fun _ => rfl) (w_il (fun _ => rfl) ?_))))
  have m36 := st_fr s16 m11 (by decide)
  have m37 := st_fr s29 m36 (by decide)
  refine w_aldI m37 (by omega) (by omega) (by omega) ?_
  obtain ⟨b38, b39⟩ := ag_rg A2 (0 + 1)
  have e40 := e2 (0 + 1) (by omega) (by omega)
  have m41 := st_fr s29 s16.2.2.1 (by decide)
  refine w_astI m41 (by omega) (by omega) (by omega) (by omega) (by omega) (fun A44 h43 w45 s42 => ?_)
  have q46 : a_g A44 0 = (a_g A2 0) := ((w45 0 (by omega) (by omega)).trans (if_neg (by omega))).trans q20
  have q47 : a_g A44 1 = (a_g A2 (0 + 1)) := (w45 1 (by omega) (by omega)).trans (if_pos rfl)
  have z48 := s42.1
  have z48y := s42.2.1
  have z48w := s42.2.2.2.2 z34w
  refine w_al (fun _ => rfl) ?_
  have m49 := st_fr s42 m35 (by decide)
  refine w_getf m49 rfl (fun _ => rfl) (w_il (fun _ => rfl) (w_al (fun _ => rfl) (w_getf m49 rfl (fun _ => rfl) (w_il (fun _ => rfl) ?_))))
  have m50 := st_fr s29 m24 (by decide)
  have m51 := st_fr s42 m50 (by decide)
  refine w_aldI m51 (by omega) (by omega) (by omega) ?_
  obtain ⟨b52, b53⟩ := ag_rg A3 (0 + 1)
  have m54 := st_fr s42 s29.2.2.1 (by decide)
  refine w_astI m54 (by omega) (by omega) (by omega) (by omega) (by omega) (fun A57 h56 w58 s55 => ?_)
  have q59 : a_g A57 0 = (a_g A3 0) := ((w58 0 (by omega) (by omega)).trans (if_neg (by omega))).trans q33
  have q60 : a_g A57 1 = (a_g A3 (0 + 1)) := (w58 1 (by omega) (by omega)).trans (if_pos rfl)
  have z61 := s55.1
  have z61y := s55.2.1
  have z61w := s55.2.2.2.2 z48w
  refine w_inc (c := w_i ((0 + 1) + 1)) (fun _ => rfl) (i_addL (y := 1) rfl (0 + 1)) (fun _ => rfl) (w_go (w_run k_884743 (w_il (fun _ => rfl) (w_icI (x := 6) rfl (w_gef (by omega) (by omega) (by omega) (by omega) (by omega)  (w_al (fun _ => rfl) ?_))))))
  have m62 := st_fr s55 m49 (by decide)
  refine w_getf m62 rfl (fun _ => rfl) (w_il (fun _ => rfl) (w_al (fun _ => rfl) (w_getf m62 rfl (fun _ => rfl) (w_il (fun _ => rfl) ?_))))
  have m63 := st_fr s42 m37 (by decide)
  have m64 := st_fr s55 m63 (by decide)
  refine w_aldI m64 (by omega) (by omega) (by omega) ?_
  obtain ⟨b65, b66⟩ := ag_rg A2 ((0 + 1) + 1)
  have e67 := e2 ((0 + 1) + 1) (by omega) (by omega)
  have m68 := st_fr s55 s42.2.2.1 (by decide)
  refine w_astI m68 (by omega) (by omega) (by omega) (by omega) (by omega) (fun A71 h70 w72 s69 => ?_)
  have q73 : a_g A71 0 = (a_g A2 0) := ((w72 0 (by omega) (by omega)).trans (if_neg (by omega))).trans q46
  have q74 : a_g A71 1 = (a_g A2 (0 + 1)) := ((w72 1 (by omega) (by omega)).trans (if_neg (by omega))).trans q47
  have q75 : a_g A71 2 = (a_g A2 ((0 + 1) + 1)) := (w72 2 (by omega) (by omega)).trans (if_pos rfl)
  have z76 := s69.1
  have z76y := s69.2.1
  have z76w := s69.2.2.2.2 z61w
  refine w_al (fun _ => rfl) ?_
  have m77 := st_fr s69 m62 (by decide)
  refine w_getf m77 rfl (fun _ => rfl) (w_il (fun _ => rfl) (w_al (fun _ => rfl) (w_getf m77 rfl (fun _ => rfl) (w_il (fun _ => rfl) ?_))))
  have m78 := st_fr s55 m51 (by decide)
  have m79 := st_fr s69 m78 (by decide)
  refine w_aldI m79 (by omega) (by omega) (by omega) ?_
  obtain ⟨b80, b81⟩ := ag_rg A3 ((0 + 1) + 1)
  have m82 := st_fr s69 s55.2.2.1 (by decide)
  refine w_astI m82 (by omega) (by omega) (by omega) (by omega) (by omega) (fun A85 h84 w86 s83 => ?_)
  have q87 : a_g A85 0 = (a_g A3 0) := ((w86 0 (by omega) (by omega)).trans (if_neg (by omega))).trans q59
  have q88 : a_g A85 1 = (a_g A3 (0 + 1)) := ((w86 1 (by omega) (by omega)).trans (if_neg (by omega))).trans q60
  have q89 : a_g A85 2 = (a_g A3 ((0 + 1) + 1)) := (w86 2 (by omega) (by omega)).trans (if_pos rfl)
  have z90 := s83.1
  have z90y := s83.2.1
  have z90w := s83.2.2.2.2 z76w
  refine w_inc (c := w_i (((0 + 1) + 1) + 1)) (fun _ => rfl) (i_addL (y := 1) rfl ((0 + 1) + 1)) (fun _ => rfl) (w_go (w_run k_884743 (w_il (fun _ => rfl) (w_icI (x := 6) rfl (w_gef (by omega) (by omega) (by omega) (by omega) (by omega)  (w_al (fun _ => rfl) ?_))))))
  have m91 := st_fr s83 m77 (by decide)
  refine w_getf m91 rfl (fun _ => rfl) (w_il (fun _ => rfl) (w_al (fun _ => rfl) (w_getf m91 rfl (fun _ => rfl) (w_il (fun _ => rfl) ?_))))
  have m92 := st_fr s69 m64 (by decide)
  have m93 := st_fr s83 m92 (by decide)
  refine w_aldI m93 (by omega) (by omega) (by omega) ?_
  obtain ⟨b94, b95⟩ := ag_rg A2 (((0 + 1) + 1) + 1)
  have e96 := e2 (((0 + 1) + 1) + 1) (by omega) (by omega)
  have m97 := st_fr s83 s69.2.2.1 (by decide)
  refine w_astI m97 (by omega) (by omega) (by omega) (by omega) (by omega) (fun A100 h99 w101 s98 => ?_)
  have q102 : a_g A100 0 = (a_g A2 0) := ((w101 0 (by omega) (by omega)).trans (if_neg (by omega))).trans q73
  have q103 : a_g A100 1 = (a_g A2 (0 + 1)) := ((w101 1 (by omega) (by omega)).trans (if_neg (by omega))).trans q74
  have q104 : a_g A100 2 = (a_g A2 ((0 + 1) + 1)) := ((w101 2 (by omega) (by omega)).trans (if_neg (by omega))).trans q75
  have q105 : a_g A100 3 = (a_g A2 (((0 + 1) + 1) + 1)) := (w101 3 (by omega) (by omega)).trans (if_pos rfl)
  have z106 := s98.1
  have z106y := s98.2.1
  have z106w := s98.2.2.2.2 z90w
  refine w_al (fun _ => rfl) ?_
  have m107 := st_fr s98 m91 (by decide)
  refine w_getf m107 rfl (fun _ => rfl) (w_il (fun _ => rfl) (w_al (fun _ => rfl) (w_getf m107 rfl (fun _ => rfl) (w_il (fun _ => rfl) ?_))))
  have m108 := st_fr s83 m79 (by decide)
  have m109 := st_fr s98 m108 (by decide)
  refine w_aldI m109 (by omega) (by omega) (by omega) ?_
  obtain ⟨b110, b111⟩ := ag_rg A3 (((0 + 1) + 1) + 1)
  have m112 := st_fr s98 s83.2.2.1 (by decide)
  refine w_astI m112 (by omega) (by omega) (by omega) (by omega) (by omega) (fun A115 h114 w116 s113 => ?_)
  have q117 : a_g A115 0 = (a_g A3 0) := ((w116 0 (by omega) (by omega)).trans (if_neg (by omega))).trans q87
  have q118 : a_g A115 1 = (a_g A3 (0 + 1)) := ((w116 1 (by omega) (by omega)).trans (if_neg (by omega))).trans q88
  have q119 : a_g A115 2 = (a_g A3 ((0 + 1) + 1)) := ((w116 2 (by omega) (by omega)).trans (if_neg (by omega))).trans q89
  have q120 : a_g A115 3 = (a_g A3 (((0 + 1) + 1) + 1)) := (w116 3 (by omega) (by omega)).trans (if_pos rfl)
  have z121 := s113.1
  have z121y := s113.2.1
  have z121w := s113.2.2.2.2 z106w
  refine w_inc (c := w_i ((((0 + 1) + 1) + 1) + 1)) (fun _ => rfl) (i_addL (y := 1) rfl (((0 + 1) + 1) + 1)) (fun _ => rfl) (w_go (w_run k_884743 (w_il (fun _ => rfl) (w_icI (x := 6) rfl (w_gef (by omega) (by omega) (by omega) (by omega) (by omega)  (w_al (fun _ => rfl) ?_))))))
  have m122 := st_fr s113 m107 (by decide)
  refine w_getf m122 rfl (fun _ => rfl) (w_il (fun _ => rfl) (w_al (fun _ => rfl) (w_getf m122 rfl (fun _ => rfl) (w_il (fun _ => rfl) ?_))))
  have m123 := st_fr s98 m93 (by decide)
  have m124 := st_fr s113 m123 (by decide)
  refine w_aldI m124 (by omega) (by omega) (by omega) ?_
  obtain ⟨b125, b126⟩ := ag_rg A2 ((((0 + 1) + 1) + 1) + 1)
  have e127 := e2 ((((0 + 1) + 1) + 1) + 1) (by omega) (by omega)
  have m128 := st_fr s113 s98.2.2.1 (by decide)
  refine w_astI m128 (by omega) (by omega) (by omega) (by omega) (by omega) (fun A131 h130 w132 s129 => ?_)
  have q133 : a_g A131 0 = (a_g A2 0) := ((w132 0 (by omega) (by omega)).trans (if_neg (by omega))).trans q102
  have q134 : a_g A131 1 = (a_g A2 (0 + 1)) := ((w132 1 (by omega) (by omega)).trans (if_neg (by omega))).trans q103
  have q135 : a_g A131 2 = (a_g A2 ((0 + 1) + 1)) := ((w132 2 (by omega) (by omega)).trans (if_neg (by omega))).trans q104
  have q136 : a_g A131 3 = (a_g A2 (((0 + 1) + 1) + 1)) := ((w132 3 (by omega) (by omega)).trans (if_neg (by omega))).trans q105
  have q137 : a_g A131 4 = (a_g A2 ((((0 + 1) + 1) + 1) + 1)) := (w132 4 (by omega) (by omega)).trans (if_pos rfl)
  have z138 := s129.1
  have z138y := s129.2.1
  have z138w := s129.2.2.2.2 z121w
  refine w_al (fun _ => rfl) ?_
  have m139 := st_fr s129 m122 (by decide)
  refine w_getf m139 rfl (fun _ => rfl) (w_il (fun _ => rfl) (w_al (fun _ => rfl) (w_getf m139 rfl (fun _ => rfl) (w_il (fun _ => rfl) ?_))))
  have m140 := st_fr s113 m109 (by decide)
  have m141 := st_fr s129 m140 (by decide)
  refine w_aldI m141 (by omega) (by omega) (by omega) ?_
  obtain ⟨b142, b143⟩ := ag_rg A3 ((((0 + 1) + 1) + 1) + 1)
  have m144 := st_fr s129 s113.2.2.1 (by decide)
  refine w_astI m144 (by omega) (by omega) (by omega) (by omega) (by omega) (fun A147 h146 w148 s145 => ?_)
  have q149 : a_g A147 0 = (a_g A3 0) := ((w148 0 (by omega) (by omega)).trans (if_neg (by omega))).trans q117
  have q150 : a_g A147 1 = (a_g A3 (0 + 1)) := ((w148 1 (by omega) (by omega)).trans (if_neg (by omega))).trans q118
  have q151 : a_g A147 2 = (a_g A3 ((0 + 1) + 1)) := ((w148 2 (by omega) (by omega)).trans (if_neg (by omega))).trans q119
  have q152 : a_g A147 3 = (a_g A3 (((0 + 1) + 1) + 1)) := ((w148 3 (by omega) (by omega)).trans (if_neg (by omega))).trans q120
  have q153 : a_g A147 4 = (a_g A3 ((((0 + 1) + 1) + 1) + 1)) := (w148 4 (by omega) (by omega)).trans (if_pos rfl)
  have z154 := s145.1
  have z154y := s145.2.1
  have z154w := s145.2.2.2.2 z138w
  refine w_inc (c := w_i (((((0 + 1) + 1) + 1) + 1) + 1)) (fun _ => rfl) (i_addL (y := 1) rfl ((((0 + 1) + 1) + 1) + 1)) (fun _ => rfl) (w_go (w_run k_884743 (w_il (fun _ => rfl) (w_icI (x := 6) rfl (w_gef (by omega) (by omega) (by omega) (by omega) (by omega)  (w_al (fun _ => rfl) ?_))))))
  have m155 := st_fr s145 m139 (by decide)
  refine w_getf m155 rfl (fun _ => rfl) (w_il (fun _ => rfl) (w_al (fun _ => rfl) (w_getf m155 rfl (fun _ => rfl) (w_il (fun _ => rfl) ?_))))
  have m156 := st_fr s129 m124 (by decide)
  have m157 := st_fr s145 m156 (by decide)
  refine w_aldI m157 (by omega) (by omega) (by omega) ?_
  obtain ⟨b158, b159⟩ := ag_rg A2 (((((0 + 1) + 1) + 1) + 1) + 1)
  have e160 := e2 (((((0 + 1) + 1) + 1) + 1) + 1) (by omega) (by omega)
  have m161 := st_fr s145 s129.2.2.1 (by decide)
  refine w_astI m161 (by omega) (by omega) (by omega) (by omega) (by omega) (fun A164 h163 w165 s162 => ?_)
  have q166 : a_g A164 0 = (a_g A2 0) := ((w165 0 (by omega) (by omega)).trans (if_neg (by omega))).trans q133
  have q167 : a_g A164 1 = (a_g A2 (0 + 1)) := ((w165 1 (by omega) (by omega)).trans (if_neg (by omega))).trans q134
  have q168 : a_g A164 2 = (a_g A2 ((0 + 1) + 1)) := ((w165 2 (by omega) (by omega)).trans (if_neg (by omega))).trans q135
  have q169 : a_g A164 3 = (a_g A2 (((0 + 1) + 1) + 1)) := ((w165 3 (by omega) (by omega)).trans (if_neg (by omega))).trans q136
  have q170 : a_g A164 4 = (a_g A2 ((((0 + 1) + 1) + 1) + 1)) := ((w165 4 (by omega) (by omega)).trans (if_neg (by omega))).trans q137
  have q171 : a_g A164 5 = (a_g A2 (((((0 + 1) + 1) + 1) + 1) + 1)) := (w165 5 (by omega) (by omega)).trans (if_pos rfl)
  have z172 := s162.1
  have z172y := s162.2.1
  have z172w := s162.2.2.2.2 z154w
  refine w_al (fun _ => rfl) ?_
  have m173 := st_fr s162 m155 (by decide)
  refine w_getf m173 rfl (fun _ => rfl) (w_il (fun _ => rfl) (w_al (fun _ => rfl) (w_getf m173 rfl (fun _ => rfl) (w_il (fun _ => rfl) ?_))))
  have m174 := st_fr s145 m141 (by decide)
  have m175 := st_fr s162 m174 (by decide)
  refine w_aldI m175 (by omega) (by omega) (by omega) ?_
  obtain ⟨b176, b177⟩ := ag_rg A3 (((((0 + 1) + 1) + 1) + 1) + 1)
  have m178 := st_fr s162 s145.2.2.1 (by decide)
  refine w_astI m178 (by omega) (by omega) (by omega) (by omega) (by omega) (fun A181 h180 w182 s179 => ?_)
  have q183 : a_g A181 0 = (a_g A3 0) := ((w182 0 (by omega) (by omega)).trans (if_neg (by omega))).trans q149
  have q184 : a_g A181 1 = (a_g A3 (0 + 1)) := ((w182 1 (by omega) (by omega)).trans (if_neg (by omega))).trans q150
  have q185 : a_g A181 2 = (a_g A3 ((0 + 1) + 1)) := ((w182 2 (by omega) (by omega)).trans (if_neg (by omega))).trans q151
  have q186 : a_g A181 3 = (a_g A3 (((0 + 1) + 1) + 1)) := ((w182 3 (by omega) (by omega)).trans (if_neg (by omega))).trans q152
  have q187 : a_g A181 4 = (a_g A3 ((((0 + 1) + 1) + 1) + 1)) := ((w182 4 (by omega) (by omega)).trans (if_neg (by omega))).trans q153
  have q188 : a_g A181 5 = (a_g A3 (((((0 + 1) + 1) + 1) + 1) + 1)) := (w182 5 (by omega) (by omega)).trans (if_pos rfl)
  have z189 := s179.1
  have z189y := s179.2.1
  have z189w := s179.2.2.2.2 z172w
  refine w_inc (c := w_i ((((((0 + 1) + 1) + 1) + 1) + 1) + 1)) (fun _ => rfl) (i_addL (y := 1) rfl (((((0 + 1) + 1) + 1) + 1) + 1)) (fun _ => rfl) (w_go (w_run k_884743 (w_il (fun _ => rfl) (w_icI (x := 6) rfl (w_get (by omega) (by omega) (by omega) (by omega) (by omega)  (w_run k_884779 (w_al (fun _ => rfl) (w_al (fun _ => rfl) ?_))))))))
  have m190 := st_fr s179 m173 (by decide)
  refine w_getf m190 rfl (fun _ => rfl) (w_putf [.inr (.inl (some 32)), .inr (.inl (some 33)), .inr (.inl (some 34)), .inr (.inl (some 35)), .inr (.inl (some 36)), .inl (w_i (g_mH g)), .inl (w_i (g_mC g)), .inl (w_i spr1), .inl (w_i kee1), .inl (w_i (g_mnp g)), .inl (w_i rul1), .inl (w_i 1), .inr (.inl (some 37)), .inr (.inl (some 50)), .inr (.inl (some 51)), .inr (.inl (some 52)), .inr (.inl (some 53)), .inr (.inl (some 54)), .inl (w_i tpd1), .inl (w_i (g_mnt g)), .inl (w_i nxt1), .inl (w_i tok1), .inl (w_i tka1), .inl (w_i val1), .inl (w_i opn1), .inl (w_i hm1), .inl (w_i row1), .inr (.inl (some 55)), .inr (.inl (some 56)), .inr (.inl (some 57)), .inr (.inl (some 58)), .inr (.inl (some 59)), .inr (.inl (some 60)), .inr (.inl (some 61)), .inr (.inl (some 62)), .inl (w_i spr1), .inl (w_i kke1), .inl (w_i kru1), .inr (.inl (some 63)), .inr (.inl (some 64)), .inr (.inl (some 65)), .inr (.inl (some 66))] m190 rfl rfl rfl (fun _ => rfl) (fun h192 s191 => ?_))
  have z194 := s191.1
  have z194y := s191.2.1
  have z194w := s191.2.2.2.2 z189w
  refine w_al (fun _ => rfl) (w_al (fun _ => rfl) (w_getf s191.2.2.1 rfl (fun _ => rfl) (w_putf [.inr (.inl (some 32)), .inr (.inl (some 33)), .inr (.inl (some 34)), .inr (.inl (some 35)), .inr (.inl (some 36)), .inl (w_i (g_mH g)), .inl (w_i (g_mC g)), .inl (w_i spr1), .inl (w_i kee1), .inl (w_i (g_mnp g)), .inl (w_i rul1), .inl (w_i 1), .inr (.inl (some 37)), .inr (.inl (some 50)), .inr (.inl (some 51)), .inr (.inl (some 52)), .inr (.inl (some 53)), .inr (.inl (some 54)), .inl (w_i tpd1), .inl (w_i (g_mnt g)), .inl (w_i nxt1), .inl (w_i tok1), .inl (w_i tka1), .inl (w_i val1), .inl (w_i opn1), .inl (w_i hm1), .inl (w_i row1), .inr (.inl (some 55)), .inr (.inl (some 56)), .inr (.inl (some 57)), .inr (.inl (some 58)), .inr (.inl (some 59)), .inr (.inl (some 60)), .inr (.inl (some 61)), .inr (.inl (some 62)), .inl (w_i spr1), .inl (w_i kee1), .inl (w_i kru1), .inr (.inl (some 63)), .inr (.inl (some 64)), .inr (.inl (some 65)), .inr (.inl (some 66))] s191.2.2.1 rfl rfl rfl (fun _ => rfl) (fun h196 s195 => ?_))))
  have z198 := s195.1
  have z198y := s195.2.1
  have z198w := s195.2.2.2.2 z194w
  refine w_al (fun _ => rfl) (w_al (fun _ => rfl) (w_getf s195.2.2.1 rfl (fun _ => rfl) (w_putf [.inr (.inl (some 32)), .inr (.inl (some 33)), .inr (.inl (some 34)), .inr (.inl (some 35)), .inr (.inl (some 36)), .inl (w_i (g_mH g)), .inl (w_i (g_mC g)), .inl (w_i spr1), .inl (w_i kee1), .inl (w_i (g_mnp g)), .inl (w_i rul1), .inl (w_i 1), .inr (.inl (some 37)), .inr (.inl (some 50)), .inr (.inl (some 51)), .inr (.inl (some 52)), .inr (.inl (some 53)), .inr (.inl (some 54)), .inl (w_i tpd1), .inl (w_i (g_mnt g)), .inl (w_i nxt1), .inl (w_i tok1), .inl (w_i tka1), .inl (w_i val1), .inl (w_i opn1), .inl (w_i hm1), .inl (w_i row1), .inr (.inl (some 55)), .inr (.inl (some 56)), .inr (.inl (some 57)), .inr (.inl (some 58)), .inr (.inl (some 59)), .inr (.inl (some 60)), .inr (.inl (some 61)), .inr (.inl (some 62)), .inl (w_i spr1), .inl (w_i kee1), .inl (w_i rul1), .inr (.inl (some 63)), .inr (.inl (some 64)), .inr (.inl (some 65)), .inr (.inl (some 66))] s195.2.2.1 rfl rfl rfl (fun _ => rfl) (fun h200 s199 => ?_))))
  have z202 := s199.1
  have z202y := s199.2.1
  have z202w := s199.2.2.2.2 z198w
  have F1 := F.1
  have F2 := F.2.1
  have m203 := st_fr s179 s162.2.2.1 (by decide)
  have m204 := st_fr s191 m203 (by decide)
  have m205 := st_fr s195 m204 (by decide)
  have m206 := st_fr s199 m205 (by decide)
  have gz : g_mnt (g_mim g) = g_mnt g := rfl
  have E1 : h200.1 = h.1 := by omega
  have E2 : h200.2.1 = h.2.1 := by omega
  have m207 := st_fr s191 s179.2.2.1 (by decide)
  have m208 := st_fr s195 m207 (by decide)
  have m209 := st_fr s199 m208 (by decide)
  have ivn := mim_fin (e := _) iv z202w (by omega) (fun q n31 n61 n62 => (s199.2.2.2.1 q n31).trans ((s195.2.2.2.1 q n31).trans ((s191.2.2.2.1 q n31).trans ((s179.2.2.2.1 q n62).trans ((s162.2.2.2.1 q n61).trans ((s145.2.2.2.1 q n62).trans ((s129.2.2.2.1 q n61).trans ((s113.2.2.2.1 q n62).trans ((s98.2.2.2.1 q n61).trans ((s83.2.2.2.1 q n62).trans ((s69.2.2.2.1 q n61).trans ((s55.2.2.2.1 q n62).trans ((s42.2.2.2.1 q n61).trans ((s29.2.2.2.1 q n62).trans ((s16.2.2.2.1 q n61).trans ((s7.2.2.2.1 q n31).trans (rfl))))))))))))))))) s199.2.2.1 ⟨_, _, _, _, _, _, _, _, _, _, _, _, _, _, rfl, by omega, by omega, by omega, by omega, by omega, by omega, by omega, by omega, by omega, by omega, by omega, by omega, by omega, by omega, by omega, by omega, by omega, by omega, by omega, by omega, by omega, by omega, by omega, by omega, by omega, by omega, by omega, by omega, by omega, by omega, by omega, by omega, by omega, by omega, by omega, by omega, by omega, by omega⟩ m206 (fun j j0 j1 => by rcases (show j = 0 ∨ j = 1 ∨ j = 2 ∨ j = 3 ∨ j = 4 ∨ j = 5 from by omega) with rfl | rfl | rfl | rfl | rfl | rfl <;> [(rw [q166]; exact e2 0 (by omega) (by omega)); (rw [q167]; exact e2 1 (by omega) (by omega)); (rw [q168]; exact e2 2 (by omega) (by omega)); (rw [q169]; exact e2 3 (by omega) (by omega)); (rw [q170]; exact e2 4 (by omega) (by omega)); (rw [q171]; exact e2 5 (by omega) (by omega))]) ⟨_, m209⟩
  obtain ⟨g, ivq, chg⟩ : ∃ g2 : w_G, w_Inv g2 o h200 ∧ w_ch [11] [] g g2 := ⟨_, ivn, ch_gmim⟩
  have W := iv_wm ivq
  refine w_al (fun _ => rfl) ?_
  obtain ⟨_, m210, spr210, kee210, rul210, tpd210, nxt210, tok210, tka210, val210, opn210, hm210, row210, ksp210, kke210, kru210, rfl, l210_spr, u210_spr, l210_kee, u210_kee, l210_rul, u210_rul, l210_tpd, u210_tpd, l210_nxt, u210_nxt, l210_tok, u210_tok, l210_tka, u210_tka, l210_val, u210_val, l210_opn, u210_opn, l210_hm, u210_hm, l210_row, u210_row, l210_ksp, u210_ksp, l210_kke, u210_kke, l210_kru, u210_kru, f210_0, f210_1, f210_2, f210_3, f210_4, f210_5, f210_6, f210_7, f210_8, f210_9⟩ := iv_31 ivq
  refine w_this (fun _ => rfl) m210 ?_
  refine w_ca (fun _ => rfl) rfl (c_mTownNow (d := d) ivq     (fun y211 b212 b213 b214 b215 => ⟨_, rfl, ?_⟩))
  refine w_ri ?_
  exact k0 _ g h200 ivq chg E1 E2
theorem k_888844 : m_cg 888844 = g_217_12 := rfl
theorem k_888880 : m_cg 888880 = g_217_48 := rfl
theorem l_mBack_12 {g : w_G} {o : w_O} {h0 : m_H} {d : Nat} {Q : Option m_V → m_H → Prop} (k0 : ∀ (x : Int), ∀ h2 : m_H, w_Inv g o h2 → w_fr o [31, 33, 34] h0 h2 → -2147483648 ≤ x → x ≤ 2147483647 → Q (some (.inl (w_i x))) h2) : ∀ (k : Nat) (h : m_H) (i : Int) (iv : w_Inv g o h) (F : w_fr o [31, 33, 34] h0 h) (i_lo : -2147483648 ≤ i) (i_hi : i ≤ 2147483647) (i0 : 0 ≤ i) (i1 : i ≤ 6) (hi : g_mhi g = 1), 6 - i < (k : Int) → wp (d + 1) 888844 [.inr (.inl (some 31)), .inl (w_i i)] [] h Q := by
  intro k
  induction k with
  | zero => intro h i iv F i_lo i_hi i0 i1 hi hk; exact absurd hk (by omega)
  | succ k ih =>
    intro h i iv F i_lo i_hi i0 i1 hi hk
    have W := iv_wm iv
    refine w_run k_888844 (w_il (fun _ => rfl) (w_icI (x := 6) rfl ?_))
    refine w_ge2 (by omega) (by omega) (by omega) (by omega)  (fun c1 => ?_) (fun c1 => ?_)
    · refine w_run k_888880 (w_al (fun _ => rfl) (w_al (fun _ => rfl) ?_))
      obtain ⟨_, m2, spr2, kee2, rul2, tpd2, nxt2, tok2, tka2, val2, opn2, hm2, row2, ksp2, kke2, kru2, rfl, l2_spr, u2_spr, l2_kee, u2_kee, l2_rul, u2_rul, l2_tpd, u2_tpd, l2_nxt, u2_nxt, l2_tok, u2_tok, l2_tka, u2_tka, l2_val, u2_val, l2_opn, u2_opn, l2_hm, u2_hm, l2_row, u2_row, l2_ksp, u2_ksp, l2_kke, u2_kke, l2_kru, u2_kru, f2_0, f2_1, f2_2, f2_3, f2_4, f2_5, f2_6, f2_7, f2_8, f2_9⟩ := iv_31 iv
      refine w_getf m2 rfl (fun _ => rfl) (w_putf [.inr (.inl (some 32)), .inr (.inl (some 33)), .inr (.inl (some 34)), .inr (.inl (some 35)), .inr (.inl (some 36)), .inl (w_i (g_mH g)), .inl (w_i (g_mC g)), .inl (w_i ksp2), .inl (w_i kee2), .inl (w_i (g_mnp g)), .inl (w_i rul2), .inl (w_i (g_mhi g)), .inr (.inl (some 37)), .inr (.inl (some 50)), .inr (.inl (some 51)), .inr (.inl (some 52)), .inr (.inl (some 53)), .inr (.inl (some 54)), .inl (w_i tpd2), .inl (w_i (g_mnt g)), .inl (w_i nxt2), .inl (w_i tok2), .inl (w_i tka2), .inl (w_i val2), .inl (w_i opn2), .inl (w_i hm2), .inl (w_i row2), .inr (.inl (some 55)), .inr (.inl (some 56)), .inr (.inl (some 57)), .inr (.inl (some 58)), .inr (.inl (some 59)), .inr (.inl (some 60)), .inr (.inl (some 61)), .inr (.inl (some 62)), .inl (w_i ksp2), .inl (w_i kke2), .inl (w_i kru2), .inr (.inl (some 63)), .inr (.inl (some 64)), .inr (.inl (some 65)), .inr (.inl (some 66))] m2 rfl rfl rfl (fun _ => rfl) (fun h4 s3 => ?_))
      have iv5 := is_31 iv s3 ⟨_, _, _, _, _, _, _, _, _, _, _, _, _, _, rfl, by omega, by omega, by omega, by omega, by omega, by omega, by omega, by omega, by omega, by omega, by omega, by omega, by omega, by omega, by omega, by omega, by omega, by omega, by omega, by omega, by omega, by omega, by omega, by omega, by omega, by omega, by omega, by omega, by omega, by omega, by omega, by omega, by omega, by omega, by omega, by omega, by omega, by omega⟩
      have F6 := fr_st F s3 (by rw [(ow_31 iv)]; rfl)
      refine w_al (fun _ => rfl) (w_al (fun _ => rfl) (w_getf s3.2.2.1 rfl (fun _ => rfl) (w_putf [.inr (.inl (some 32)), .inr (.inl (some 33)), .inr (.inl (some 34)), .inr (.inl (some 35)), .inr (.inl (some 36)), .inl (w_i (g_mH g)), .inl (w_i (g_mC g)), .inl (w_i ksp2), .inl (w_i kke2), .inl (w_i (g_mnp g)), .inl (w_i rul2), .inl (w_i (g_mhi g)), .inr (.inl (some 37)), .inr (.inl (some 50)), .inr (.inl (some 51)), .inr (.inl (some 52)), .inr (.inl (some 53)), .inr (.inl (some 54)), .inl (w_i tpd2), .inl (w_i (g_mnt g)), .inl (w_i nxt2), .inl (w_i tok2), .inl (w_i tka2), .inl (w_i val2), .inl (w_i opn2), .inl (w_i hm2), .inl (w_i row2), .inr (.inl (some 55)), .inr (.inl (some 56)), .inr (.inl (some 57)), .inr (.inl (some 58)), .inr (.inl (some 59)), .inr (.inl (some 60)), .inr (.inl (some 61)), .inr (.inl (some 62)), .inl (w_i ksp2), .inl (w_i kke2), .inl (w_i kru2), .inr (.inl (some 63)), .inr (.inl (some 64)), .inr (.inl (some 65)), .inr (.inl (some 66))] s3.2.2.1 rfl rfl rfl (fun _ => rfl) (fun h8 s7 => ?_))))
      have iv9 := is_31 iv5 s7 ⟨_, _, _, _, _, _, _, _, _, _, _, _, _, _, rfl, by omega, by omega, by omega, by omega, by omega, by omega, by omega, by omega, by omega, by omega, by omega, by omega, by omega, by omega, by omega, by omega, by omega, by omega, by omega, by omega, by omega, by omega, by omega, by omega, by omega, by omega, by omega, by omega, by omega, by omega, by omega, by omega, by omega, by omega, by omega, by omega, by omega, by omega⟩
      have F10 := fr_st F6 s7 (by rw [(ow_31 iv5)]; rfl)
      refine w_al (fun _ => rfl) (w_al (fun _ => rfl) (w_getf s7.2.2.1 rfl (fun _ => rfl) (w_putf [.inr (.inl (some 32)), .inr (.inl (some 33)), .inr (.inl (some 34)), .inr (.inl (some 35)), .inr (.inl (some 36)), .inl (w_i (g_mH g)), .inl (w_i (g_mC g)), .inl (w_i ksp2), .inl (w_i kke2), .inl (w_i (g_mnp g)), .inl (w_i kru2), .inl (w_i (g_mhi g)), .inr (.inl (some 37)), .inr (.inl (some 50)), .inr (.inl (some 51)), .inr (.inl (some 52)), .inr (.inl (some 53)), .inr (.inl (some 54)), .inl (w_i tpd2), .inl (w_i (g_mnt g)), .inl (w_i nxt2), .inl (w_i tok2), .inl (w_i tka2), .inl (w_i val2), .inl (w_i opn2), .inl (w_i hm2), .inl (w_i row2), .inr (.inl (some 55)), .inr (.inl (some 56)), .inr (.inl (some 57)), .inr (.inl (some 58)), .inr (.inl (some 59)), .inr (.inl (some 60)), .inr (.inl (some 61)), .inr (.inl (some 62)), .inl (w_i ksp2), .inl (w_i kke2), .inl (w_i kru2), .inr (.inl (some 63)), .inr (.inl (some 64)), .inr (.inl (some 65)), .inr (.inl (some 66))] s7.2.2.1 rfl rfl rfl (fun _ => rfl) (fun h12 s11 => ?_))))
      have iv13 := is_31 iv9 s11 ⟨_, _, _, _, _, _, _, _, _, _, _, _, _, _, rfl, by omega, by omega, by omega, by omega, by omega, by omega, by omega, by omega, by omega, by omega, by omega, by omega, by omega, by omega, by omega, by omega, by omega, by omega, by omega, by omega, by omega, by omega, by omega, by omega, by omega, by omega, by omega, by omega, by omega, by omega, by omega, by omega, by omega, by omega, by omega, by omega, by omega, by omega⟩
      have F14 := fr_st F10 s11 (by rw [(ow_31 iv9)]; rfl)
      refine w_al (fun _ => rfl) (w_this (fun _ => rfl) s11.2.2.1 ?_)
      refine w_ca (fun _ => rfl) rfl (c_mTownNow (d := d) iv13     (fun y15 b16 b17 b18 b19 => ⟨_, rfl, ?_⟩))
      refine w_ri ?_
      exact k0 y15 h12 iv13 F14 (by omega) (by omega)
    · refine w_al (fun _ => rfl) ?_
      obtain ⟨_, m20, spr20, kee20, rul20, tpd20, nxt20, tok20, tka20, val20, opn20, hm20, row20, ksp20, kke20, kru20, rfl, l20_spr, u20_spr, l20_kee, u20_kee, l20_rul, u20_rul, l20_tpd, u20_tpd, l20_nxt, u20_nxt, l20_tok, u20_tok, l20_tka, u20_tka, l20_val, u20_val, l20_opn, u20_opn, l20_hm, u20_hm, l20_row, u20_row, l20_ksp, u20_ksp, l20_kke, u20_kke, l20_kru, u20_kru, f20_0, f20_1, f20_2, f20_3, f20_4, f20_5, f20_6, f20_7, f20_8, f20_9⟩ := iv_31 iv
      refine w_getf m20 rfl (fun _ => rfl) (w_il (fun _ => rfl) (w_al (fun _ => rfl) (w_getf m20 rfl (fun _ => rfl) (w_il (fun _ => rfl) ?_))))
      obtain ⟨_, m21, A21, rfl, e21⟩ := iv_61 iv
      refine w_aldI m21 (by omega) (by omega) (by omega) ?_
      obtain ⟨b22, b23⟩ := ag_rg A21 i
      have e24 := e21 i (by omega) (by omega)
      obtain ⟨_, m25, A25, rfl, e25⟩ := iv_33 iv
      refine w_astI m25 (by omega) (by omega) (by omega) (by omega) (by omega) (fun A29 h27 w30 s26 => ?_)
      have e31 : ∀ j : Int, 0 ≤ j → j < 6 → 0 ≤ a_g A29 j ∧ a_g A29 j < g_mC g := fun j j0 j1 => by
        rw [w30 j j0 j1]
        by_cases hj : j = i
        · rw [if_pos hj]; omega
        · rw [if_neg hj]; exact e25 j j0 j1
      have iv28 := is_33 iv s26 ⟨_, rfl, e31⟩
      have F32 := fr_st F s26 (by rw [(ow_33 iv)]; rfl)
      refine w_al (fun _ => rfl) ?_
      have m33 := st_fr s26 m20 (by decide)
      refine w_getf m33 rfl (fun _ => rfl) (w_il (fun _ => rfl) (w_al (fun _ => rfl) (w_getf m33 rfl (fun _ => rfl) (w_il (fun _ => rfl) ?_))))
      obtain ⟨_, m34, A34, rfl⟩ := iv_62 iv28
      refine w_aldI m34 (by omega) (by omega) (by omega) ?_
      obtain ⟨b35, b36⟩ := ag_rg A34 i
      obtain ⟨_, m37, A37, rfl⟩ := iv_34 iv28
      refine w_astI m37 (by omega) (by omega) (by omega) (by omega) (by omega) (fun A41 h39 w42 s38 => ?_)
      have iv40 := is_34 iv28 s38 ⟨_, rfl⟩
      have F43 := fr_st F32 s38 (by rw [(ow_34 iv28)]; rfl)
      refine w_inc (c := w_i (i + 1)) (fun _ => rfl) (i_addL (y := 1) rfl i) (fun _ => rfl) (w_go ?_)
      exact ih h39 (i + 1) iv40 F43 (by omega) (by omega)  (by omega) (by omega) (by omega) (by omega)
theorem k_888832 : m_cg 888832 = g_217_0 := rfl
theorem k_888842 : m_cg 888842 = g_217_10 := rfl
theorem c_mBack {g : w_G} {o : w_O} {h : m_H} {d : Nat} {Q : Option m_V → m_H → Prop} (iv : w_Inv g o h) (k0 : ∀ (x : Int), ∀ h2 : m_H, w_Inv g o h2 → w_fr o [31, 33, 34] h h2 → -2147483648 ≤ x → x ≤ 2147483647 → Q (some (.inl (w_i x))) h2) : wp (d + 1) 888832 [.inr (.inl (some 31)), .inr (.inr (.inl 0))] [] h Q := by
  have F := fr_rf (o := o) (h := h) (W := [31, 33, 34])
  have W := iv_wm iv
  refine w_run k_888832 (w_al (fun _ => rfl) ?_)
  obtain ⟨_, m1, spr1, kee1, rul1, tpd1, nxt1, tok1, tka1, val1, opn1, hm1, row1, ksp1, kke1, kru1, rfl, l1_spr, u1_spr, l1_kee, u1_kee, l1_rul, u1_rul, l1_tpd, u1_tpd, l1_nxt, u1_nxt, l1_tok, u1_tok, l1_tka, u1_tka, l1_val, u1_val, l1_opn, u1_opn, l1_hm, u1_hm, l1_row, u1_row, l1_ksp, u1_ksp, l1_kke, u1_kke, l1_kru, u1_kru, f1_0, f1_1, f1_2, f1_3, f1_4, f1_5, f1_6, f1_7, f1_8, f1_9⟩ := iv_31 iv
  refine w_getf m1 rfl (fun _ => rfl) ?_
  refine w_nez2 (by omega) (by omega)  (fun c2 => ?_) (fun c2 => ?_)
  · refine w_run k_888842 (w_icI (x := 0) rfl (w_is (fun _ => rfl) (w_nur k_888844 ?_)))
    exact l_mBack_12          k0 (6 - 0 + 1 : Int).toNat h 0 iv F (by omega) (by omega)  (by omega) (by omega) (by omega) (by omega)
  · refine w_icI (x := (-3)) wn_3 (w_ri ?_)
    exact k0 (-3) h iv F (by omega) (by omega)
theorem k_602112 : m_cg 602112 = g_147_0 := rfl
theorem k_602145 : m_cg 602145 = g_147_33 := rfl
theorem k_577536 : m_cg 577536 = g_141_0 := rfl
theorem k_577584 : m_cg 577584 = g_141_48 := rfl
theorem k_577605 : m_cg 577605 = g_141_69 := rfl
theorem k_577548 : m_cg 577548 = g_141_12 := rfl
theorem k_577627 : m_cg 577627 = g_141_91 := rfl
theorem k_602142 : m_cg 602142 = g_147_30 := rfl
theorem c_mBuild {g : w_G} {o : w_O} {h : m_H} {d : Nat} {Q : Option m_V → m_H → Prop} (iv : w_Inv g o h) {hh : Int} {c : Int} (hh_lo : -2147483648 ≤ hh) (hh_hi : hh ≤ 2147483647) (c_lo : -2147483648 ≤ c) (c_hi : c ≤ 2147483647) (k0 : ∀ (x : Int) (g2 : w_G) (h2 : m_H), w_Inv g2 o h2 → w_ch [6, 7, 8, 11] [3] g g2 → h2.1 = h.1 → h2.2.1 = h.2.1 → Q (some (.inl (w_i x))) h2) (k1 : ∀ (x : Int), ∀ h2 : m_H, w_Inv g o h2 → w_fr o [31] h h2 → -2147483648 ≤ x → x ≤ 2147483647 → Q (some (.inl (w_i x))) h2) : wp (d + 1) 602112 [.inr (.inl (some 31)), .inl (w_i hh), .inl (w_i c), .inr (.inr (.inl 0))] [] h Q := by
  have F := fr_rf (o := o) (h := h) (W := [31])
  have W := iv_wm iv
  refine w_run k_602112 (w_il (fun _ => rfl) (w_icI (x := 1) rfl (w_icI (x := 6) rfl ?_)))
  refine w_ca (fun _ => rfl) rfl (c_mIsIn (d := d) iv (n := hh) (ln := 1) (mn := 6) (by omega) (by omega) (by omega) (by omega) (by omega) (by omega)   (fun b1 b2 => ⟨_, rfl, ?_⟩) (fun b3 => ⟨_, rfl, ?_⟩))
  · refine w_eqzf (by omega) (by omega) (by omega)  (w_il (fun _ => rfl) (w_icI (x := 2) rfl (w_icI (x := 5) rfl ?_)))
    refine w_ca (fun _ => rfl) rfl (c_mIsIn (d := d) iv (n := c) (ln := 2) (mn := 5) (by omega) (by omega) (by omega) (by omega) (by omega) (by omega)   (fun b4 b5 => ⟨_, rfl, ?_⟩) (fun b6 => ⟨_, rfl, ?_⟩))
    · refine w_eqzf (by omega) (by omega) (by omega)  (w_il (fun _ => rfl) (w_il (fun _ => rfl) ?_))
      refine w_ca (fun _ => rfl) rfl (c_mTowns (d := d) iv (ho := hh) (co := c) (by omega) (by omega) (by omega) (by omega) (by omega) (by omega) (by omega) (by omega)  (fun y7 b8 b9 b10 b11 b12 => ⟨_, rfl, ?_⟩))
      refine w_icI (x := 4096) rfl ?_
      refine w_le2 (by omega) (by omega) (by omega) (by omega)  (fun c13 => ?_) (fun c13 => ?_)
      · refine w_run k_602145 (w_al (fun _ => rfl) ?_)
        obtain ⟨_, m14, spr14, kee14, rul14, tpd14, nxt14, tok14, tka14, val14, opn14, hm14, row14, ksp14, kke14, kru14, rfl, l14_spr, u14_spr, l14_kee, u14_kee, l14_rul, u14_rul, l14_tpd, u14_tpd, l14_nxt, u14_nxt, l14_tok, u14_tok, l14_tka, u14_tka, l14_val, u14_val, l14_opn, u14_opn, l14_hm, u14_hm, l14_row, u14_row, l14_ksp, u14_ksp, l14_kke, u14_kke, l14_kru, u14_kru, f14_0, f14_1, f14_2, f14_3, f14_4, f14_5, f14_6, f14_7, f14_8, f14_9⟩ := iv_31 iv
        refine w_getf m14 rfl (fun _ => rfl) (w_is (fun _ => rfl) ?_)
        obtain ⟨_, m15, A15, rfl, e15⟩ := iv_32 iv
        obtain ⟨_, m16, A16, rfl, e16⟩ := iv_33 iv
        obtain ⟨_, m17, A17, rfl⟩ := iv_34 iv
        have z18 := iv.2.2.2.2.1
        have z18w := iv.1
        rcases (show hh = 1 ∨ hh = 2 ∨ hh = 3 ∨ hh = 4 ∨ hh = 5 ∨ hh = 6 from by omega) with hk | hk | hk | hk | hk | hk
        · refine w_al (fun _ => rfl) (w_il (fun _ => rfl) (w_il (fun _ => rfl) (w_this (fun _ => rfl) m14 (w_cv (fun _ => rfl) rfl (w_run k_577536 (w_al (fun _ => rfl) (w_il (fun _ => rfl) (w_putf [.inr (.inl (some 32)), .inr (.inl (some 33)), .inr (.inl (some 34)), .inr (.inl (some 35)), .inr (.inl (some 36)), .inl (w_i hh), .inl (w_i (g_mC g)), .inl (w_i spr14), .inl (w_i kee14), .inl (w_i (g_mnp g)), .inl (w_i rul14), .inl (w_i (g_mhi g)), .inr (.inl (some 37)), .inr (.inl (some 50)), .inr (.inl (some 51)), .inr (.inl (some 52)), .inr (.inl (some 53)), .inr (.inl (some 54)), .inl (w_i tpd14), .inl (w_i (g_mnt g)), .inl (w_i nxt14), .inl (w_i tok14), .inl (w_i tka14), .inl (w_i val14), .inl (w_i opn14), .inl (w_i hm14), .inl (w_i row14), .inr (.inl (some 55)), .inr (.inl (some 56)), .inr (.inl (some 57)), .inr (.inl (some 58)), .inr (.inl (some 59)), .inr (.inl (some 60)), .inr (.inl (some 61)), .inr (.inl (some 62)), .inl (w_i ksp14), .inl (w_i kke14), .inl (w_i kru14), .inr (.inl (some 63)), .inr (.inl (some 64)), .inr (.inl (some 65)), .inr (.inl (some 66))] m14 rfl rfl rfl (fun _ => rfl) (fun h20 s19 => ?_)))))))))
          have z22 := s19.1
          have z22y := s19.2.1
          have z22w := s19.2.2.2.2 z18w
          refine w_al (fun _ => rfl) (w_il (fun _ => rfl) (w_putf [.inr (.inl (some 32)), .inr (.inl (some 33)), .inr (.inl (some 34)), .inr (.inl (some 35)), .inr (.inl (some 36)), .inl (w_i hh), .inl (w_i c), .inl (w_i spr14), .inl (w_i kee14), .inl (w_i (g_mnp g)), .inl (w_i rul14), .inl (w_i (g_mhi g)), .inr (.inl (some 37)), .inr (.inl (some 50)), .inr (.inl (some 51)), .inr (.inl (some 52)), .inr (.inl (some 53)), .inr (.inl (some 54)), .inl (w_i tpd14), .inl (w_i (g_mnt g)), .inl (w_i nxt14), .inl (w_i tok14), .inl (w_i tka14), .inl (w_i val14), .inl (w_i opn14), .inl (w_i hm14), .inl (w_i row14), .inr (.inl (some 55)), .inr (.inl (some 56)), .inr (.inl (some 57)), .inr (.inl (some 58)), .inr (.inl (some 59)), .inr (.inl (some 60)), .inr (.inl (some 61)), .inr (.inl (some 62)), .inl (w_i ksp14), .inl (w_i kke14), .inl (w_i kru14), .inr (.inl (some 63)), .inr (.inl (some 64)), .inr (.inl (some 65)), .inr (.inl (some 66))] s19.2.2.1 rfl rfl rfl (fun _ => rfl) (fun h24 s23 => ?_)))
          have z26 := s23.1
          have z26y := s23.2.1
          have z26w := s23.2.2.2.2 z22w
          refine w_icI (x := 0) rfl (w_is (fun _ => rfl) (w_il (fun _ => rfl) (w_icI (x := 6) rfl (w_gef (by omega) (by omega) (by omega) (by omega) (by omega)  (w_al (fun _ => rfl) (w_getf s23.2.2.1 rfl (fun _ => rfl) (w_il (fun _ => rfl) (w_icI (x := 0) rfl ?_))))))))
          have m27 := st_fr s19 m15 (by decide)
          have m28 := st_fr s23 m27 (by decide)
          refine w_astI m28 (by omega) (by omega) (by omega) (by omega) (by omega) (fun A31 h30 w32 s29 => ?_)
          have q33 : a_g A31 0 = 0 := (w32 0 (by omega) (by omega)).trans (if_pos rfl)
          have z34 := s29.1
          have z34y := s29.2.1
          have z34w := s29.2.2.2.2 z26w
          refine w_il (fun _ => rfl) (w_lezt (by omega) (by omega) (by omega)  (w_run k_577584 (w_il (fun _ => rfl) (w_icI (x := 1) rfl (w_op (c := w_i (0 + 1)) (i_add 0 1) (w_il (fun _ => rfl) (w_get (by omega) (by omega) (by omega) (by omega) (by omega)  (w_run k_577605 (w_al (fun _ => rfl) ?_)))))))))
          have m35 := st_fr s29 s23.2.2.1 (by decide)
          refine w_getf m35 rfl (fun _ => rfl) (w_il (fun _ => rfl) (w_il (fun _ => rfl) (w_icI (x := 2) rfl (w_opz (c := w_i 0) (by decide +kernel) (by decide +kernel) ?_))))
          have m36 := st_fr s19 m16 (by decide)
          have m37 := st_fr s23 m36 (by decide)
          have m38 := st_fr s29 m37 (by decide)
          refine w_astI m38 (by omega) (by omega) (by omega) (by omega) (by omega) (fun A41 h40 w42 s39 => ?_)
          have q43 : a_g A41 0 = 0 := (w42 0 (by omega) (by omega)).trans (if_pos rfl)
          have z44 := s39.1
          have z44y := s39.2.1
          have z44w := s39.2.2.2.2 z34w
          refine w_al (fun _ => rfl) ?_
          have m45 := st_fr s39 m35 (by decide)
          refine w_getf m45 rfl (fun _ => rfl) (w_il (fun _ => rfl) (w_icI (x := (-1)) wn_1 ?_))
          have m46 := st_fr s19 m17 (by decide)
          have m47 := st_fr s23 m46 (by decide)
          have m48 := st_fr s29 m47 (by decide)
          have m49 := st_fr s39 m48 (by decide)
          refine w_astI m49 (by omega) (by omega) (by omega) (by omega) (by omega) (fun A52 h51 w53 s50 => ?_)
          have q54 : a_g A52 0 = (-1) := (w53 0 (by omega) (by omega)).trans (if_pos rfl)
          have z55 := s50.1
          have z55y := s50.2.1
          have z55w := s50.2.2.2.2 z44w
          refine w_inc (c := w_i (0 + 1)) (fun _ => rfl) (i_addL (y := 1) rfl 0) (fun _ => rfl) (w_go (w_run k_577548 (w_il (fun _ => rfl) (w_icI (x := 6) rfl (w_gef (by omega) (by omega) (by omega) (by omega) (by omega)  (w_al (fun _ => rfl) ?_))))))
          have m56 := st_fr s50 m45 (by decide)
          refine w_getf m56 rfl (fun _ => rfl) (w_il (fun _ => rfl) (w_icI (x := 0) rfl ?_))
          have m57 := st_fr s39 s29.2.2.1 (by decide)
          have m58 := st_fr s50 m57 (by decide)
          refine w_astI m58 (by omega) (by omega) (by omega) (by omega) (by omega) (fun A61 h60 w62 s59 => ?_)
          have q63 : a_g A61 0 = 0 := ((w62 0 (by omega) (by omega)).trans (if_neg (by omega))).trans q33
          have q64 : a_g A61 1 = 0 := (w62 1 (by omega) (by omega)).trans (if_pos rfl)
          have z65 := s59.1
          have z65y := s59.2.1
          have z65w := s59.2.2.2.2 z55w
          refine w_il (fun _ => rfl) (w_lezf (by omega) (by omega) (by omega)  (w_il (fun _ => rfl) (w_il (fun _ => rfl) (w_get (by omega) (by omega) (by omega) (by omega) (by omega)  (w_run k_577584 (w_il (fun _ => rfl) (w_icI (x := 1) rfl (w_op (c := w_i ((0 + 1) + 1)) (i_add (0 + 1) 1) (w_il (fun _ => rfl) (w_get (by omega) (by omega) (by omega) (by omega) (by omega)  (w_run k_577605 (w_al (fun _ => rfl) ?_))))))))))))
          have m66 := st_fr s59 m56 (by decide)
          refine w_getf m66 rfl (fun _ => rfl) (w_il (fun _ => rfl) (w_il (fun _ => rfl) (w_icI (x := 2) rfl (w_opz (c := w_i 1) (by decide +kernel) (by decide +kernel) ?_))))
          have m67 := st_fr s50 s39.2.2.1 (by decide)
          have m68 := st_fr s59 m67 (by decide)
          refine w_astI m68 (by omega) (by omega) (by omega) (by omega) (by omega) (fun A71 h70 w72 s69 => ?_)
          have q73 : a_g A71 0 = 0 := ((w72 0 (by omega) (by omega)).trans (if_neg (by omega))).trans q43
          have q74 : a_g A71 1 = 1 := (w72 1 (by omega) (by omega)).trans (if_pos rfl)
          have z75 := s69.1
          have z75y := s69.2.1
          have z75w := s69.2.2.2.2 z65w
          refine w_al (fun _ => rfl) ?_
          have m76 := st_fr s69 m66 (by decide)
          refine w_getf m76 rfl (fun _ => rfl) (w_il (fun _ => rfl) (w_icI (x := (-1)) wn_1 ?_))
          have m77 := st_fr s59 s50.2.2.1 (by decide)
          have m78 := st_fr s69 m77 (by decide)
          refine w_astI m78 (by omega) (by omega) (by omega) (by omega) (by omega) (fun A81 h80 w82 s79 => ?_)
          have q83 : a_g A81 0 = (-1) := ((w82 0 (by omega) (by omega)).trans (if_neg (by omega))).trans q54
          have q84 : a_g A81 1 = (-1) := (w82 1 (by omega) (by omega)).trans (if_pos rfl)
          have z85 := s79.1
          have z85y := s79.2.1
          have z85w := s79.2.2.2.2 z75w
          refine w_inc (c := w_i ((0 + 1) + 1)) (fun _ => rfl) (i_addL (y := 1) rfl (0 + 1)) (fun _ => rfl) (w_go (w_run k_577548 (w_il (fun _ => rfl) (w_icI (x := 6) rfl (w_gef (by omega) (by omega) (by omega) (by omega) (by omega)  (w_al (fun _ => rfl) ?_))))))
          have m86 := st_fr s79 m76 (by decide)
          refine w_getf m86 rfl (fun _ => rfl) (w_il (fun _ => rfl) (w_icI (x := 0) rfl ?_))
          have m87 := st_fr s69 s59.2.2.1 (by decide)
          have m88 := st_fr s79 m87 (by decide)
          refine w_astI m88 (by omega) (by omega) (by omega) (by omega) (by omega) (fun A91 h90 w92 s89 => ?_)
          have q93 : a_g A91 0 = 0 := ((w92 0 (by omega) (by omega)).trans (if_neg (by omega))).trans q63
          have q94 : a_g A91 1 = 0 := ((w92 1 (by omega) (by omega)).trans (if_neg (by omega))).trans q64
          have q95 : a_g A91 2 = 0 := (w92 2 (by omega) (by omega)).trans (if_pos rfl)
          have z96 := s89.1
          have z96y := s89.2.1
          have z96w := s89.2.2.2.2 z85w
          refine w_il (fun _ => rfl) (w_lezf (by omega) (by omega) (by omega)  (w_il (fun _ => rfl) (w_il (fun _ => rfl) (w_get (by omega) (by omega) (by omega) (by omega) (by omega)  (w_run k_577584 (w_il (fun _ => rfl) (w_icI (x := 1) rfl (w_op (c := w_i (((0 + 1) + 1) + 1)) (i_add ((0 + 1) + 1) 1) (w_il (fun _ => rfl) (w_get (by omega) (by omega) (by omega) (by omega) (by omega)  (w_run k_577605 (w_al (fun _ => rfl) ?_))))))))))))
          have m97 := st_fr s89 m86 (by decide)
          refine w_getf m97 rfl (fun _ => rfl) (w_il (fun _ => rfl) (w_il (fun _ => rfl) (w_icI (x := 2) rfl (w_opz (c := w_i 0) (by decide +kernel) (by decide +kernel) ?_))))
          have m98 := st_fr s79 s69.2.2.1 (by decide)
          have m99 := st_fr s89 m98 (by decide)
          refine w_astI m99 (by omega) (by omega) (by omega) (by omega) (by omega) (fun A102 h101 w103 s100 => ?_)
          have q104 : a_g A102 0 = 0 := ((w103 0 (by omega) (by omega)).trans (if_neg (by omega))).trans q73
          have q105 : a_g A102 1 = 1 := ((w103 1 (by omega) (by omega)).trans (if_neg (by omega))).trans q74
          have q106 : a_g A102 2 = 0 := (w103 2 (by omega) (by omega)).trans (if_pos rfl)
          have z107 := s100.1
          have z107y := s100.2.1
          have z107w := s100.2.2.2.2 z96w
          refine w_al (fun _ => rfl) ?_
          have m108 := st_fr s100 m97 (by decide)
          refine w_getf m108 rfl (fun _ => rfl) (w_il (fun _ => rfl) (w_icI (x := (-1)) wn_1 ?_))
          have m109 := st_fr s89 s79.2.2.1 (by decide)
          have m110 := st_fr s100 m109 (by decide)
          refine w_astI m110 (by omega) (by omega) (by omega) (by omega) (by omega) (fun A113 h112 w114 s111 => ?_)
          have q115 : a_g A113 0 = (-1) := ((w114 0 (by omega) (by omega)).trans (if_neg (by omega))).trans q83
          have q116 : a_g A113 1 = (-1) := ((w114 1 (by omega) (by omega)).trans (if_neg (by omega))).trans q84
          have q117 : a_g A113 2 = (-1) := (w114 2 (by omega) (by omega)).trans (if_pos rfl)
          have z118 := s111.1
          have z118y := s111.2.1
          have z118w := s111.2.2.2.2 z107w
          refine w_inc (c := w_i (((0 + 1) + 1) + 1)) (fun _ => rfl) (i_addL (y := 1) rfl ((0 + 1) + 1)) (fun _ => rfl) (w_go (w_run k_577548 (w_il (fun _ => rfl) (w_icI (x := 6) rfl (w_gef (by omega) (by omega) (by omega) (by omega) (by omega)  (w_al (fun _ => rfl) ?_))))))
          have m119 := st_fr s111 m108 (by decide)
          refine w_getf m119 rfl (fun _ => rfl) (w_il (fun _ => rfl) (w_icI (x := 0) rfl ?_))
          have m120 := st_fr s100 s89.2.2.1 (by decide)
          have m121 := st_fr s111 m120 (by decide)
          refine w_astI m121 (by omega) (by omega) (by omega) (by omega) (by omega) (fun A124 h123 w125 s122 => ?_)
          have q126 : a_g A124 0 = 0 := ((w125 0 (by omega) (by omega)).trans (if_neg (by omega))).trans q93
          have q127 : a_g A124 1 = 0 := ((w125 1 (by omega) (by omega)).trans (if_neg (by omega))).trans q94
          have q128 : a_g A124 2 = 0 := ((w125 2 (by omega) (by omega)).trans (if_neg (by omega))).trans q95
          have q129 : a_g A124 3 = 0 := (w125 3 (by omega) (by omega)).trans (if_pos rfl)
          have z130 := s122.1
          have z130y := s122.2.1
          have z130w := s122.2.2.2.2 z118w
          refine w_il (fun _ => rfl) (w_lezf (by omega) (by omega) (by omega)  (w_il (fun _ => rfl) (w_il (fun _ => rfl) (w_get (by omega) (by omega) (by omega) (by omega) (by omega)  (w_run k_577584 (w_il (fun _ => rfl) (w_icI (x := 1) rfl (w_op (c := w_i ((((0 + 1) + 1) + 1) + 1)) (i_add (((0 + 1) + 1) + 1) 1) (w_il (fun _ => rfl) (w_get (by omega) (by omega) (by omega) (by omega) (by omega)  (w_run k_577605 (w_al (fun _ => rfl) ?_))))))))))))
          have m131 := st_fr s122 m119 (by decide)
          refine w_getf m131 rfl (fun _ => rfl) (w_il (fun _ => rfl) (w_il (fun _ => rfl) (w_icI (x := 2) rfl (w_opz (c := w_i 1) (by decide +kernel) (by decide +kernel) ?_))))
          have m132 := st_fr s111 s100.2.2.1 (by decide)
          have m133 := st_fr s122 m132 (by decide)
          refine w_astI m133 (by omega) (by omega) (by omega) (by omega) (by omega) (fun A136 h135 w137 s134 => ?_)
          have q138 : a_g A136 0 = 0 := ((w137 0 (by omega) (by omega)).trans (if_neg (by omega))).trans q104
          have q139 : a_g A136 1 = 1 := ((w137 1 (by omega) (by omega)).trans (if_neg (by omega))).trans q105
          have q140 : a_g A136 2 = 0 := ((w137 2 (by omega) (by omega)).trans (if_neg (by omega))).trans q106
          have q141 : a_g A136 3 = 1 := (w137 3 (by omega) (by omega)).trans (if_pos rfl)
          have z142 := s134.1
          have z142y := s134.2.1
          have z142w := s134.2.2.2.2 z130w
          refine w_al (fun _ => rfl) ?_
          have m143 := st_fr s134 m131 (by decide)
          refine w_getf m143 rfl (fun _ => rfl) (w_il (fun _ => rfl) (w_icI (x := (-1)) wn_1 ?_))
          have m144 := st_fr s122 s111.2.2.1 (by decide)
          have m145 := st_fr s134 m144 (by decide)
          refine w_astI m145 (by omega) (by omega) (by omega) (by omega) (by omega) (fun A148 h147 w149 s146 => ?_)
          have q150 : a_g A148 0 = (-1) := ((w149 0 (by omega) (by omega)).trans (if_neg (by omega))).trans q115
          have q151 : a_g A148 1 = (-1) := ((w149 1 (by omega) (by omega)).trans (if_neg (by omega))).trans q116
          have q152 : a_g A148 2 = (-1) := ((w149 2 (by omega) (by omega)).trans (if_neg (by omega))).trans q117
          have q153 : a_g A148 3 = (-1) := (w149 3 (by omega) (by omega)).trans (if_pos rfl)
          have z154 := s146.1
          have z154y := s146.2.1
          have z154w := s146.2.2.2.2 z142w
          refine w_inc (c := w_i ((((0 + 1) + 1) + 1) + 1)) (fun _ => rfl) (i_addL (y := 1) rfl (((0 + 1) + 1) + 1)) (fun _ => rfl) (w_go (w_run k_577548 (w_il (fun _ => rfl) (w_icI (x := 6) rfl (w_gef (by omega) (by omega) (by omega) (by omega) (by omega)  (w_al (fun _ => rfl) ?_))))))
          have m155 := st_fr s146 m143 (by decide)
          refine w_getf m155 rfl (fun _ => rfl) (w_il (fun _ => rfl) (w_icI (x := 0) rfl ?_))
          have m156 := st_fr s134 s122.2.2.1 (by decide)
          have m157 := st_fr s146 m156 (by decide)
          refine w_astI m157 (by omega) (by omega) (by omega) (by omega) (by omega) (fun A160 h159 w161 s158 => ?_)
          have q162 : a_g A160 0 = 0 := ((w161 0 (by omega) (by omega)).trans (if_neg (by omega))).trans q126
          have q163 : a_g A160 1 = 0 := ((w161 1 (by omega) (by omega)).trans (if_neg (by omega))).trans q127
          have q164 : a_g A160 2 = 0 := ((w161 2 (by omega) (by omega)).trans (if_neg (by omega))).trans q128
          have q165 : a_g A160 3 = 0 := ((w161 3 (by omega) (by omega)).trans (if_neg (by omega))).trans q129
          have q166 : a_g A160 4 = 0 := (w161 4 (by omega) (by omega)).trans (if_pos rfl)
          have z167 := s158.1
          have z167y := s158.2.1
          have z167w := s158.2.2.2.2 z154w
          refine w_il (fun _ => rfl) (w_lezf (by omega) (by omega) (by omega)  (w_il (fun _ => rfl) (w_il (fun _ => rfl) (w_get (by omega) (by omega) (by omega) (by omega) (by omega)  (w_run k_577584 (w_il (fun _ => rfl) (w_icI (x := 1) rfl (w_op (c := w_i (((((0 + 1) + 1) + 1) + 1) + 1)) (i_add ((((0 + 1) + 1) + 1) + 1) 1) (w_il (fun _ => rfl) (w_get (by omega) (by omega) (by omega) (by omega) (by omega)  (w_run k_577605 (w_al (fun _ => rfl) ?_))))))))))))
          have m168 := st_fr s158 m155 (by decide)
          refine w_getf m168 rfl (fun _ => rfl) (w_il (fun _ => rfl) (w_il (fun _ => rfl) (w_icI (x := 2) rfl (w_opz (c := w_i 0) (by decide +kernel) (by decide +kernel) ?_))))
          have m169 := st_fr s146 s134.2.2.1 (by decide)
          have m170 := st_fr s158 m169 (by decide)
          refine w_astI m170 (by omega) (by omega) (by omega) (by omega) (by omega) (fun A173 h172 w174 s171 => ?_)
          have q175 : a_g A173 0 = 0 := ((w174 0 (by omega) (by omega)).trans (if_neg (by omega))).trans q138
          have q176 : a_g A173 1 = 1 := ((w174 1 (by omega) (by omega)).trans (if_neg (by omega))).trans q139
          have q177 : a_g A173 2 = 0 := ((w174 2 (by omega) (by omega)).trans (if_neg (by omega))).trans q140
          have q178 : a_g A173 3 = 1 := ((w174 3 (by omega) (by omega)).trans (if_neg (by omega))).trans q141
          have q179 : a_g A173 4 = 0 := (w174 4 (by omega) (by omega)).trans (if_pos rfl)
          have z180 := s171.1
          have z180y := s171.2.1
          have z180w := s171.2.2.2.2 z167w
          refine w_al (fun _ => rfl) ?_
          have m181 := st_fr s171 m168 (by decide)
          refine w_getf m181 rfl (fun _ => rfl) (w_il (fun _ => rfl) (w_icI (x := (-1)) wn_1 ?_))
          have m182 := st_fr s158 s146.2.2.1 (by decide)
          have m183 := st_fr s171 m182 (by decide)
          refine w_astI m183 (by omega) (by omega) (by omega) (by omega) (by omega) (fun A186 h185 w187 s184 => ?_)
          have q188 : a_g A186 0 = (-1) := ((w187 0 (by omega) (by omega)).trans (if_neg (by omega))).trans q150
          have q189 : a_g A186 1 = (-1) := ((w187 1 (by omega) (by omega)).trans (if_neg (by omega))).trans q151
          have q190 : a_g A186 2 = (-1) := ((w187 2 (by omega) (by omega)).trans (if_neg (by omega))).trans q152
          have q191 : a_g A186 3 = (-1) := ((w187 3 (by omega) (by omega)).trans (if_neg (by omega))).trans q153
          have q192 : a_g A186 4 = (-1) := (w187 4 (by omega) (by omega)).trans (if_pos rfl)
          have z193 := s184.1
          have z193y := s184.2.1
          have z193w := s184.2.2.2.2 z180w
          refine w_inc (c := w_i (((((0 + 1) + 1) + 1) + 1) + 1)) (fun _ => rfl) (i_addL (y := 1) rfl ((((0 + 1) + 1) + 1) + 1)) (fun _ => rfl) (w_go (w_run k_577548 (w_il (fun _ => rfl) (w_icI (x := 6) rfl (w_gef (by omega) (by omega) (by omega) (by omega) (by omega)  (w_al (fun _ => rfl) ?_))))))
          have m194 := st_fr s184 m181 (by decide)
          refine w_getf m194 rfl (fun _ => rfl) (w_il (fun _ => rfl) (w_icI (x := 0) rfl ?_))
          have m195 := st_fr s171 s158.2.2.1 (by decide)
          have m196 := st_fr s184 m195 (by decide)
          refine w_astI m196 (by omega) (by omega) (by omega) (by omega) (by omega) (fun A199 h198 w200 s197 => ?_)
          have q201 : a_g A199 0 = 0 := ((w200 0 (by omega) (by omega)).trans (if_neg (by omega))).trans q162
          have q202 : a_g A199 1 = 0 := ((w200 1 (by omega) (by omega)).trans (if_neg (by omega))).trans q163
          have q203 : a_g A199 2 = 0 := ((w200 2 (by omega) (by omega)).trans (if_neg (by omega))).trans q164
          have q204 : a_g A199 3 = 0 := ((w200 3 (by omega) (by omega)).trans (if_neg (by omega))).trans q165
          have q205 : a_g A199 4 = 0 := ((w200 4 (by omega) (by omega)).trans (if_neg (by omega))).trans q166
          have q206 : a_g A199 5 = 0 := (w200 5 (by omega) (by omega)).trans (if_pos rfl)
          have z207 := s197.1
          have z207y := s197.2.1
          have z207w := s197.2.2.2.2 z193w
          refine w_il (fun _ => rfl) (w_lezf (by omega) (by omega) (by omega)  (w_il (fun _ => rfl) (w_il (fun _ => rfl) (w_get (by omega) (by omega) (by omega) (by omega) (by omega)  (w_run k_577584 (w_il (fun _ => rfl) (w_icI (x := 1) rfl (w_op (c := w_i ((((((0 + 1) + 1) + 1) + 1) + 1) + 1)) (i_add (((((0 + 1) + 1) + 1) + 1) + 1) 1) (w_il (fun _ => rfl) (w_get (by omega) (by omega) (by omega) (by omega) (by omega)  (w_run k_577605 (w_al (fun _ => rfl) ?_))))))))))))
          have m208 := st_fr s197 m194 (by decide)
          refine w_getf m208 rfl (fun _ => rfl) (w_il (fun _ => rfl) (w_il (fun _ => rfl) (w_icI (x := 2) rfl (w_opz (c := w_i 1) (by decide +kernel) (by decide +kernel) ?_))))
          have m209 := st_fr s184 s171.2.2.1 (by decide)
          have m210 := st_fr s197 m209 (by decide)
          refine w_astI m210 (by omega) (by omega) (by omega) (by omega) (by omega) (fun A213 h212 w214 s211 => ?_)
          have q215 : a_g A213 0 = 0 := ((w214 0 (by omega) (by omega)).trans (if_neg (by omega))).trans q175
          have q216 : a_g A213 1 = 1 := ((w214 1 (by omega) (by omega)).trans (if_neg (by omega))).trans q176
          have q217 : a_g A213 2 = 0 := ((w214 2 (by omega) (by omega)).trans (if_neg (by omega))).trans q177
          have q218 : a_g A213 3 = 1 := ((w214 3 (by omega) (by omega)).trans (if_neg (by omega))).trans q178
          have q219 : a_g A213 4 = 0 := ((w214 4 (by omega) (by omega)).trans (if_neg (by omega))).trans q179
          have q220 : a_g A213 5 = 1 := (w214 5 (by omega) (by omega)).trans (if_pos rfl)
          have z221 := s211.1
          have z221y := s211.2.1
          have z221w := s211.2.2.2.2 z207w
          refine w_al (fun _ => rfl) ?_
          have m222 := st_fr s211 m208 (by decide)
          refine w_getf m222 rfl (fun _ => rfl) (w_il (fun _ => rfl) (w_icI (x := (-1)) wn_1 ?_))
          have m223 := st_fr s197 s184.2.2.1 (by decide)
          have m224 := st_fr s211 m223 (by decide)
          refine w_astI m224 (by omega) (by omega) (by omega) (by omega) (by omega) (fun A227 h226 w228 s225 => ?_)
          have q229 : a_g A227 0 = (-1) := ((w228 0 (by omega) (by omega)).trans (if_neg (by omega))).trans q188
          have q230 : a_g A227 1 = (-1) := ((w228 1 (by omega) (by omega)).trans (if_neg (by omega))).trans q189
          have q231 : a_g A227 2 = (-1) := ((w228 2 (by omega) (by omega)).trans (if_neg (by omega))).trans q190
          have q232 : a_g A227 3 = (-1) := ((w228 3 (by omega) (by omega)).trans (if_neg (by omega))).trans q191
          have q233 : a_g A227 4 = (-1) := ((w228 4 (by omega) (by omega)).trans (if_neg (by omega))).trans q192
          have q234 : a_g A227 5 = (-1) := (w228 5 (by omega) (by omega)).trans (if_pos rfl)
          have z235 := s225.1
          have z235y := s225.2.1
          have z235w := s225.2.2.2.2 z221w
          refine w_inc (c := w_i ((((((0 + 1) + 1) + 1) + 1) + 1) + 1)) (fun _ => rfl) (i_addL (y := 1) rfl (((((0 + 1) + 1) + 1) + 1) + 1)) (fun _ => rfl) (w_go (w_run k_577548 (w_il (fun _ => rfl) (w_icI (x := 6) rfl (w_get (by omega) (by omega) (by omega) (by omega) (by omega)  (w_run k_577627 (w_al (fun _ => rfl) (w_icI (x := 0) rfl ?_))))))))
          have m236 := st_fr s225 m222 (by decide)
          refine w_putf [.inr (.inl (some 32)), .inr (.inl (some 33)), .inr (.inl (some 34)), .inr (.inl (some 35)), .inr (.inl (some 36)), .inl (w_i hh), .inl (w_i c), .inl (w_i 0), .inl (w_i kee14), .inl (w_i (g_mnp g)), .inl (w_i rul14), .inl (w_i (g_mhi g)), .inr (.inl (some 37)), .inr (.inl (some 50)), .inr (.inl (some 51)), .inr (.inl (some 52)), .inr (.inl (some 53)), .inr (.inl (some 54)), .inl (w_i tpd14), .inl (w_i (g_mnt g)), .inl (w_i nxt14), .inl (w_i tok14), .inl (w_i tka14), .inl (w_i val14), .inl (w_i opn14), .inl (w_i hm14), .inl (w_i row14), .inr (.inl (some 55)), .inr (.inl (some 56)), .inr (.inl (some 57)), .inr (.inl (some 58)), .inr (.inl (some 59)), .inr (.inl (some 60)), .inr (.inl (some 61)), .inr (.inl (some 62)), .inl (w_i ksp14), .inl (w_i kke14), .inl (w_i kru14), .inr (.inl (some 63)), .inr (.inl (some 64)), .inr (.inl (some 65)), .inr (.inl (some 66))] m236 rfl rfl rfl (fun _ => rfl) (fun h238 s237 => ?_)
          have z240 := s237.1
          have z240y := s237.2.1
          have z240w := s237.2.2.2.2 z235w
          refine w_al (fun _ => rfl) (w_icI (x := 0) rfl (w_putf [.inr (.inl (some 32)), .inr (.inl (some 33)), .inr (.inl (some 34)), .inr (.inl (some 35)), .inr (.inl (some 36)), .inl (w_i hh), .inl (w_i c), .inl (w_i 0), .inl (w_i 0), .inl (w_i (g_mnp g)), .inl (w_i rul14), .inl (w_i (g_mhi g)), .inr (.inl (some 37)), .inr (.inl (some 50)), .inr (.inl (some 51)), .inr (.inl (some 52)), .inr (.inl (some 53)), .inr (.inl (some 54)), .inl (w_i tpd14), .inl (w_i (g_mnt g)), .inl (w_i nxt14), .inl (w_i tok14), .inl (w_i tka14), .inl (w_i val14), .inl (w_i opn14), .inl (w_i hm14), .inl (w_i row14), .inr (.inl (some 55)), .inr (.inl (some 56)), .inr (.inl (some 57)), .inr (.inl (some 58)), .inr (.inl (some 59)), .inr (.inl (some 60)), .inr (.inl (some 61)), .inr (.inl (some 62)), .inl (w_i ksp14), .inl (w_i kke14), .inl (w_i kru14), .inr (.inl (some 63)), .inr (.inl (some 64)), .inr (.inl (some 65)), .inr (.inl (some 66))] s237.2.2.1 rfl rfl rfl (fun _ => rfl) (fun h242 s241 => ?_)))
          have z244 := s241.1
          have z244y := s241.2.1
          have z244w := s241.2.2.2.2 z240w
          refine w_al (fun _ => rfl) (w_icI (x := 0) rfl (w_putf [.inr (.inl (some 32)), .inr (.inl (some 33)), .inr (.inl (some 34)), .inr (.inl (some 35)), .inr (.inl (some 36)), .inl (w_i hh), .inl (w_i c), .inl (w_i 0), .inl (w_i 0), .inl (w_i (g_mnp g)), .inl (w_i rul14), .inl (w_i 0), .inr (.inl (some 37)), .inr (.inl (some 50)), .inr (.inl (some 51)), .inr (.inl (some 52)), .inr (.inl (some 53)), .inr (.inl (some 54)), .inl (w_i tpd14), .inl (w_i (g_mnt g)), .inl (w_i nxt14), .inl (w_i tok14), .inl (w_i tka14), .inl (w_i val14), .inl (w_i opn14), .inl (w_i hm14), .inl (w_i row14), .inr (.inl (some 55)), .inr (.inl (some 56)), .inr (.inl (some 57)), .inr (.inl (some 58)), .inr (.inl (some 59)), .inr (.inl (some 60)), .inr (.inl (some 61)), .inr (.inl (some 62)), .inl (w_i ksp14), .inl (w_i kke14), .inl (w_i kru14), .inr (.inl (some 63)), .inr (.inl (some 64)), .inr (.inl (some 65)), .inr (.inl (some 66))] s241.2.2.1 rfl rfl rfl (fun _ => rfl) (fun h246 s245 => ?_)))
          have z248 := s245.1
          have z248y := s245.2.1
          have z248w := s245.2.2.2.2 z244w
          refine w_rv ⟨rfl, ?_⟩
          refine w_il (fun _ => rfl) (w_ri ?_)
          have F1 := F.1
          have F2 := F.2.1
          have m249 := st_fr s211 s197.2.2.1 (by decide)
          have m250 := st_fr s225 m249 (by decide)
          have m251 := st_fr s237 m250 (by decide)
          have m252 := st_fr s241 m251 (by decide)
          have m253 := st_fr s245 m252 (by decide)
          have gz : g_mnt (g_mbu g hh c A199) = g_mnt g := rfl
          have m254 := st_fr s225 s211.2.2.1 (by decide)
          have m255 := st_fr s237 m254 (by decide)
          have m256 := st_fr s241 m255 (by decide)
          have m257 := st_fr s245 m256 (by decide)
          have m258 := st_fr s237 s225.2.2.1 (by decide)
          have m259 := st_fr s241 m258 (by decide)
          have m260 := st_fr s245 m259 (by decide)
          have ivn := mbu_fin (e := _) (hh := hh) (c := c) iv (by omega) (by omega) (by omega) (by omega) (by omega) z248w (by omega) (fun q n31 n32 n33 n34 => (s245.2.2.2.1 q n31).trans ((s241.2.2.2.1 q n31).trans ((s237.2.2.2.1 q n31).trans ((s225.2.2.2.1 q n34).trans ((s211.2.2.2.1 q n33).trans ((s197.2.2.2.1 q n32).trans ((s184.2.2.2.1 q n34).trans ((s171.2.2.2.1 q n33).trans ((s158.2.2.2.1 q n32).trans ((s146.2.2.2.1 q n34).trans ((s134.2.2.2.1 q n33).trans ((s122.2.2.2.1 q n32).trans ((s111.2.2.2.1 q n34).trans ((s100.2.2.2.1 q n33).trans ((s89.2.2.2.1 q n32).trans ((s79.2.2.2.1 q n34).trans ((s69.2.2.2.1 q n33).trans ((s59.2.2.2.1 q n32).trans ((s50.2.2.2.1 q n34).trans ((s39.2.2.2.1 q n33).trans ((s29.2.2.2.1 q n32).trans ((s23.2.2.2.1 q n31).trans ((s19.2.2.2.1 q n31).trans (rfl)))))))))))))))))))))))) s245.2.2.1 ⟨_, _, _, _, _, _, _, _, _, _, _, _, _, _, rfl, by omega, by omega, by omega, by omega, by omega, by omega, by omega, by omega, by omega, by omega, by omega, by omega, by omega, by omega, by omega, by omega, by omega, by omega, by omega, by omega, by omega, by omega, by omega, by omega, by omega, by omega, by omega, by omega, by omega, by omega, by omega, by omega, by omega, by omega, by omega, by omega, by omega, by omega⟩ m253 (fun j j0 j1 => by rcases (show j = 0 ∨ j = 1 ∨ j = 2 ∨ j = 3 ∨ j = 4 ∨ j = 5 from by omega) with rfl | rfl | rfl | rfl | rfl | rfl <;> [(rw [q201]; omega); (rw [q202]; omega); (rw [q203]; omega); (rw [q204]; omega); (rw [q205]; omega); (rw [q206]; omega)]) m257 (fun j j0 j1 => by rcases (show j = 0 ∨ j = 1 ∨ j = 2 ∨ j = 3 ∨ j = 4 ∨ j = 5 from by omega) with rfl | rfl | rfl | rfl | rfl | rfl <;> [(rw [q215]; omega); (rw [q216]; omega); (rw [q217]; omega); (rw [q218]; omega); (rw [q219]; omega); (rw [q220]; omega)]) ⟨_, m260⟩
          exact k0 _ (g_mbu g hh c A199) h246 ivn ch_gmbu (by omega) (by omega)
        · refine w_al (fun _ => rfl) (w_il (fun _ => rfl) (w_il (fun _ => rfl) (w_this (fun _ => rfl) m14 (w_cv (fun _ => rfl) rfl (w_run k_577536 (w_al (fun _ => rfl) (w_il (fun _ => rfl) (w_putf [.inr (.inl (some 32)), .inr (.inl (some 33)), .inr (.inl (some 34)), .inr (.inl (some 35)), .inr (.inl (some 36)), .inl (w_i hh), .inl (w_i (g_mC g)), .inl (w_i spr14), .inl (w_i kee14), .inl (w_i (g_mnp g)), .inl (w_i rul14), .inl (w_i (g_mhi g)), .inr (.inl (some 37)), .inr (.inl (some 50)), .inr (.inl (some 51)), .inr (.inl (some 52)), .inr (.inl (some 53)), .inr (.inl (some 54)), .inl (w_i tpd14), .inl (w_i (g_mnt g)), .inl (w_i nxt14), .inl (w_i tok14), .inl (w_i tka14), .inl (w_i val14), .inl (w_i opn14), .inl (w_i hm14), .inl (w_i row14), .inr (.inl (some 55)), .inr (.inl (some 56)), .inr (.inl (some 57)), .inr (.inl (some 58)), .inr (.inl (some 59)), .inr (.inl (some 60)), .inr (.inl (some 61)), .inr (.inl (some 62)), .inl (w_i ksp14), .inl (w_i kke14), .inl (w_i kru14), .inr (.inl (some 63)), .inr (.inl (some 64)), .inr (.inl (some 65)), .inr (.inl (some 66))] m14 rfl rfl rfl (fun _ => rfl) (fun h262 s261 => ?_)))))))))
          have z264 := s261.1
          have z264y := s261.2.1
          have z264w := s261.2.2.2.2 z18w
          refine w_al (fun _ => rfl) (w_il (fun _ => rfl) (w_putf [.inr (.inl (some 32)), .inr (.inl (some 33)), .inr (.inl (some 34)), .inr (.inl (some 35)), .inr (.inl (some 36)), .inl (w_i hh), .inl (w_i c), .inl (w_i spr14), .inl (w_i kee14), .inl (w_i (g_mnp g)), .inl (w_i rul14), .inl (w_i (g_mhi g)), .inr (.inl (some 37)), .inr (.inl (some 50)), .inr (.inl (some 51)), .inr (.inl (some 52)), .inr (.inl (some 53)), .inr (.inl (some 54)), .inl (w_i tpd14), .inl (w_i (g_mnt g)), .inl (w_i nxt14), .inl (w_i tok14), .inl (w_i tka14), .inl (w_i val14), .inl (w_i opn14), .inl (w_i hm14), .inl (w_i row14), .inr (.inl (some 55)), .inr (.inl (some 56)), .inr (.inl (some 57)), .inr (.inl (some 58)), .inr (.inl (some 59)), .inr (.inl (some 60)), .inr (.inl (some 61)), .inr (.inl (some 62)), .inl (w_i ksp14), .inl (w_i kke14), .inl (w_i kru14), .inr (.inl (some 63)), .inr (.inl (some 64)), .inr (.inl (some 65)), .inr (.inl (some 66))] s261.2.2.1 rfl rfl rfl (fun _ => rfl) (fun h266 s265 => ?_)))
          have z268 := s265.1
          have z268y := s265.2.1
          have z268w := s265.2.2.2.2 z264w
          refine w_icI (x := 0) rfl (w_is (fun _ => rfl) (w_il (fun _ => rfl) (w_icI (x := 6) rfl (w_gef (by omega) (by omega) (by omega) (by omega) (by omega)  (w_al (fun _ => rfl) (w_getf s265.2.2.1 rfl (fun _ => rfl) (w_il (fun _ => rfl) (w_icI (x := 0) rfl ?_))))))))
          have m269 := st_fr s261 m15 (by decide)
          have m270 := st_fr s265 m269 (by decide)
          refine w_astI m270 (by omega) (by omega) (by omega) (by omega) (by omega) (fun A273 h272 w274 s271 => ?_)
          have q275 : a_g A273 0 = 0 := (w274 0 (by omega) (by omega)).trans (if_pos rfl)
          have z276 := s271.1
          have z276y := s271.2.1
          have z276w := s271.2.2.2.2 z268w
          refine w_il (fun _ => rfl) (w_lezt (by omega) (by omega) (by omega)  (w_run k_577584 (w_il (fun _ => rfl) (w_icI (x := 1) rfl (w_op (c := w_i (0 + 1)) (i_add 0 1) (w_il (fun _ => rfl) (w_gef (by omega) (by omega) (by omega) (by omega) (by omega)  (w_al (fun _ => rfl) ?_))))))))
          have m277 := st_fr s271 s265.2.2.1 (by decide)
          refine w_getf m277 rfl (fun _ => rfl) (w_il (fun _ => rfl) (w_dup2 (fun _ => rfl) (fun _ => rfl) (w_aldI s271.2.2.1 (by omega) (by omega) (by omega) ?_)))
          rw [q275]
          refine w_icI (x := 1) rfl (w_il (fun _ => rfl) (w_icI (x := 1) rfl (w_op (c := w_i (0 + 1)) (i_add 0 1) (w_op (c := w_i 2) (by decide +kernel) (w_op (c := w_i 2) (by decide +kernel) (w_astI s271.2.2.1 (by omega) (by omega) (by omega) (by omega) (by omega) (fun A280 h279 w281 s278 => ?_)))))))
          have q282 : a_g A280 0 = 2 := (w281 0 (by omega) (by omega)).trans (if_pos rfl)
          have z283 := s278.1
          have z283y := s278.2.1
          have z283w := s278.2.2.2.2 z276w
          refine w_al (fun _ => rfl) ?_
          have m284 := st_fr s278 m277 (by decide)
          refine w_getf m284 rfl (fun _ => rfl) (w_il (fun _ => rfl) (w_il (fun _ => rfl) (w_icI (x := 2) rfl (w_opz (c := w_i 0) (by decide +kernel) (by decide +kernel) ?_))))
          have m285 := st_fr s261 m16 (by decide)
          have m286 := st_fr s265 m285 (by decide)
          have m287 := st_fr s271 m286 (by decide)
          have m288 := st_fr s278 m287 (by decide)
          refine w_astI m288 (by omega) (by omega) (by omega) (by omega) (by omega) (fun A291 h290 w292 s289 => ?_)
          have q293 : a_g A291 0 = 0 := (w292 0 (by omega) (by omega)).trans (if_pos rfl)
          have z294 := s289.1
          have z294y := s289.2.1
          have z294w := s289.2.2.2.2 z283w
          refine w_al (fun _ => rfl) ?_
          have m295 := st_fr s289 m284 (by decide)
          refine w_getf m295 rfl (fun _ => rfl) (w_il (fun _ => rfl) (w_icI (x := (-1)) wn_1 ?_))
          have m296 := st_fr s261 m17 (by decide)
          have m297 := st_fr s265 m296 (by decide)
          have m298 := st_fr s271 m297 (by decide)
          have m299 := st_fr s278 m298 (by decide)
          have m300 := st_fr s289 m299 (by decide)
          refine w_astI m300 (by omega) (by omega) (by omega) (by omega) (by omega) (fun A303 h302 w304 s301 => ?_)
          have q305 : a_g A303 0 = (-1) := (w304 0 (by omega) (by omega)).trans (if_pos rfl)
          have z306 := s301.1
          have z306y := s301.2.1
          have z306w := s301.2.2.2.2 z294w
          refine w_inc (c := w_i (0 + 1)) (fun _ => rfl) (i_addL (y := 1) rfl 0) (fun _ => rfl) (w_go (w_run k_577548 (w_il (fun _ => rfl) (w_icI (x := 6) rfl (w_gef (by omega) (by omega) (by omega) (by omega) (by omega)  (w_al (fun _ => rfl) ?_))))))
          have m307 := st_fr s301 m295 (by decide)
          refine w_getf m307 rfl (fun _ => rfl) (w_il (fun _ => rfl) (w_icI (x := 0) rfl ?_))
          have m308 := st_fr s289 s278.2.2.1 (by decide)
          have m309 := st_fr s301 m308 (by decide)
          refine w_astI m309 (by omega) (by omega) (by omega) (by omega) (by omega) (fun A312 h311 w313 s310 => ?_)
          have q314 : a_g A312 0 = 2 := ((w313 0 (by omega) (by omega)).trans (if_neg (by omega))).trans q282
          have q315 : a_g A312 1 = 0 := (w313 1 (by omega) (by omega)).trans (if_pos rfl)
          have z316 := s310.1
          have z316y := s310.2.1
          have z316w := s310.2.2.2.2 z306w
          refine w_il (fun _ => rfl) (w_lezf (by omega) (by omega) (by omega)  (w_il (fun _ => rfl) (w_il (fun _ => rfl) (w_gef (by omega) (by omega) (by omega) (by omega) (by omega)  (w_al (fun _ => rfl) ?_)))))
          have m317 := st_fr s310 m307 (by decide)
          refine w_getf m317 rfl (fun _ => rfl) (w_il (fun _ => rfl) (w_dup2 (fun _ => rfl) (fun _ => rfl) (w_aldI s310.2.2.1 (by omega) (by omega) (by omega) ?_)))
          rw [q315]
          refine w_icI (x := 1) rfl (w_il (fun _ => rfl) (w_icI (x := 1) rfl (w_op (c := w_i ((0 + 1) - 1)) (i_sub (0 + 1) 1) (w_op (c := w_i 1) (by decide +kernel) (w_op (c := w_i 1) (by decide +kernel) (w_astI s310.2.2.1 (by omega) (by omega) (by omega) (by omega) (by omega) (fun A320 h319 w321 s318 => ?_)))))))
          have q322 : a_g A320 0 = 2 := ((w321 0 (by omega) (by omega)).trans (if_neg (by omega))).trans q314
          have q323 : a_g A320 1 = 1 := (w321 1 (by omega) (by omega)).trans (if_pos rfl)
          have z324 := s318.1
          have z324y := s318.2.1
          have z324w := s318.2.2.2.2 z316w
          refine w_il (fun _ => rfl) (w_icI (x := 1) rfl (w_op (c := w_i ((0 + 1) + 1)) (i_add (0 + 1) 1) (w_il (fun _ => rfl) (w_get (by omega) (by omega) (by omega) (by omega) (by omega)  (w_run k_577605 (w_al (fun _ => rfl) ?_))))))
          have m325 := st_fr s318 m317 (by decide)
          refine w_getf m325 rfl (fun _ => rfl) (w_il (fun _ => rfl) (w_il (fun _ => rfl) (w_icI (x := 2) rfl (w_opz (c := w_i 1) (by decide +kernel) (by decide +kernel) ?_))))
          have m326 := st_fr s301 s289.2.2.1 (by decide)
          have m327 := st_fr s310 m326 (by decide)
          have m328 := st_fr s318 m327 (by decide)
          refine w_astI m328 (by omega) (by omega) (by omega) (by omega) (by omega) (fun A331 h330 w332 s329 => ?_)
          have q333 : a_g A331 0 = 0 := ((w332 0 (by omega) (by omega)).trans (if_neg (by omega))).trans q293
          have q334 : a_g A331 1 = 1 := (w332 1 (by omega) (by omega)).trans (if_pos rfl)
          have z335 := s329.1
          have z335y := s329.2.1
          have z335w := s329.2.2.2.2 z324w
          refine w_al (fun _ => rfl) ?_
          have m336 := st_fr s329 m325 (by decide)
          refine w_getf m336 rfl (fun _ => rfl) (w_il (fun _ => rfl) (w_icI (x := (-1)) wn_1 ?_))
          have m337 := st_fr s310 s301.2.2.1 (by decide)
          have m338 := st_fr s318 m337 (by decide)
          have m339 := st_fr s329 m338 (by decide)
          refine w_astI m339 (by omega) (by omega) (by omega) (by omega) (by omega) (fun A342 h341 w343 s340 => ?_)
          have q344 : a_g A342 0 = (-1) := ((w343 0 (by omega) (by omega)).trans (if_neg (by omega))).trans q305
          have q345 : a_g A342 1 = (-1) := (w343 1 (by omega) (by omega)).trans (if_pos rfl)
          have z346 := s340.1
          have z346y := s340.2.1
          have z346w := s340.2.2.2.2 z335w
          refine w_inc (c := w_i ((0 + 1) + 1)) (fun _ => rfl) (i_addL (y := 1) rfl (0 + 1)) (fun _ => rfl) (w_go (w_run k_577548 (w_il (fun _ => rfl) (w_icI (x := 6) rfl (w_gef (by omega) (by omega) (by omega) (by omega) (by omega)  (w_al (fun _ => rfl) ?_))))))
          have m347 := st_fr s340 m336 (by decide)
          refine w_getf m347 rfl (fun _ => rfl) (w_il (fun _ => rfl) (w_icI (x := 0) rfl ?_))
          have m348 := st_fr s329 s318.2.2.1 (by decide)
          have m349 := st_fr s340 m348 (by decide)
          refine w_astI m349 (by omega) (by omega) (by omega) (by omega) (by omega) (fun A352 h351 w353 s350 => ?_)
          have q354 : a_g A352 0 = 2 := ((w353 0 (by omega) (by omega)).trans (if_neg (by omega))).trans q322
          have q355 : a_g A352 1 = 1 := ((w353 1 (by omega) (by omega)).trans (if_neg (by omega))).trans q323
          have q356 : a_g A352 2 = 0 := (w353 2 (by omega) (by omega)).trans (if_pos rfl)
          have z357 := s350.1
          have z357y := s350.2.1
          have z357w := s350.2.2.2.2 z346w
          refine w_il (fun _ => rfl) (w_lezf (by omega) (by omega) (by omega)  (w_il (fun _ => rfl) (w_il (fun _ => rfl) (w_get (by omega) (by omega) (by omega) (by omega) (by omega)  (w_run k_577584 (w_il (fun _ => rfl) (w_icI (x := 1) rfl (w_op (c := w_i (((0 + 1) + 1) + 1)) (i_add ((0 + 1) + 1) 1) (w_il (fun _ => rfl) (w_get (by omega) (by omega) (by omega) (by omega) (by omega)  (w_run k_577605 (w_al (fun _ => rfl) ?_))))))))))))
          have m358 := st_fr s350 m347 (by decide)
          refine w_getf m358 rfl (fun _ => rfl) (w_il (fun _ => rfl) (w_il (fun _ => rfl) (w_icI (x := 2) rfl (w_opz (c := w_i 0) (by decide +kernel) (by decide +kernel) ?_))))
          have m359 := st_fr s340 s329.2.2.1 (by decide)
          have m360 := st_fr s350 m359 (by decide)
          refine w_astI m360 (by omega) (by omega) (by omega) (by omega) (by omega) (fun A363 h362 w364 s361 => ?_)
          have q365 : a_g A363 0 = 0 := ((w364 0 (by omega) (by omega)).trans (if_neg (by omega))).trans q333
          have q366 : a_g A363 1 = 1 := ((w364 1 (by omega) (by omega)).trans (if_neg (by omega))).trans q334
          have q367 : a_g A363 2 = 0 := (w364 2 (by omega) (by omega)).trans (if_pos rfl)
          have z368 := s361.1
          have z368y := s361.2.1
          have z368w := s361.2.2.2.2 z357w
          refine w_al (fun _ => rfl) ?_
          have m369 := st_fr s361 m358 (by decide)
          refine w_getf m369 rfl (fun _ => rfl) (w_il (fun _ => rfl) (w_icI (x := (-1)) wn_1 ?_))
          have m370 := st_fr s350 s340.2.2.1 (by decide)
          have m371 := st_fr s361 m370 (by decide)
          refine w_astI m371 (by omega) (by omega) (by omega) (by omega) (by omega) (fun A374 h373 w375 s372 => ?_)
          have q376 : a_g A374 0 = (-1) := ((w375 0 (by omega) (by omega)).trans (if_neg (by omega))).trans q344
          have q377 : a_g A374 1 = (-1) := ((w375 1 (by omega) (by omega)).trans (if_neg (by omega))).trans q345
          have q378 : a_g A374 2 = (-1) := (w375 2 (by omega) (by omega)).trans (if_pos rfl)
          have z379 := s372.1
          have z379y := s372.2.1
          have z379w := s372.2.2.2.2 z368w
          refine w_inc (c := w_i (((0 + 1) + 1) + 1)) (fun _ => rfl) (i_addL (y := 1) rfl ((0 + 1) + 1)) (fun _ => rfl) (w_go (w_run k_577548 (w_il (fun _ => rfl) (w_icI (x := 6) rfl (w_gef (by omega) (by omega) (by omega) (by omega) (by omega)  (w_al (fun _ => rfl) ?_))))))
          have m380 := st_fr s372 m369 (by decide)
          refine w_getf m380 rfl (fun _ => rfl) (w_il (fun _ => rfl) (w_icI (x := 0) rfl ?_))
          have m381 := st_fr s361 s350.2.2.1 (by decide)
          have m382 := st_fr s372 m381 (by decide)
          refine w_astI m382 (by omega) (by omega) (by omega) (by omega) (by omega) (fun A385 h384 w386 s383 => ?_)
          have q387 : a_g A385 0 = 2 := ((w386 0 (by omega) (by omega)).trans (if_neg (by omega))).trans q354
          have q388 : a_g A385 1 = 1 := ((w386 1 (by omega) (by omega)).trans (if_neg (by omega))).trans q355
          have q389 : a_g A385 2 = 0 := ((w386 2 (by omega) (by omega)).trans (if_neg (by omega))).trans q356
          have q390 : a_g A385 3 = 0 := (w386 3 (by omega) (by omega)).trans (if_pos rfl)
          have z391 := s383.1
          have z391y := s383.2.1
          have z391w := s383.2.2.2.2 z379w
          refine w_il (fun _ => rfl) (w_lezf (by omega) (by omega) (by omega)  (w_il (fun _ => rfl) (w_il (fun _ => rfl) (w_get (by omega) (by omega) (by omega) (by omega) (by omega)  (w_run k_577584 (w_il (fun _ => rfl) (w_icI (x := 1) rfl (w_op (c := w_i ((((0 + 1) + 1) + 1) + 1)) (i_add (((0 + 1) + 1) + 1) 1) (w_il (fun _ => rfl) (w_get (by omega) (by omega) (by omega) (by omega) (by omega)  (w_run k_577605 (w_al (fun _ => rfl) ?_))))))))))))
          have m392 := st_fr s383 m380 (by decide)
          refine w_getf m392 rfl (fun _ => rfl) (w_il (fun _ => rfl) (w_il (fun _ => rfl) (w_icI (x := 2) rfl (w_opz (c := w_i 1) (by decide +kernel) (by decide +kernel) ?_))))
          have m393 := st_fr s372 s361.2.2.1 (by decide)
          have m394 := st_fr s383 m393 (by decide)
          refine w_astI m394 (by omega) (by omega) (by omega) (by omega) (by omega) (fun A397 h396 w398 s395 => ?_)
          have q399 : a_g A397 0 = 0 := ((w398 0 (by omega) (by omega)).trans (if_neg (by omega))).trans q365
          have q400 : a_g A397 1 = 1 := ((w398 1 (by omega) (by omega)).trans (if_neg (by omega))).trans q366
          have q401 : a_g A397 2 = 0 := ((w398 2 (by omega) (by omega)).trans (if_neg (by omega))).trans q367
          have q402 : a_g A397 3 = 1 := (w398 3 (by omega) (by omega)).trans (if_pos rfl)
          have z403 := s395.1
          have z403y := s395.2.1
          have z403w := s395.2.2.2.2 z391w
          refine w_al (fun _ => rfl) ?_
          have m404 := st_fr s395 m392 (by decide)
          refine w_getf m404 rfl (fun _ => rfl) (w_il (fun _ => rfl) (w_icI (x := (-1)) wn_1 ?_))
          have m405 := st_fr s383 s372.2.2.1 (by decide)
          have m406 := st_fr s395 m405 (by decide)
          refine w_astI m406 (by omega) (by omega) (by omega) (by omega) (by omega) (fun A409 h408 w410 s407 => ?_)
          have q411 : a_g A409 0 = (-1) := ((w410 0 (by omega) (by omega)).trans (if_neg (by omega))).trans q376
          have q412 : a_g A409 1 = (-1) := ((w410 1 (by omega) (by omega)).trans (if_neg (by omega))).trans q377
          have q413 : a_g A409 2 = (-1) := ((w410 2 (by omega) (by omega)).trans (if_neg (by omega))).trans q378
          have q414 : a_g A409 3 = (-1) := (w410 3 (by omega) (by omega)).trans (if_pos rfl)
          have z415 := s407.1
          have z415y := s407.2.1
          have z415w := s407.2.2.2.2 z403w
          refine w_inc (c := w_i ((((0 + 1) + 1) + 1) + 1)) (fun _ => rfl) (i_addL (y := 1) rfl (((0 + 1) + 1) + 1)) (fun _ => rfl) (w_go (w_run k_577548 (w_il (fun _ => rfl) (w_icI (x := 6) rfl (w_gef (by omega) (by omega) (by omega) (by omega) (by omega)  (w_al (fun _ => rfl) ?_))))))
          have m416 := st_fr s407 m404 (by decide)
          refine w_getf m416 rfl (fun _ => rfl) (w_il (fun _ => rfl) (w_icI (x := 0) rfl ?_))
          have m417 := st_fr s395 s383.2.2.1 (by decide)
          have m418 := st_fr s407 m417 (by decide)
          refine w_astI m418 (by omega) (by omega) (by omega) (by omega) (by omega) (fun A421 h420 w422 s419 => ?_)
          have q423 : a_g A421 0 = 2 := ((w422 0 (by omega) (by omega)).trans (if_neg (by omega))).trans q387
          have q424 : a_g A421 1 = 1 := ((w422 1 (by omega) (by omega)).trans (if_neg (by omega))).trans q388
          have q425 : a_g A421 2 = 0 := ((w422 2 (by omega) (by omega)).trans (if_neg (by omega))).trans q389
          have q426 : a_g A421 3 = 0 := ((w422 3 (by omega) (by omega)).trans (if_neg (by omega))).trans q390
          have q427 : a_g A421 4 = 0 := (w422 4 (by omega) (by omega)).trans (if_pos rfl)
          have z428 := s419.1
          have z428y := s419.2.1
          have z428w := s419.2.2.2.2 z415w
          refine w_il (fun _ => rfl) (w_lezf (by omega) (by omega) (by omega)  (w_il (fun _ => rfl) (w_il (fun _ => rfl) (w_get (by omega) (by omega) (by omega) (by omega) (by omega)  (w_run k_577584 (w_il (fun _ => rfl) (w_icI (x := 1) rfl (w_op (c := w_i (((((0 + 1) + 1) + 1) + 1) + 1)) (i_add ((((0 + 1) + 1) + 1) + 1) 1) (w_il (fun _ => rfl) (w_get (by omega) (by omega) (by omega) (by omega) (by omega)  (w_run k_577605 (w_al (fun _ => rfl) ?_))))))))))))
          have m429 := st_fr s419 m416 (by decide)
          refine w_getf m429 rfl (fun _ => rfl) (w_il (fun _ => rfl) (w_il (fun _ => rfl) (w_icI (x := 2) rfl (w_opz (c := w_i 0) (by decide +kernel) (by decide +kernel) ?_))))
          have m430 := st_fr s407 s395.2.2.1 (by decide)
          have m431 := st_fr s419 m430 (by decide)
          refine w_astI m431 (by omega) (by omega) (by omega) (by omega) (by omega) (fun A434 h433 w435 s432 => ?_)
          have q436 : a_g A434 0 = 0 := ((w435 0 (by omega) (by omega)).trans (if_neg (by omega))).trans q399
          have q437 : a_g A434 1 = 1 := ((w435 1 (by omega) (by omega)).trans (if_neg (by omega))).trans q400
          have q438 : a_g A434 2 = 0 := ((w435 2 (by omega) (by omega)).trans (if_neg (by omega))).trans q401
          have q439 : a_g A434 3 = 1 := ((w435 3 (by omega) (by omega)).trans (if_neg (by omega))).trans q402
          have q440 : a_g A434 4 = 0 := (w435 4 (by omega) (by omega)).trans (if_pos rfl)
          have z441 := s432.1
          have z441y := s432.2.1
          have z441w := s432.2.2.2.2 z428w
          refine w_al (fun _ => rfl) ?_
          have m442 := st_fr s432 m429 (by decide)
          refine w_getf m442 rfl (fun _ => rfl) (w_il (fun _ => rfl) (w_icI (x := (-1)) wn_1 ?_))
          have m443 := st_fr s419 s407.2.2.1 (by decide)
          have m444 := st_fr s432 m443 (by decide)
          refine w_astI m444 (by omega) (by omega) (by omega) (by omega) (by omega) (fun A447 h446 w448 s445 => ?_)
          have q449 : a_g A447 0 = (-1) := ((w448 0 (by omega) (by omega)).trans (if_neg (by omega))).trans q411
          have q450 : a_g A447 1 = (-1) := ((w448 1 (by omega) (by omega)).trans (if_neg (by omega))).trans q412
          have q451 : a_g A447 2 = (-1) := ((w448 2 (by omega) (by omega)).trans (if_neg (by omega))).trans q413
          have q452 : a_g A447 3 = (-1) := ((w448 3 (by omega) (by omega)).trans (if_neg (by omega))).trans q414
          have q453 : a_g A447 4 = (-1) := (w448 4 (by omega) (by omega)).trans (if_pos rfl)
          have z454 := s445.1
          have z454y := s445.2.1
          have z454w := s445.2.2.2.2 z441w
          refine w_inc (c := w_i (((((0 + 1) + 1) + 1) + 1) + 1)) (fun _ => rfl) (i_addL (y := 1) rfl ((((0 + 1) + 1) + 1) + 1)) (fun _ => rfl) (w_go (w_run k_577548 (w_il (fun _ => rfl) (w_icI (x := 6) rfl (w_gef (by omega) (by omega) (by omega) (by omega) (by omega)  (w_al (fun _ => rfl) ?_))))))
          have m455 := st_fr s445 m442 (by decide)
          refine w_getf m455 rfl (fun _ => rfl) (w_il (fun _ => rfl) (w_icI (x := 0) rfl ?_))
          have m456 := st_fr s432 s419.2.2.1 (by decide)
          have m457 := st_fr s445 m456 (by decide)
          refine w_astI m457 (by omega) (by omega) (by omega) (by omega) (by omega) (fun A460 h459 w461 s458 => ?_)
          have q462 : a_g A460 0 = 2 := ((w461 0 (by omega) (by omega)).trans (if_neg (by omega))).trans q423
          have q463 : a_g A460 1 = 1 := ((w461 1 (by omega) (by omega)).trans (if_neg (by omega))).trans q424
          have q464 : a_g A460 2 = 0 := ((w461 2 (by omega) (by omega)).trans (if_neg (by omega))).trans q425
          have q465 : a_g A460 3 = 0 := ((w461 3 (by omega) (by omega)).trans (if_neg (by omega))).trans q426
          have q466 : a_g A460 4 = 0 := ((w461 4 (by omega) (by omega)).trans (if_neg (by omega))).trans q427
          have q467 : a_g A460 5 = 0 := (w461 5 (by omega) (by omega)).trans (if_pos rfl)
          have z468 := s458.1
          have z468y := s458.2.1
          have z468w := s458.2.2.2.2 z454w
          refine w_il (fun _ => rfl) (w_lezf (by omega) (by omega) (by omega)  (w_il (fun _ => rfl) (w_il (fun _ => rfl) (w_get (by omega) (by omega) (by omega) (by omega) (by omega)  (w_run k_577584 (w_il (fun _ => rfl) (w_icI (x := 1) rfl (w_op (c := w_i ((((((0 + 1) + 1) + 1) + 1) + 1) + 1)) (i_add (((((0 + 1) + 1) + 1) + 1) + 1) 1) (w_il (fun _ => rfl) (w_get (by omega) (by omega) (by omega) (by omega) (by omega)  (w_run k_577605 (w_al (fun _ => rfl) ?_))))))))))))
          have m469 := st_fr s458 m455 (by decide)
          refine w_getf m469 rfl (fun _ => rfl) (w_il (fun _ => rfl) (w_il (fun _ => rfl) (w_icI (x := 2) rfl (w_opz (c := w_i 1) (by decide +kernel) (by decide +kernel) ?_))))
          have m470 := st_fr s445 s432.2.2.1 (by decide)
          have m471 := st_fr s458 m470 (by decide)
          refine w_astI m471 (by omega) (by omega) (by omega) (by omega) (by omega) (fun A474 h473 w475 s472 => ?_)
          have q476 : a_g A474 0 = 0 := ((w475 0 (by omega) (by omega)).trans (if_neg (by omega))).trans q436
          have q477 : a_g A474 1 = 1 := ((w475 1 (by omega) (by omega)).trans (if_neg (by omega))).trans q437
          have q478 : a_g A474 2 = 0 := ((w475 2 (by omega) (by omega)).trans (if_neg (by omega))).trans q438
          have q479 : a_g A474 3 = 1 := ((w475 3 (by omega) (by omega)).trans (if_neg (by omega))).trans q439
          have q480 : a_g A474 4 = 0 := ((w475 4 (by omega) (by omega)).trans (if_neg (by omega))).trans q440
          have q481 : a_g A474 5 = 1 := (w475 5 (by omega) (by omega)).trans (if_pos rfl)
          have z482 := s472.1
          have z482y := s472.2.1
          have z482w := s472.2.2.2.2 z468w
          refine w_al (fun _ => rfl) ?_
          have m483 := st_fr s472 m469 (by decide)
          refine w_getf m483 rfl (fun _ => rfl) (w_il (fun _ => rfl) (w_icI (x := (-1)) wn_1 ?_))
          have m484 := st_fr s458 s445.2.2.1 (by decide)
          have m485 := st_fr s472 m484 (by decide)
          refine w_astI m485 (by omega) (by omega) (by omega) (by omega) (by omega) (fun A488 h487 w489 s486 => ?_)
          have q490 : a_g A488 0 = (-1) := ((w489 0 (by omega) (by omega)).trans (if_neg (by omega))).trans q449
          have q491 : a_g A488 1 = (-1) := ((w489 1 (by omega) (by omega)).trans (if_neg (by omega))).trans q450
          have q492 : a_g A488 2 = (-1) := ((w489 2 (by omega) (by omega)).trans (if_neg (by omega))).trans q451
          have q493 : a_g A488 3 = (-1) := ((w489 3 (by omega) (by omega)).trans (if_neg (by omega))).trans q452
          have q494 : a_g A488 4 = (-1) := ((w489 4 (by omega) (by omega)).trans (if_neg (by omega))).trans q453
          have q495 : a_g A488 5 = (-1) := (w489 5 (by omega) (by omega)).trans (if_pos rfl)
          have z496 := s486.1
          have z496y := s486.2.1
          have z496w := s486.2.2.2.2 z482w
          refine w_inc (c := w_i ((((((0 + 1) + 1) + 1) + 1) + 1) + 1)) (fun _ => rfl) (i_addL (y := 1) rfl (((((0 + 1) + 1) + 1) + 1) + 1)) (fun _ => rfl) (w_go (w_run k_577548 (w_il (fun _ => rfl) (w_icI (x := 6) rfl (w_get (by omega) (by omega) (by omega) (by omega) (by omega)  (w_run k_577627 (w_al (fun _ => rfl) (w_icI (x := 0) rfl ?_))))))))
          have m497 := st_fr s486 m483 (by decide)
          refine w_putf [.inr (.inl (some 32)), .inr (.inl (some 33)), .inr (.inl (some 34)), .inr (.inl (some 35)), .inr (.inl (some 36)), .inl (w_i hh), .inl (w_i c), .inl (w_i 0), .inl (w_i kee14), .inl (w_i (g_mnp g)), .inl (w_i rul14), .inl (w_i (g_mhi g)), .inr (.inl (some 37)), .inr (.inl (some 50)), .inr (.inl (some 51)), .inr (.inl (some 52)), .inr (.inl (some 53)), .inr (.inl (some 54)), .inl (w_i tpd14), .inl (w_i (g_mnt g)), .inl (w_i nxt14), .inl (w_i tok14), .inl (w_i tka14), .inl (w_i val14), .inl (w_i opn14), .inl (w_i hm14), .inl (w_i row14), .inr (.inl (some 55)), .inr (.inl (some 56)), .inr (.inl (some 57)), .inr (.inl (some 58)), .inr (.inl (some 59)), .inr (.inl (some 60)), .inr (.inl (some 61)), .inr (.inl (some 62)), .inl (w_i ksp14), .inl (w_i kke14), .inl (w_i kru14), .inr (.inl (some 63)), .inr (.inl (some 64)), .inr (.inl (some 65)), .inr (.inl (some 66))] m497 rfl rfl rfl (fun _ => rfl) (fun h499 s498 => ?_)
          have z501 := s498.1
          have z501y := s498.2.1
          have z501w := s498.2.2.2.2 z496w
          refine w_al (fun _ => rfl) (w_icI (x := 0) rfl (w_putf [.inr (.inl (some 32)), .inr (.inl (some 33)), .inr (.inl (some 34)), .inr (.inl (some 35)), .inr (.inl (some 36)), .inl (w_i hh), .inl (w_i c), .inl (w_i 0), .inl (w_i 0), .inl (w_i (g_mnp g)), .inl (w_i rul14), .inl (w_i (g_mhi g)), .inr (.inl (some 37)), .inr (.inl (some 50)), .inr (.inl (some 51)), .inr (.inl (some 52)), .inr (.inl (some 53)), .inr (.inl (some 54)), .inl (w_i tpd14), .inl (w_i (g_mnt g)), .inl (w_i nxt14), .inl (w_i tok14), .inl (w_i tka14), .inl (w_i val14), .inl (w_i opn14), .inl (w_i hm14), .inl (w_i row14), .inr (.inl (some 55)), .inr (.inl (some 56)), .inr (.inl (some 57)), .inr (.inl (some 58)), .inr (.inl (some 59)), .inr (.inl (some 60)), .inr (.inl (some 61)), .inr (.inl (some 62)), .inl (w_i ksp14), .inl (w_i kke14), .inl (w_i kru14), .inr (.inl (some 63)), .inr (.inl (some 64)), .inr (.inl (some 65)), .inr (.inl (some 66))] s498.2.2.1 rfl rfl rfl (fun _ => rfl) (fun h503 s502 => ?_)))
          have z505 := s502.1
          have z505y := s502.2.1
          have z505w := s502.2.2.2.2 z501w
          refine w_al (fun _ => rfl) (w_icI (x := 0) rfl (w_putf [.inr (.inl (some 32)), .inr (.inl (some 33)), .inr (.inl (some 34)), .inr (.inl (some 35)), .inr (.inl (some 36)), .inl (w_i hh), .inl (w_i c), .inl (w_i 0), .inl (w_i 0), .inl (w_i (g_mnp g)), .inl (w_i rul14), .inl (w_i 0), .inr (.inl (some 37)), .inr (.inl (some 50)), .inr (.inl (some 51)), .inr (.inl (some 52)), .inr (.inl (some 53)), .inr (.inl (some 54)), .inl (w_i tpd14), .inl (w_i (g_mnt g)), .inl (w_i nxt14), .inl (w_i tok14), .inl (w_i tka14), .inl (w_i val14), .inl (w_i opn14), .inl (w_i hm14), .inl (w_i row14), .inr (.inl (some 55)), .inr (.inl (some 56)), .inr (.inl (some 57)), .inr (.inl (some 58)), .inr (.inl (some 59)), .inr (.inl (some 60)), .inr (.inl (some 61)), .inr (.inl (some 62)), .inl (w_i ksp14), .inl (w_i kke14), .inl (w_i kru14), .inr (.inl (some 63)), .inr (.inl (some 64)), .inr (.inl (some 65)), .inr (.inl (some 66))] s502.2.2.1 rfl rfl rfl (fun _ => rfl) (fun h507 s506 => ?_)))
          have z509 := s506.1
          have z509y := s506.2.1
          have z509w := s506.2.2.2.2 z505w
          refine w_rv ⟨rfl, ?_⟩
          refine w_il (fun _ => rfl) (w_ri ?_)
          have F1 := F.1
          have F2 := F.2.1
          have m510 := st_fr s472 s458.2.2.1 (by decide)
          have m511 := st_fr s486 m510 (by decide)
          have m512 := st_fr s498 m511 (by decide)
          have m513 := st_fr s502 m512 (by decide)
          have m514 := st_fr s506 m513 (by decide)
          have gz : g_mnt (g_mbu g hh c A460) = g_mnt g := rfl
          have m515 := st_fr s486 s472.2.2.1 (by decide)
          have m516 := st_fr s498 m515 (by decide)
          have m517 := st_fr s502 m516 (by decide)
          have m518 := st_fr s506 m517 (by decide)
          have m519 := st_fr s498 s486.2.2.1 (by decide)
          have m520 := st_fr s502 m519 (by decide)
          have m521 := st_fr s506 m520 (by decide)
          have ivn := mbu_fin (e := _) (hh := hh) (c := c) iv (by omega) (by omega) (by omega) (by omega) (by omega) z509w (by omega) (fun q n31 n32 n33 n34 => (s506.2.2.2.1 q n31).trans ((s502.2.2.2.1 q n31).trans ((s498.2.2.2.1 q n31).trans ((s486.2.2.2.1 q n34).trans ((s472.2.2.2.1 q n33).trans ((s458.2.2.2.1 q n32).trans ((s445.2.2.2.1 q n34).trans ((s432.2.2.2.1 q n33).trans ((s419.2.2.2.1 q n32).trans ((s407.2.2.2.1 q n34).trans ((s395.2.2.2.1 q n33).trans ((s383.2.2.2.1 q n32).trans ((s372.2.2.2.1 q n34).trans ((s361.2.2.2.1 q n33).trans ((s350.2.2.2.1 q n32).trans ((s340.2.2.2.1 q n34).trans ((s329.2.2.2.1 q n33).trans ((s318.2.2.2.1 q n32).trans ((s310.2.2.2.1 q n32).trans ((s301.2.2.2.1 q n34).trans ((s289.2.2.2.1 q n33).trans ((s278.2.2.2.1 q n32).trans ((s271.2.2.2.1 q n32).trans ((s265.2.2.2.1 q n31).trans ((s261.2.2.2.1 q n31).trans (rfl)))))))))))))))))))))))))) s506.2.2.1 ⟨_, _, _, _, _, _, _, _, _, _, _, _, _, _, rfl, by omega, by omega, by omega, by omega, by omega, by omega, by omega, by omega, by omega, by omega, by omega, by omega, by omega, by omega, by omega, by omega, by omega, by omega, by omega, by omega, by omega, by omega, by omega, by omega, by omega, by omega, by omega, by omega, by omega, by omega, by omega, by omega, by omega, by omega, by omega, by omega, by omega, by omega⟩ m514 (fun j j0 j1 => by rcases (show j = 0 ∨ j = 1 ∨ j = 2 ∨ j = 3 ∨ j = 4 ∨ j = 5 from by omega) with rfl | rfl | rfl | rfl | rfl | rfl <;> [(rw [q462]; omega); (rw [q463]; omega); (rw [q464]; omega); (rw [q465]; omega); (rw [q466]; omega); (rw [q467]; omega)]) m518 (fun j j0 j1 => by rcases (show j = 0 ∨ j = 1 ∨ j = 2 ∨ j = 3 ∨ j = 4 ∨ j = 5 from by omega) with rfl | rfl | rfl | rfl | rfl | rfl <;> [(rw [q476]; omega); (rw [q477]; omega); (rw [q478]; omega); (rw [q479]; omega); (rw [q480]; omega); (rw [q481]; omega)]) ⟨_, m521⟩
          exact k0 _ (g_mbu g hh c A460) h507 ivn ch_gmbu (by omega) (by omega)
        · refine w_al (fun _ => rfl) (w_il (fun _ => rfl) (w_il (fun _ => rfl) (w_this (fun _ => rfl) m14 (w_cv (fun _ => rfl) rfl (w_run k_577536 (w_al (fun _ => rfl) (w_il (fun _ => rfl) (w_putf [.inr (.inl (some 32)), .inr (.inl (some 33)), .inr (.inl (some 34)), .inr (.inl (some 35)), .inr (.inl (some 36)), .inl (w_i hh), .inl (w_i (g_mC g)), .inl (w_i spr14), .inl (w_i kee14), .inl (w_i (g_mnp g)), .inl (w_i rul14), .inl (w_i (g_mhi g)), .inr (.inl (some 37)), .inr (.inl (some 50)), .inr (.inl (some 51)), .inr (.inl (some 52)), .inr (.inl (some 53)), .inr (.inl (some 54)), .inl (w_i tpd14), .inl (w_i (g_mnt g)), .inl (w_i nxt14), .inl (w_i tok14), .inl (w_i tka14), .inl (w_i val14), .inl (w_i opn14), .inl (w_i hm14), .inl (w_i row14), .inr (.inl (some 55)), .inr (.inl (some 56)), .inr (.inl (some 57)), .inr (.inl (some 58)), .inr (.inl (some 59)), .inr (.inl (some 60)), .inr (.inl (some 61)), .inr (.inl (some 62)), .inl (w_i ksp14), .inl (w_i kke14), .inl (w_i kru14), .inr (.inl (some 63)), .inr (.inl (some 64)), .inr (.inl (some 65)), .inr (.inl (some 66))] m14 rfl rfl rfl (fun _ => rfl) (fun h523 s522 => ?_)))))))))
          have z525 := s522.1
          have z525y := s522.2.1
          have z525w := s522.2.2.2.2 z18w
          refine w_al (fun _ => rfl) (w_il (fun _ => rfl) (w_putf [.inr (.inl (some 32)), .inr (.inl (some 33)), .inr (.inl (some 34)), .inr (.inl (some 35)), .inr (.inl (some 36)), .inl (w_i hh), .inl (w_i c), .inl (w_i spr14), .inl (w_i kee14), .inl (w_i (g_mnp g)), .inl (w_i rul14), .inl (w_i (g_mhi g)), .inr (.inl (some 37)), .inr (.inl (some 50)), .inr (.inl (some 51)), .inr (.inl (some 52)), .inr (.inl (some 53)), .inr (.inl (some 54)), .inl (w_i tpd14), .inl (w_i (g_mnt g)), .inl (w_i nxt14), .inl (w_i tok14), .inl (w_i tka14), .inl (w_i val14), .inl (w_i opn14), .inl (w_i hm14), .inl (w_i row14), .inr (.inl (some 55)), .inr (.inl (some 56)), .inr (.inl (some 57)), .inr (.inl (some 58)), .inr (.inl (some 59)), .inr (.inl (some 60)), .inr (.inl (some 61)), .inr (.inl (some 62)), .inl (w_i ksp14), .inl (w_i kke14), .inl (w_i kru14), .inr (.inl (some 63)), .inr (.inl (some 64)), .inr (.inl (some 65)), .inr (.inl (some 66))] s522.2.2.1 rfl rfl rfl (fun _ => rfl) (fun h527 s526 => ?_)))
          have z529 := s526.1
          have z529y := s526.2.1
          have z529w := s526.2.2.2.2 z525w
          refine w_icI (x := 0) rfl (w_is (fun _ => rfl) (w_il (fun _ => rfl) (w_icI (x := 6) rfl (w_gef (by omega) (by omega) (by omega) (by omega) (by omega)  (w_al (fun _ => rfl) (w_getf s526.2.2.1 rfl (fun _ => rfl) (w_il (fun _ => rfl) (w_icI (x := 0) rfl ?_))))))))
          have m530 := st_fr s522 m15 (by decide)
          have m531 := st_fr s526 m530 (by decide)
          refine w_astI m531 (by omega) (by omega) (by omega) (by omega) (by omega) (fun A534 h533 w535 s532 => ?_)
          have q536 : a_g A534 0 = 0 := (w535 0 (by omega) (by omega)).trans (if_pos rfl)
          have z537 := s532.1
          have z537y := s532.2.1
          have z537w := s532.2.2.2.2 z529w
          refine w_il (fun _ => rfl) (w_lezt (by omega) (by omega) (by omega)  (w_run k_577584 (w_il (fun _ => rfl) (w_icI (x := 1) rfl (w_op (c := w_i (0 + 1)) (i_add 0 1) (w_il (fun _ => rfl) (w_gef (by omega) (by omega) (by omega) (by omega) (by omega)  (w_al (fun _ => rfl) ?_))))))))
          have m538 := st_fr s532 s526.2.2.1 (by decide)
          refine w_getf m538 rfl (fun _ => rfl) (w_il (fun _ => rfl) (w_dup2 (fun _ => rfl) (fun _ => rfl) (w_aldI s532.2.2.1 (by omega) (by omega) (by omega) ?_)))
          rw [q536]
          refine w_icI (x := 1) rfl (w_il (fun _ => rfl) (w_icI (x := 1) rfl (w_op (c := w_i (0 + 1)) (i_add 0 1) (w_op (c := w_i 2) (by decide +kernel) (w_op (c := w_i 2) (by decide +kernel) (w_astI s532.2.2.1 (by omega) (by omega) (by omega) (by omega) (by omega) (fun A541 h540 w542 s539 => ?_)))))))
          have q543 : a_g A541 0 = 2 := (w542 0 (by omega) (by omega)).trans (if_pos rfl)
          have z544 := s539.1
          have z544y := s539.2.1
          have z544w := s539.2.2.2.2 z537w
          refine w_al (fun _ => rfl) ?_
          have m545 := st_fr s539 m538 (by decide)
          refine w_getf m545 rfl (fun _ => rfl) (w_il (fun _ => rfl) (w_il (fun _ => rfl) (w_icI (x := 2) rfl (w_opz (c := w_i 0) (by decide +kernel) (by decide +kernel) ?_))))
          have m546 := st_fr s522 m16 (by decide)
          have m547 := st_fr s526 m546 (by decide)
          have m548 := st_fr s532 m547 (by decide)
          have m549 := st_fr s539 m548 (by decide)
          refine w_astI m549 (by omega) (by omega) (by omega) (by omega) (by omega) (fun A552 h551 w553 s550 => ?_)
          have q554 : a_g A552 0 = 0 := (w553 0 (by omega) (by omega)).trans (if_pos rfl)
          have z555 := s550.1
          have z555y := s550.2.1
          have z555w := s550.2.2.2.2 z544w
          refine w_al (fun _ => rfl) ?_
          have m556 := st_fr s550 m545 (by decide)
          refine w_getf m556 rfl (fun _ => rfl) (w_il (fun _ => rfl) (w_icI (x := (-1)) wn_1 ?_))
          have m557 := st_fr s522 m17 (by decide)
          have m558 := st_fr s526 m557 (by decide)
          have m559 := st_fr s532 m558 (by decide)
          have m560 := st_fr s539 m559 (by decide)
          have m561 := st_fr s550 m560 (by decide)
          refine w_astI m561 (by omega) (by omega) (by omega) (by omega) (by omega) (fun A564 h563 w565 s562 => ?_)
          have q566 : a_g A564 0 = (-1) := (w565 0 (by omega) (by omega)).trans (if_pos rfl)
          have z567 := s562.1
          have z567y := s562.2.1
          have z567w := s562.2.2.2.2 z555w
          refine w_inc (c := w_i (0 + 1)) (fun _ => rfl) (i_addL (y := 1) rfl 0) (fun _ => rfl) (w_go (w_run k_577548 (w_il (fun _ => rfl) (w_icI (x := 6) rfl (w_gef (by omega) (by omega) (by omega) (by omega) (by omega)  (w_al (fun _ => rfl) ?_))))))
          have m568 := st_fr s562 m556 (by decide)
          refine w_getf m568 rfl (fun _ => rfl) (w_il (fun _ => rfl) (w_icI (x := 0) rfl ?_))
          have m569 := st_fr s550 s539.2.2.1 (by decide)
          have m570 := st_fr s562 m569 (by decide)
          refine w_astI m570 (by omega) (by omega) (by omega) (by omega) (by omega) (fun A573 h572 w574 s571 => ?_)
          have q575 : a_g A573 0 = 2 := ((w574 0 (by omega) (by omega)).trans (if_neg (by omega))).trans q543
          have q576 : a_g A573 1 = 0 := (w574 1 (by omega) (by omega)).trans (if_pos rfl)
          have z577 := s571.1
          have z577y := s571.2.1
          have z577w := s571.2.2.2.2 z567w
          refine w_il (fun _ => rfl) (w_lezf (by omega) (by omega) (by omega)  (w_il (fun _ => rfl) (w_il (fun _ => rfl) (w_gef (by omega) (by omega) (by omega) (by omega) (by omega)  (w_al (fun _ => rfl) ?_)))))
          have m578 := st_fr s571 m568 (by decide)
          refine w_getf m578 rfl (fun _ => rfl) (w_il (fun _ => rfl) (w_dup2 (fun _ => rfl) (fun _ => rfl) (w_aldI s571.2.2.1 (by omega) (by omega) (by omega) ?_)))
          rw [q576]
          refine w_icI (x := 1) rfl (w_il (fun _ => rfl) (w_icI (x := 1) rfl (w_op (c := w_i ((0 + 1) - 1)) (i_sub (0 + 1) 1) (w_op (c := w_i 1) (by decide +kernel) (w_op (c := w_i 1) (by decide +kernel) (w_astI s571.2.2.1 (by omega) (by omega) (by omega) (by omega) (by omega) (fun A581 h580 w582 s579 => ?_)))))))
          have q583 : a_g A581 0 = 2 := ((w582 0 (by omega) (by omega)).trans (if_neg (by omega))).trans q575
          have q584 : a_g A581 1 = 1 := (w582 1 (by omega) (by omega)).trans (if_pos rfl)
          have z585 := s579.1
          have z585y := s579.2.1
          have z585w := s579.2.2.2.2 z577w
          refine w_il (fun _ => rfl) (w_icI (x := 1) rfl (w_op (c := w_i ((0 + 1) + 1)) (i_add (0 + 1) 1) (w_il (fun _ => rfl) (w_gef (by omega) (by omega) (by omega) (by omega) (by omega)  (w_al (fun _ => rfl) ?_)))))
          have m586 := st_fr s579 m578 (by decide)
          refine w_getf m586 rfl (fun _ => rfl) (w_il (fun _ => rfl) (w_dup2 (fun _ => rfl) (fun _ => rfl) (w_aldI s579.2.2.1 (by omega) (by omega) (by omega) ?_)))
          rw [q584]
          refine w_icI (x := 1) rfl (w_il (fun _ => rfl) (w_icI (x := 1) rfl (w_op (c := w_i ((0 + 1) + 1)) (i_add (0 + 1) 1) (w_op (c := w_i 4) (by decide +kernel) (w_op (c := w_i 5) (by decide +kernel) (w_astI s579.2.2.1 (by omega) (by omega) (by omega) (by omega) (by omega) (fun A589 h588 w590 s587 => ?_)))))))
          have q591 : a_g A589 0 = 2 := ((w590 0 (by omega) (by omega)).trans (if_neg (by omega))).trans q583
          have q592 : a_g A589 1 = 5 := (w590 1 (by omega) (by omega)).trans (if_pos rfl)
          have z593 := s587.1
          have z593y := s587.2.1
          have z593w := s587.2.2.2.2 z585w
          refine w_al (fun _ => rfl) ?_
          have m594 := st_fr s587 m586 (by decide)
          refine w_getf m594 rfl (fun _ => rfl) (w_il (fun _ => rfl) (w_il (fun _ => rfl) (w_icI (x := 2) rfl (w_opz (c := w_i 1) (by decide +kernel) (by decide +kernel) ?_))))
          have m595 := st_fr s562 s550.2.2.1 (by decide)
          have m596 := st_fr s571 m595 (by decide)
          have m597 := st_fr s579 m596 (by decide)
          have m598 := st_fr s587 m597 (by decide)
          refine w_astI m598 (by omega) (by omega) (by omega) (by omega) (by omega) (fun A601 h600 w602 s599 => ?_)
          have q603 : a_g A601 0 = 0 := ((w602 0 (by omega) (by omega)).trans (if_neg (by omega))).trans q554
          have q604 : a_g A601 1 = 1 := (w602 1 (by omega) (by omega)).trans (if_pos rfl)
          have z605 := s599.1
          have z605y := s599.2.1
          have z605w := s599.2.2.2.2 z593w
          refine w_al (fun _ => rfl) ?_
          have m606 := st_fr s599 m594 (by decide)
          refine w_getf m606 rfl (fun _ => rfl) (w_il (fun _ => rfl) (w_icI (x := (-1)) wn_1 ?_))
          have m607 := st_fr s571 s562.2.2.1 (by decide)
          have m608 := st_fr s579 m607 (by decide)
          have m609 := st_fr s587 m608 (by decide)
          have m610 := st_fr s599 m609 (by decide)
          refine w_astI m610 (by omega) (by omega) (by omega) (by omega) (by omega) (fun A613 h612 w614 s611 => ?_)
          have q615 : a_g A613 0 = (-1) := ((w614 0 (by omega) (by omega)).trans (if_neg (by omega))).trans q566
          have q616 : a_g A613 1 = (-1) := (w614 1 (by omega) (by omega)).trans (if_pos rfl)
          have z617 := s611.1
          have z617y := s611.2.1
          have z617w := s611.2.2.2.2 z605w
          refine w_inc (c := w_i ((0 + 1) + 1)) (fun _ => rfl) (i_addL (y := 1) rfl (0 + 1)) (fun _ => rfl) (w_go (w_run k_577548 (w_il (fun _ => rfl) (w_icI (x := 6) rfl (w_gef (by omega) (by omega) (by omega) (by omega) (by omega)  (w_al (fun _ => rfl) ?_))))))
          have m618 := st_fr s611 m606 (by decide)
          refine w_getf m618 rfl (fun _ => rfl) (w_il (fun _ => rfl) (w_icI (x := 0) rfl ?_))
          have m619 := st_fr s599 s587.2.2.1 (by decide)
          have m620 := st_fr s611 m619 (by decide)
          refine w_astI m620 (by omega) (by omega) (by omega) (by omega) (by omega) (fun A623 h622 w624 s621 => ?_)
          have q625 : a_g A623 0 = 2 := ((w624 0 (by omega) (by omega)).trans (if_neg (by omega))).trans q591
          have q626 : a_g A623 1 = 5 := ((w624 1 (by omega) (by omega)).trans (if_neg (by omega))).trans q592
          have q627 : a_g A623 2 = 0 := (w624 2 (by omega) (by omega)).trans (if_pos rfl)
          have z628 := s621.1
          have z628y := s621.2.1
          have z628w := s621.2.2.2.2 z617w
          refine w_il (fun _ => rfl) (w_lezf (by omega) (by omega) (by omega)  (w_il (fun _ => rfl) (w_il (fun _ => rfl) (w_gef (by omega) (by omega) (by omega) (by omega) (by omega)  (w_al (fun _ => rfl) ?_)))))
          have m629 := st_fr s621 m618 (by decide)
          refine w_getf m629 rfl (fun _ => rfl) (w_il (fun _ => rfl) (w_dup2 (fun _ => rfl) (fun _ => rfl) (w_aldI s621.2.2.1 (by omega) (by omega) (by omega) ?_)))
          rw [q627]
          refine w_icI (x := 1) rfl (w_il (fun _ => rfl) (w_icI (x := 1) rfl (w_op (c := w_i (((0 + 1) + 1) - 1)) (i_sub ((0 + 1) + 1) 1) (w_op (c := w_i 2) (by decide +kernel) (w_op (c := w_i 2) (by decide +kernel) (w_astI s621.2.2.1 (by omega) (by omega) (by omega) (by omega) (by omega) (fun A632 h631 w633 s630 => ?_)))))))
          have q634 : a_g A632 0 = 2 := ((w633 0 (by omega) (by omega)).trans (if_neg (by omega))).trans q625
          have q635 : a_g A632 1 = 5 := ((w633 1 (by omega) (by omega)).trans (if_neg (by omega))).trans q626
          have q636 : a_g A632 2 = 2 := (w633 2 (by omega) (by omega)).trans (if_pos rfl)
          have z637 := s630.1
          have z637y := s630.2.1
          have z637w := s630.2.2.2.2 z628w
          refine w_il (fun _ => rfl) (w_icI (x := 1) rfl (w_op (c := w_i (((0 + 1) + 1) + 1)) (i_add ((0 + 1) + 1) 1) (w_il (fun _ => rfl) (w_get (by omega) (by omega) (by omega) (by omega) (by omega)  (w_run k_577605 (w_al (fun _ => rfl) ?_))))))
          have m638 := st_fr s630 m629 (by decide)
          refine w_getf m638 rfl (fun _ => rfl) (w_il (fun _ => rfl) (w_il (fun _ => rfl) (w_icI (x := 2) rfl (w_opz (c := w_i 0) (by decide +kernel) (by decide +kernel) ?_))))
          have m639 := st_fr s611 s599.2.2.1 (by decide)
          have m640 := st_fr s621 m639 (by decide)
          have m641 := st_fr s630 m640 (by decide)
          refine w_astI m641 (by omega) (by omega) (by omega) (by omega) (by omega) (fun A644 h643 w645 s642 => ?_)
          have q646 : a_g A644 0 = 0 := ((w645 0 (by omega) (by omega)).trans (if_neg (by omega))).trans q603
          have q647 : a_g A644 1 = 1 := ((w645 1 (by omega) (by omega)).trans (if_neg (by omega))).trans q604
          have q648 : a_g A644 2 = 0 := (w645 2 (by omega) (by omega)).trans (if_pos rfl)
          have z649 := s642.1
          have z649y := s642.2.1
          have z649w := s642.2.2.2.2 z637w
          refine w_al (fun _ => rfl) ?_
          have m650 := st_fr s642 m638 (by decide)
          refine w_getf m650 rfl (fun _ => rfl) (w_il (fun _ => rfl) (w_icI (x := (-1)) wn_1 ?_))
          have m651 := st_fr s621 s611.2.2.1 (by decide)
          have m652 := st_fr s630 m651 (by decide)
          have m653 := st_fr s642 m652 (by decide)
          refine w_astI m653 (by omega) (by omega) (by omega) (by omega) (by omega) (fun A656 h655 w657 s654 => ?_)
          have q658 : a_g A656 0 = (-1) := ((w657 0 (by omega) (by omega)).trans (if_neg (by omega))).trans q615
          have q659 : a_g A656 1 = (-1) := ((w657 1 (by omega) (by omega)).trans (if_neg (by omega))).trans q616
          have q660 : a_g A656 2 = (-1) := (w657 2 (by omega) (by omega)).trans (if_pos rfl)
          have z661 := s654.1
          have z661y := s654.2.1
          have z661w := s654.2.2.2.2 z649w
          refine w_inc (c := w_i (((0 + 1) + 1) + 1)) (fun _ => rfl) (i_addL (y := 1) rfl ((0 + 1) + 1)) (fun _ => rfl) (w_go (w_run k_577548 (w_il (fun _ => rfl) (w_icI (x := 6) rfl (w_gef (by omega) (by omega) (by omega) (by omega) (by omega)  (w_al (fun _ => rfl) ?_))))))
          have m662 := st_fr s654 m650 (by decide)
          refine w_getf m662 rfl (fun _ => rfl) (w_il (fun _ => rfl) (w_icI (x := 0) rfl ?_))
          have m663 := st_fr s642 s630.2.2.1 (by decide)
          have m664 := st_fr s654 m663 (by decide)
          refine w_astI m664 (by omega) (by omega) (by omega) (by omega) (by omega) (fun A667 h666 w668 s665 => ?_)
          have q669 : a_g A667 0 = 2 := ((w668 0 (by omega) (by omega)).trans (if_neg (by omega))).trans q634
          have q670 : a_g A667 1 = 5 := ((w668 1 (by omega) (by omega)).trans (if_neg (by omega))).trans q635
          have q671 : a_g A667 2 = 2 := ((w668 2 (by omega) (by omega)).trans (if_neg (by omega))).trans q636
          have q672 : a_g A667 3 = 0 := (w668 3 (by omega) (by omega)).trans (if_pos rfl)
          have z673 := s665.1
          have z673y := s665.2.1
          have z673w := s665.2.2.2.2 z661w
          refine w_il (fun _ => rfl) (w_lezf (by omega) (by omega) (by omega)  (w_il (fun _ => rfl) (w_il (fun _ => rfl) (w_get (by omega) (by omega) (by omega) (by omega) (by omega)  (w_run k_577584 (w_il (fun _ => rfl) (w_icI (x := 1) rfl (w_op (c := w_i ((((0 + 1) + 1) + 1) + 1)) (i_add (((0 + 1) + 1) + 1) 1) (w_il (fun _ => rfl) (w_get (by omega) (by omega) (by omega) (by omega) (by omega)  (w_run k_577605 (w_al (fun _ => rfl) ?_))))))))))))
          have m674 := st_fr s665 m662 (by decide)
          refine w_getf m674 rfl (fun _ => rfl) (w_il (fun _ => rfl) (w_il (fun _ => rfl) (w_icI (x := 2) rfl (w_opz (c := w_i 1) (by decide +kernel) (by decide +kernel) ?_))))
          have m675 := st_fr s654 s642.2.2.1 (by decide)
          have m676 := st_fr s665 m675 (by decide)
          refine w_astI m676 (by omega) (by omega) (by omega) (by omega) (by omega) (fun A679 h678 w680 s677 => ?_)
          have q681 : a_g A679 0 = 0 := ((w680 0 (by omega) (by omega)).trans (if_neg (by omega))).trans q646
          have q682 : a_g A679 1 = 1 := ((w680 1 (by omega) (by omega)).trans (if_neg (by omega))).trans q647
          have q683 : a_g A679 2 = 0 := ((w680 2 (by omega) (by omega)).trans (if_neg (by omega))).trans q648
          have q684 : a_g A679 3 = 1 := (w680 3 (by omega) (by omega)).trans (if_pos rfl)
          have z685 := s677.1
          have z685y := s677.2.1
          have z685w := s677.2.2.2.2 z673w
          refine w_al (fun _ => rfl) ?_
          have m686 := st_fr s677 m674 (by decide)
          refine w_getf m686 rfl (fun _ => rfl) (w_il (fun _ => rfl) (w_icI (x := (-1)) wn_1 ?_))
          have m687 := st_fr s665 s654.2.2.1 (by decide)
          have m688 := st_fr s677 m687 (by decide)
          refine w_astI m688 (by omega) (by omega) (by omega) (by omega) (by omega) (fun A691 h690 w692 s689 => ?_)
          have q693 : a_g A691 0 = (-1) := ((w692 0 (by omega) (by omega)).trans (if_neg (by omega))).trans q658
          have q694 : a_g A691 1 = (-1) := ((w692 1 (by omega) (by omega)).trans (if_neg (by omega))).trans q659
          have q695 : a_g A691 2 = (-1) := ((w692 2 (by omega) (by omega)).trans (if_neg (by omega))).trans q660
          have q696 : a_g A691 3 = (-1) := (w692 3 (by omega) (by omega)).trans (if_pos rfl)
          have z697 := s689.1
          have z697y := s689.2.1
          have z697w := s689.2.2.2.2 z685w
          refine w_inc (c := w_i ((((0 + 1) + 1) + 1) + 1)) (fun _ => rfl) (i_addL (y := 1) rfl (((0 + 1) + 1) + 1)) (fun _ => rfl) (w_go (w_run k_577548 (w_il (fun _ => rfl) (w_icI (x := 6) rfl (w_gef (by omega) (by omega) (by omega) (by omega) (by omega)  (w_al (fun _ => rfl) ?_))))))
          have m698 := st_fr s689 m686 (by decide)
          refine w_getf m698 rfl (fun _ => rfl) (w_il (fun _ => rfl) (w_icI (x := 0) rfl ?_))
          have m699 := st_fr s677 s665.2.2.1 (by decide)
          have m700 := st_fr s689 m699 (by decide)
          refine w_astI m700 (by omega) (by omega) (by omega) (by omega) (by omega) (fun A703 h702 w704 s701 => ?_)
          have q705 : a_g A703 0 = 2 := ((w704 0 (by omega) (by omega)).trans (if_neg (by omega))).trans q669
          have q706 : a_g A703 1 = 5 := ((w704 1 (by omega) (by omega)).trans (if_neg (by omega))).trans q670
          have q707 : a_g A703 2 = 2 := ((w704 2 (by omega) (by omega)).trans (if_neg (by omega))).trans q671
          have q708 : a_g A703 3 = 0 := ((w704 3 (by omega) (by omega)).trans (if_neg (by omega))).trans q672
          have q709 : a_g A703 4 = 0 := (w704 4 (by omega) (by omega)).trans (if_pos rfl)
          have z710 := s701.1
          have z710y := s701.2.1
          have z710w := s701.2.2.2.2 z697w
          refine w_il (fun _ => rfl) (w_lezf (by omega) (by omega) (by omega)  (w_il (fun _ => rfl) (w_il (fun _ => rfl) (w_get (by omega) (by omega) (by omega) (by omega) (by omega)  (w_run k_577584 (w_il (fun _ => rfl) (w_icI (x := 1) rfl (w_op (c := w_i (((((0 + 1) + 1) + 1) + 1) + 1)) (i_add ((((0 + 1) + 1) + 1) + 1) 1) (w_il (fun _ => rfl) (w_get (by omega) (by omega) (by omega) (by omega) (by omega)  (w_run k_577605 (w_al (fun _ => rfl) ?_))))))))))))
          have m711 := st_fr s701 m698 (by decide)
          refine w_getf m711 rfl (fun _ => rfl) (w_il (fun _ => rfl) (w_il (fun _ => rfl) (w_icI (x := 2) rfl (w_opz (c := w_i 0) (by decide +kernel) (by decide +kernel) ?_))))
          have m712 := st_fr s689 s677.2.2.1 (by decide)
          have m713 := st_fr s701 m712 (by decide)
          refine w_astI m713 (by omega) (by omega) (by omega) (by omega) (by omega) (fun A716 h715 w717 s714 => ?_)
          have q718 : a_g A716 0 = 0 := ((w717 0 (by omega) (by omega)).trans (if_neg (by omega))).trans q681
          have q719 : a_g A716 1 = 1 := ((w717 1 (by omega) (by omega)).trans (if_neg (by omega))).trans q682
          have q720 : a_g A716 2 = 0 := ((w717 2 (by omega) (by omega)).trans (if_neg (by omega))).trans q683
          have q721 : a_g A716 3 = 1 := ((w717 3 (by omega) (by omega)).trans (if_neg (by omega))).trans q684
          have q722 : a_g A716 4 = 0 := (w717 4 (by omega) (by omega)).trans (if_pos rfl)
          have z723 := s714.1
          have z723y := s714.2.1
          have z723w := s714.2.2.2.2 z710w
          refine w_al (fun _ => rfl) ?_
          have m724 := st_fr s714 m711 (by decide)
          refine w_getf m724 rfl (fun _ => rfl) (w_il (fun _ => rfl) (w_icI (x := (-1)) wn_1 ?_))
          have m725 := st_fr s701 s689.2.2.1 (by decide)
          have m726 := st_fr s714 m725 (by decide)
          refine w_astI m726 (by omega) (by omega) (by omega) (by omega) (by omega) (fun A729 h728 w730 s727 => ?_)
          have q731 : a_g A729 0 = (-1) := ((w730 0 (by omega) (by omega)).trans (if_neg (by omega))).trans q693
          have q732 : a_g A729 1 = (-1) := ((w730 1 (by omega) (by omega)).trans (if_neg (by omega))).trans q694
          have q733 : a_g A729 2 = (-1) := ((w730 2 (by omega) (by omega)).trans (if_neg (by omega))).trans q695
          have q734 : a_g A729 3 = (-1) := ((w730 3 (by omega) (by omega)).trans (if_neg (by omega))).trans q696
          have q735 : a_g A729 4 = (-1) := (w730 4 (by omega) (by omega)).trans (if_pos rfl)
          have z736 := s727.1
          have z736y := s727.2.1
          have z736w := s727.2.2.2.2 z723w
          refine w_inc (c := w_i (((((0 + 1) + 1) + 1) + 1) + 1)) (fun _ => rfl) (i_addL (y := 1) rfl ((((0 + 1) + 1) + 1) + 1)) (fun _ => rfl) (w_go (w_run k_577548 (w_il (fun _ => rfl) (w_icI (x := 6) rfl (w_gef (by omega) (by omega) (by omega) (by omega) (by omega)  (w_al (fun _ => rfl) ?_))))))
          have m737 := st_fr s727 m724 (by decide)
          refine w_getf m737 rfl (fun _ => rfl) (w_il (fun _ => rfl) (w_icI (x := 0) rfl ?_))
          have m738 := st_fr s714 s701.2.2.1 (by decide)
          have m739 := st_fr s727 m738 (by decide)
          refine w_astI m739 (by omega) (by omega) (by omega) (by omega) (by omega) (fun A742 h741 w743 s740 => ?_)
          have q744 : a_g A742 0 = 2 := ((w743 0 (by omega) (by omega)).trans (if_neg (by omega))).trans q705
          have q745 : a_g A742 1 = 5 := ((w743 1 (by omega) (by omega)).trans (if_neg (by omega))).trans q706
          have q746 : a_g A742 2 = 2 := ((w743 2 (by omega) (by omega)).trans (if_neg (by omega))).trans q707
          have q747 : a_g A742 3 = 0 := ((w743 3 (by omega) (by omega)).trans (if_neg (by omega))).trans q708
          have q748 : a_g A742 4 = 0 := ((w743 4 (by omega) (by omega)).trans (if_neg (by omega))).trans q709
          have q749 : a_g A742 5 = 0 := (w743 5 (by omega) (by omega)).trans (if_pos rfl)
          have z750 := s740.1
          have z750y := s740.2.1
          have z750w := s740.2.2.2.2 z736w
          refine w_il (fun _ => rfl) (w_lezf (by omega) (by omega) (by omega)  (w_il (fun _ => rfl) (w_il (fun _ => rfl) (w_get (by omega) (by omega) (by omega) (by omega) (by omega)  (w_run k_577584 (w_il (fun _ => rfl) (w_icI (x := 1) rfl (w_op (c := w_i ((((((0 + 1) + 1) + 1) + 1) + 1) + 1)) (i_add (((((0 + 1) + 1) + 1) + 1) + 1) 1) (w_il (fun _ => rfl) (w_get (by omega) (by omega) (by omega) (by omega) (by omega)  (w_run k_577605 (w_al (fun _ => rfl) ?_))))))))))))
          have m751 := st_fr s740 m737 (by decide)
          refine w_getf m751 rfl (fun _ => rfl) (w_il (fun _ => rfl) (w_il (fun _ => rfl) (w_icI (x := 2) rfl (w_opz (c := w_i 1) (by decide +kernel) (by decide +kernel) ?_))))
          have m752 := st_fr s727 s714.2.2.1 (by decide)
          have m753 := st_fr s740 m752 (by decide)
          refine w_astI m753 (by omega) (by omega) (by omega) (by omega) (by omega) (fun A756 h755 w757 s754 => ?_)
          have q758 : a_g A756 0 = 0 := ((w757 0 (by omega) (by omega)).trans (if_neg (by omega))).trans q718
          have q759 : a_g A756 1 = 1 := ((w757 1 (by omega) (by omega)).trans (if_neg (by omega))).trans q719
          have q760 : a_g A756 2 = 0 := ((w757 2 (by omega) (by omega)).trans (if_neg (by omega))).trans q720
          have q761 : a_g A756 3 = 1 := ((w757 3 (by omega) (by omega)).trans (if_neg (by omega))).trans q721
          have q762 : a_g A756 4 = 0 := ((w757 4 (by omega) (by omega)).trans (if_neg (by omega))).trans q722
          have q763 : a_g A756 5 = 1 := (w757 5 (by omega) (by omega)).trans (if_pos rfl)
          have z764 := s754.1
          have z764y := s754.2.1
          have z764w := s754.2.2.2.2 z750w
          refine w_al (fun _ => rfl) ?_
          have m765 := st_fr s754 m751 (by decide)
          refine w_getf m765 rfl (fun _ => rfl) (w_il (fun _ => rfl) (w_icI (x := (-1)) wn_1 ?_))
          have m766 := st_fr s740 s727.2.2.1 (by decide)
          have m767 := st_fr s754 m766 (by decide)
          refine w_astI m767 (by omega) (by omega) (by omega) (by omega) (by omega) (fun A770 h769 w771 s768 => ?_)
          have q772 : a_g A770 0 = (-1) := ((w771 0 (by omega) (by omega)).trans (if_neg (by omega))).trans q731
          have q773 : a_g A770 1 = (-1) := ((w771 1 (by omega) (by omega)).trans (if_neg (by omega))).trans q732
          have q774 : a_g A770 2 = (-1) := ((w771 2 (by omega) (by omega)).trans (if_neg (by omega))).trans q733
          have q775 : a_g A770 3 = (-1) := ((w771 3 (by omega) (by omega)).trans (if_neg (by omega))).trans q734
          have q776 : a_g A770 4 = (-1) := ((w771 4 (by omega) (by omega)).trans (if_neg (by omega))).trans q735
          have q777 : a_g A770 5 = (-1) := (w771 5 (by omega) (by omega)).trans (if_pos rfl)
          have z778 := s768.1
          have z778y := s768.2.1
          have z778w := s768.2.2.2.2 z764w
          refine w_inc (c := w_i ((((((0 + 1) + 1) + 1) + 1) + 1) + 1)) (fun _ => rfl) (i_addL (y := 1) rfl (((((0 + 1) + 1) + 1) + 1) + 1)) (fun _ => rfl) (w_go (w_run k_577548 (w_il (fun _ => rfl) (w_icI (x := 6) rfl (w_get (by omega) (by omega) (by omega) (by omega) (by omega)  (w_run k_577627 (w_al (fun _ => rfl) (w_icI (x := 0) rfl ?_))))))))
          have m779 := st_fr s768 m765 (by decide)
          refine w_putf [.inr (.inl (some 32)), .inr (.inl (some 33)), .inr (.inl (some 34)), .inr (.inl (some 35)), .inr (.inl (some 36)), .inl (w_i hh), .inl (w_i c), .inl (w_i 0), .inl (w_i kee14), .inl (w_i (g_mnp g)), .inl (w_i rul14), .inl (w_i (g_mhi g)), .inr (.inl (some 37)), .inr (.inl (some 50)), .inr (.inl (some 51)), .inr (.inl (some 52)), .inr (.inl (some 53)), .inr (.inl (some 54)), .inl (w_i tpd14), .inl (w_i (g_mnt g)), .inl (w_i nxt14), .inl (w_i tok14), .inl (w_i tka14), .inl (w_i val14), .inl (w_i opn14), .inl (w_i hm14), .inl (w_i row14), .inr (.inl (some 55)), .inr (.inl (some 56)), .inr (.inl (some 57)), .inr (.inl (some 58)), .inr (.inl (some 59)), .inr (.inl (some 60)), .inr (.inl (some 61)), .inr (.inl (some 62)), .inl (w_i ksp14), .inl (w_i kke14), .inl (w_i kru14), .inr (.inl (some 63)), .inr (.inl (some 64)), .inr (.inl (some 65)), .inr (.inl (some 66))] m779 rfl rfl rfl (fun _ => rfl) (fun h781 s780 => ?_)
          have z783 := s780.1
          have z783y := s780.2.1
          have z783w := s780.2.2.2.2 z778w
          refine w_al (fun _ => rfl) (w_icI (x := 0) rfl (w_putf [.inr (.inl (some 32)), .inr (.inl (some 33)), .inr (.inl (some 34)), .inr (.inl (some 35)), .inr (.inl (some 36)), .inl (w_i hh), .inl (w_i c), .inl (w_i 0), .inl (w_i 0), .inl (w_i (g_mnp g)), .inl (w_i rul14), .inl (w_i (g_mhi g)), .inr (.inl (some 37)), .inr (.inl (some 50)), .inr (.inl (some 51)), .inr (.inl (some 52)), .inr (.inl (some 53)), .inr (.inl (some 54)), .inl (w_i tpd14), .inl (w_i (g_mnt g)), .inl (w_i nxt14), .inl (w_i tok14), .inl (w_i tka14), .inl (w_i val14), .inl (w_i opn14), .inl (w_i hm14), .inl (w_i row14), .inr (.inl (some 55)), .inr (.inl (some 56)), .inr (.inl (some 57)), .inr (.inl (some 58)), .inr (.inl (some 59)), .inr (.inl (some 60)), .inr (.inl (some 61)), .inr (.inl (some 62)), .inl (w_i ksp14), .inl (w_i kke14), .inl (w_i kru14), .inr (.inl (some 63)), .inr (.inl (some 64)), .inr (.inl (some 65)), .inr (.inl (some 66))] s780.2.2.1 rfl rfl rfl (fun _ => rfl) (fun h785 s784 => ?_)))
          have z787 := s784.1
          have z787y := s784.2.1
          have z787w := s784.2.2.2.2 z783w
          refine w_al (fun _ => rfl) (w_icI (x := 0) rfl (w_putf [.inr (.inl (some 32)), .inr (.inl (some 33)), .inr (.inl (some 34)), .inr (.inl (some 35)), .inr (.inl (some 36)), .inl (w_i hh), .inl (w_i c), .inl (w_i 0), .inl (w_i 0), .inl (w_i (g_mnp g)), .inl (w_i rul14), .inl (w_i 0), .inr (.inl (some 37)), .inr (.inl (some 50)), .inr (.inl (some 51)), .inr (.inl (some 52)), .inr (.inl (some 53)), .inr (.inl (some 54)), .inl (w_i tpd14), .inl (w_i (g_mnt g)), .inl (w_i nxt14), .inl (w_i tok14), .inl (w_i tka14), .inl (w_i val14), .inl (w_i opn14), .inl (w_i hm14), .inl (w_i row14), .inr (.inl (some 55)), .inr (.inl (some 56)), .inr (.inl (some 57)), .inr (.inl (some 58)), .inr (.inl (some 59)), .inr (.inl (some 60)), .inr (.inl (some 61)), .inr (.inl (some 62)), .inl (w_i ksp14), .inl (w_i kke14), .inl (w_i kru14), .inr (.inl (some 63)), .inr (.inl (some 64)), .inr (.inl (some 65)), .inr (.inl (some 66))] s784.2.2.1 rfl rfl rfl (fun _ => rfl) (fun h789 s788 => ?_)))
          have z791 := s788.1
          have z791y := s788.2.1
          have z791w := s788.2.2.2.2 z787w
          refine w_rv ⟨rfl, ?_⟩
          refine w_il (fun _ => rfl) (w_ri ?_)
          have F1 := F.1
          have F2 := F.2.1
          have m792 := st_fr s754 s740.2.2.1 (by decide)
          have m793 := st_fr s768 m792 (by decide)
          have m794 := st_fr s780 m793 (by decide)
          have m795 := st_fr s784 m794 (by decide)
          have m796 := st_fr s788 m795 (by decide)
          have gz : g_mnt (g_mbu g hh c A742) = g_mnt g := rfl
          have m797 := st_fr s768 s754.2.2.1 (by decide)
          have m798 := st_fr s780 m797 (by decide)
          have m799 := st_fr s784 m798 (by decide)
          have m800 := st_fr s788 m799 (by decide)
          have m801 := st_fr s780 s768.2.2.1 (by decide)
          have m802 := st_fr s784 m801 (by decide)
          have m803 := st_fr s788 m802 (by decide)
          have ivn := mbu_fin (e := _) (hh := hh) (c := c) iv (by omega) (by omega) (by omega) (by omega) (by omega) z791w (by omega) (fun q n31 n32 n33 n34 => (s788.2.2.2.1 q n31).trans ((s784.2.2.2.1 q n31).trans ((s780.2.2.2.1 q n31).trans ((s768.2.2.2.1 q n34).trans ((s754.2.2.2.1 q n33).trans ((s740.2.2.2.1 q n32).trans ((s727.2.2.2.1 q n34).trans ((s714.2.2.2.1 q n33).trans ((s701.2.2.2.1 q n32).trans ((s689.2.2.2.1 q n34).trans ((s677.2.2.2.1 q n33).trans ((s665.2.2.2.1 q n32).trans ((s654.2.2.2.1 q n34).trans ((s642.2.2.2.1 q n33).trans ((s630.2.2.2.1 q n32).trans ((s621.2.2.2.1 q n32).trans ((s611.2.2.2.1 q n34).trans ((s599.2.2.2.1 q n33).trans ((s587.2.2.2.1 q n32).trans ((s579.2.2.2.1 q n32).trans ((s571.2.2.2.1 q n32).trans ((s562.2.2.2.1 q n34).trans ((s550.2.2.2.1 q n33).trans ((s539.2.2.2.1 q n32).trans ((s532.2.2.2.1 q n32).trans ((s526.2.2.2.1 q n31).trans ((s522.2.2.2.1 q n31).trans (rfl)))))))))))))))))))))))))))) s788.2.2.1 ⟨_, _, _, _, _, _, _, _, _, _, _, _, _, _, rfl, by omega, by omega, by omega, by omega, by omega, by omega, by omega, by omega, by omega, by omega, by omega, by omega, by omega, by omega, by omega, by omega, by omega, by omega, by omega, by omega, by omega, by omega, by omega, by omega, by omega, by omega, by omega, by omega, by omega, by omega, by omega, by omega, by omega, by omega, by omega, by omega, by omega, by omega⟩ m796 (fun j j0 j1 => by rcases (show j = 0 ∨ j = 1 ∨ j = 2 ∨ j = 3 ∨ j = 4 ∨ j = 5 from by omega) with rfl | rfl | rfl | rfl | rfl | rfl <;> [(rw [q744]; omega); (rw [q745]; omega); (rw [q746]; omega); (rw [q747]; omega); (rw [q748]; omega); (rw [q749]; omega)]) m800 (fun j j0 j1 => by rcases (show j = 0 ∨ j = 1 ∨ j = 2 ∨ j = 3 ∨ j = 4 ∨ j = 5 from by omega) with rfl | rfl | rfl | rfl | rfl | rfl <;> [(rw [q758]; omega); (rw [q759]; omega); (rw [q760]; omega); (rw [q761]; omega); (rw [q762]; omega); (rw [q763]; omega)]) ⟨_, m803⟩
          exact k0 _ (g_mbu g hh c A742) h789 ivn ch_gmbu (by omega) (by omega)
        · refine w_al (fun _ => rfl) (w_il (fun _ => rfl) (w_il (fun _ => rfl) (w_this (fun _ => rfl) m14 (w_cv (fun _ => rfl) rfl (w_run k_577536 (w_al (fun _ => rfl) (w_il (fun _ => rfl) (w_putf [.inr (.inl (some 32)), .inr (.inl (some 33)), .inr (.inl (some 34)), .inr (.inl (some 35)), .inr (.inl (some 36)), .inl (w_i hh), .inl (w_i (g_mC g)), .inl (w_i spr14), .inl (w_i kee14), .inl (w_i (g_mnp g)), .inl (w_i rul14), .inl (w_i (g_mhi g)), .inr (.inl (some 37)), .inr (.inl (some 50)), .inr (.inl (some 51)), .inr (.inl (some 52)), .inr (.inl (some 53)), .inr (.inl (some 54)), .inl (w_i tpd14), .inl (w_i (g_mnt g)), .inl (w_i nxt14), .inl (w_i tok14), .inl (w_i tka14), .inl (w_i val14), .inl (w_i opn14), .inl (w_i hm14), .inl (w_i row14), .inr (.inl (some 55)), .inr (.inl (some 56)), .inr (.inl (some 57)), .inr (.inl (some 58)), .inr (.inl (some 59)), .inr (.inl (some 60)), .inr (.inl (some 61)), .inr (.inl (some 62)), .inl (w_i ksp14), .inl (w_i kke14), .inl (w_i kru14), .inr (.inl (some 63)), .inr (.inl (some 64)), .inr (.inl (some 65)), .inr (.inl (some 66))] m14 rfl rfl rfl (fun _ => rfl) (fun h805 s804 => ?_)))))))))
          have z807 := s804.1
          have z807y := s804.2.1
          have z807w := s804.2.2.2.2 z18w
          refine w_al (fun _ => rfl) (w_il (fun _ => rfl) (w_putf [.inr (.inl (some 32)), .inr (.inl (some 33)), .inr (.inl (some 34)), .inr (.inl (some 35)), .inr (.inl (some 36)), .inl (w_i hh), .inl (w_i c), .inl (w_i spr14), .inl (w_i kee14), .inl (w_i (g_mnp g)), .inl (w_i rul14), .inl (w_i (g_mhi g)), .inr (.inl (some 37)), .inr (.inl (some 50)), .inr (.inl (some 51)), .inr (.inl (some 52)), .inr (.inl (some 53)), .inr (.inl (some 54)), .inl (w_i tpd14), .inl (w_i (g_mnt g)), .inl (w_i nxt14), .inl (w_i tok14), .inl (w_i tka14), .inl (w_i val14), .inl (w_i opn14), .inl (w_i hm14), .inl (w_i row14), .inr (.inl (some 55)), .inr (.inl (some 56)), .inr (.inl (some 57)), .inr (.inl (some 58)), .inr (.inl (some 59)), .inr (.inl (some 60)), .inr (.inl (some 61)), .inr (.inl (some 62)), .inl (w_i ksp14), .inl (w_i kke14), .inl (w_i kru14), .inr (.inl (some 63)), .inr (.inl (some 64)), .inr (.inl (some 65)), .inr (.inl (some 66))] s804.2.2.1 rfl rfl rfl (fun _ => rfl) (fun h809 s808 => ?_)))
          have z811 := s808.1
          have z811y := s808.2.1
          have z811w := s808.2.2.2.2 z807w
          refine w_icI (x := 0) rfl (w_is (fun _ => rfl) (w_il (fun _ => rfl) (w_icI (x := 6) rfl (w_gef (by omega) (by omega) (by omega) (by omega) (by omega)  (w_al (fun _ => rfl) (w_getf s808.2.2.1 rfl (fun _ => rfl) (w_il (fun _ => rfl) (w_icI (x := 0) rfl ?_))))))))
          have m812 := st_fr s804 m15 (by decide)
          have m813 := st_fr s808 m812 (by decide)
          refine w_astI m813 (by omega) (by omega) (by omega) (by omega) (by omega) (fun A816 h815 w817 s814 => ?_)
          have q818 : a_g A816 0 = 0 := (w817 0 (by omega) (by omega)).trans (if_pos rfl)
          have z819 := s814.1
          have z819y := s814.2.1
          have z819w := s814.2.2.2.2 z811w
          refine w_il (fun _ => rfl) (w_lezt (by omega) (by omega) (by omega)  (w_run k_577584 (w_il (fun _ => rfl) (w_icI (x := 1) rfl (w_op (c := w_i (0 + 1)) (i_add 0 1) (w_il (fun _ => rfl) (w_gef (by omega) (by omega) (by omega) (by omega) (by omega)  (w_al (fun _ => rfl) ?_))))))))
          have m820 := st_fr s814 s808.2.2.1 (by decide)
          refine w_getf m820 rfl (fun _ => rfl) (w_il (fun _ => rfl) (w_dup2 (fun _ => rfl) (fun _ => rfl) (w_aldI s814.2.2.1 (by omega) (by omega) (by omega) ?_)))
          rw [q818]
          refine w_icI (x := 1) rfl (w_il (fun _ => rfl) (w_icI (x := 1) rfl (w_op (c := w_i (0 + 1)) (i_add 0 1) (w_op (c := w_i 2) (by decide +kernel) (w_op (c := w_i 2) (by decide +kernel) (w_astI s814.2.2.1 (by omega) (by omega) (by omega) (by omega) (by omega) (fun A823 h822 w824 s821 => ?_)))))))
          have q825 : a_g A823 0 = 2 := (w824 0 (by omega) (by omega)).trans (if_pos rfl)
          have z826 := s821.1
          have z826y := s821.2.1
          have z826w := s821.2.2.2.2 z819w
          refine w_al (fun _ => rfl) ?_
          have m827 := st_fr s821 m820 (by decide)
          refine w_getf m827 rfl (fun _ => rfl) (w_il (fun _ => rfl) (w_il (fun _ => rfl) (w_icI (x := 2) rfl (w_opz (c := w_i 0) (by decide +kernel) (by decide +kernel) ?_))))
          have m828 := st_fr s804 m16 (by decide)
          have m829 := st_fr s808 m828 (by decide)
          have m830 := st_fr s814 m829 (by decide)
          have m831 := st_fr s821 m830 (by decide)
          refine w_astI m831 (by omega) (by omega) (by omega) (by omega) (by omega) (fun A834 h833 w835 s832 => ?_)
          have q836 : a_g A834 0 = 0 := (w835 0 (by omega) (by omega)).trans (if_pos rfl)
          have z837 := s832.1
          have z837y := s832.2.1
          have z837w := s832.2.2.2.2 z826w
          refine w_al (fun _ => rfl) ?_
          have m838 := st_fr s832 m827 (by decide)
          refine w_getf m838 rfl (fun _ => rfl) (w_il (fun _ => rfl) (w_icI (x := (-1)) wn_1 ?_))
          have m839 := st_fr s804 m17 (by decide)
          have m840 := st_fr s808 m839 (by decide)
          have m841 := st_fr s814 m840 (by decide)
          have m842 := st_fr s821 m841 (by decide)
          have m843 := st_fr s832 m842 (by decide)
          refine w_astI m843 (by omega) (by omega) (by omega) (by omega) (by omega) (fun A846 h845 w847 s844 => ?_)
          have q848 : a_g A846 0 = (-1) := (w847 0 (by omega) (by omega)).trans (if_pos rfl)
          have z849 := s844.1
          have z849y := s844.2.1
          have z849w := s844.2.2.2.2 z837w
          refine w_inc (c := w_i (0 + 1)) (fun _ => rfl) (i_addL (y := 1) rfl 0) (fun _ => rfl) (w_go (w_run k_577548 (w_il (fun _ => rfl) (w_icI (x := 6) rfl (w_gef (by omega) (by omega) (by omega) (by omega) (by omega)  (w_al (fun _ => rfl) ?_))))))
          have m850 := st_fr s844 m838 (by decide)
          refine w_getf m850 rfl (fun _ => rfl) (w_il (fun _ => rfl) (w_icI (x := 0) rfl ?_))
          have m851 := st_fr s832 s821.2.2.1 (by decide)
          have m852 := st_fr s844 m851 (by decide)
          refine w_astI m852 (by omega) (by omega) (by omega) (by omega) (by omega) (fun A855 h854 w856 s853 => ?_)
          have q857 : a_g A855 0 = 2 := ((w856 0 (by omega) (by omega)).trans (if_neg (by omega))).trans q825
          have q858 : a_g A855 1 = 0 := (w856 1 (by omega) (by omega)).trans (if_pos rfl)
          have z859 := s853.1
          have z859y := s853.2.1
          have z859w := s853.2.2.2.2 z849w
          refine w_il (fun _ => rfl) (w_lezf (by omega) (by omega) (by omega)  (w_il (fun _ => rfl) (w_il (fun _ => rfl) (w_gef (by omega) (by omega) (by omega) (by omega) (by omega)  (w_al (fun _ => rfl) ?_)))))
          have m860 := st_fr s853 m850 (by decide)
          refine w_getf m860 rfl (fun _ => rfl) (w_il (fun _ => rfl) (w_dup2 (fun _ => rfl) (fun _ => rfl) (w_aldI s853.2.2.1 (by omega) (by omega) (by omega) ?_)))
          rw [q858]
          refine w_icI (x := 1) rfl (w_il (fun _ => rfl) (w_icI (x := 1) rfl (w_op (c := w_i ((0 + 1) - 1)) (i_sub (0 + 1) 1) (w_op (c := w_i 1) (by decide +kernel) (w_op (c := w_i 1) (by decide +kernel) (w_astI s853.2.2.1 (by omega) (by omega) (by omega) (by omega) (by omega) (fun A863 h862 w864 s861 => ?_)))))))
          have q865 : a_g A863 0 = 2 := ((w864 0 (by omega) (by omega)).trans (if_neg (by omega))).trans q857
          have q866 : a_g A863 1 = 1 := (w864 1 (by omega) (by omega)).trans (if_pos rfl)
          have z867 := s861.1
          have z867y := s861.2.1
          have z867w := s861.2.2.2.2 z859w
          refine w_il (fun _ => rfl) (w_icI (x := 1) rfl (w_op (c := w_i ((0 + 1) + 1)) (i_add (0 + 1) 1) (w_il (fun _ => rfl) (w_gef (by omega) (by omega) (by omega) (by omega) (by omega)  (w_al (fun _ => rfl) ?_)))))
          have m868 := st_fr s861 m860 (by decide)
          refine w_getf m868 rfl (fun _ => rfl) (w_il (fun _ => rfl) (w_dup2 (fun _ => rfl) (fun _ => rfl) (w_aldI s861.2.2.1 (by omega) (by omega) (by omega) ?_)))
          rw [q866]
          refine w_icI (x := 1) rfl (w_il (fun _ => rfl) (w_icI (x := 1) rfl (w_op (c := w_i ((0 + 1) + 1)) (i_add (0 + 1) 1) (w_op (c := w_i 4) (by decide +kernel) (w_op (c := w_i 5) (by decide +kernel) (w_astI s861.2.2.1 (by omega) (by omega) (by omega) (by omega) (by omega) (fun A871 h870 w872 s869 => ?_)))))))
          have q873 : a_g A871 0 = 2 := ((w872 0 (by omega) (by omega)).trans (if_neg (by omega))).trans q865
          have q874 : a_g A871 1 = 5 := (w872 1 (by omega) (by omega)).trans (if_pos rfl)
          have z875 := s869.1
          have z875y := s869.2.1
          have z875w := s869.2.2.2.2 z867w
          refine w_al (fun _ => rfl) ?_
          have m876 := st_fr s869 m868 (by decide)
          refine w_getf m876 rfl (fun _ => rfl) (w_il (fun _ => rfl) (w_il (fun _ => rfl) (w_icI (x := 2) rfl (w_opz (c := w_i 1) (by decide +kernel) (by decide +kernel) ?_))))
          have m877 := st_fr s844 s832.2.2.1 (by decide)
          have m878 := st_fr s853 m877 (by decide)
          have m879 := st_fr s861 m878 (by decide)
          have m880 := st_fr s869 m879 (by decide)
          refine w_astI m880 (by omega) (by omega) (by omega) (by omega) (by omega) (fun A883 h882 w884 s881 => ?_)
          have q885 : a_g A883 0 = 0 := ((w884 0 (by omega) (by omega)).trans (if_neg (by omega))).trans q836
          have q886 : a_g A883 1 = 1 := (w884 1 (by omega) (by omega)).trans (if_pos rfl)
          have z887 := s881.1
          have z887y := s881.2.1
          have z887w := s881.2.2.2.2 z875w
          refine w_al (fun _ => rfl) ?_
          have m888 := st_fr s881 m876 (by decide)
          refine w_getf m888 rfl (fun _ => rfl) (w_il (fun _ => rfl) (w_icI (x := (-1)) wn_1 ?_))
          have m889 := st_fr s853 s844.2.2.1 (by decide)
          have m890 := st_fr s861 m889 (by decide)
          have m891 := st_fr s869 m890 (by decide)
          have m892 := st_fr s881 m891 (by decide)
          refine w_astI m892 (by omega) (by omega) (by omega) (by omega) (by omega) (fun A895 h894 w896 s893 => ?_)
          have q897 : a_g A895 0 = (-1) := ((w896 0 (by omega) (by omega)).trans (if_neg (by omega))).trans q848
          have q898 : a_g A895 1 = (-1) := (w896 1 (by omega) (by omega)).trans (if_pos rfl)
          have z899 := s893.1
          have z899y := s893.2.1
          have z899w := s893.2.2.2.2 z887w
          refine w_inc (c := w_i ((0 + 1) + 1)) (fun _ => rfl) (i_addL (y := 1) rfl (0 + 1)) (fun _ => rfl) (w_go (w_run k_577548 (w_il (fun _ => rfl) (w_icI (x := 6) rfl (w_gef (by omega) (by omega) (by omega) (by omega) (by omega)  (w_al (fun _ => rfl) ?_))))))
          have m900 := st_fr s893 m888 (by decide)
          refine w_getf m900 rfl (fun _ => rfl) (w_il (fun _ => rfl) (w_icI (x := 0) rfl ?_))
          have m901 := st_fr s881 s869.2.2.1 (by decide)
          have m902 := st_fr s893 m901 (by decide)
          refine w_astI m902 (by omega) (by omega) (by omega) (by omega) (by omega) (fun A905 h904 w906 s903 => ?_)
          have q907 : a_g A905 0 = 2 := ((w906 0 (by omega) (by omega)).trans (if_neg (by omega))).trans q873
          have q908 : a_g A905 1 = 5 := ((w906 1 (by omega) (by omega)).trans (if_neg (by omega))).trans q874
          have q909 : a_g A905 2 = 0 := (w906 2 (by omega) (by omega)).trans (if_pos rfl)
          have z910 := s903.1
          have z910y := s903.2.1
          have z910w := s903.2.2.2.2 z899w
          refine w_il (fun _ => rfl) (w_lezf (by omega) (by omega) (by omega)  (w_il (fun _ => rfl) (w_il (fun _ => rfl) (w_gef (by omega) (by omega) (by omega) (by omega) (by omega)  (w_al (fun _ => rfl) ?_)))))
          have m911 := st_fr s903 m900 (by decide)
          refine w_getf m911 rfl (fun _ => rfl) (w_il (fun _ => rfl) (w_dup2 (fun _ => rfl) (fun _ => rfl) (w_aldI s903.2.2.1 (by omega) (by omega) (by omega) ?_)))
          rw [q909]
          refine w_icI (x := 1) rfl (w_il (fun _ => rfl) (w_icI (x := 1) rfl (w_op (c := w_i (((0 + 1) + 1) - 1)) (i_sub ((0 + 1) + 1) 1) (w_op (c := w_i 2) (by decide +kernel) (w_op (c := w_i 2) (by decide +kernel) (w_astI s903.2.2.1 (by omega) (by omega) (by omega) (by omega) (by omega) (fun A914 h913 w915 s912 => ?_)))))))
          have q916 : a_g A914 0 = 2 := ((w915 0 (by omega) (by omega)).trans (if_neg (by omega))).trans q907
          have q917 : a_g A914 1 = 5 := ((w915 1 (by omega) (by omega)).trans (if_neg (by omega))).trans q908
          have q918 : a_g A914 2 = 2 := (w915 2 (by omega) (by omega)).trans (if_pos rfl)
          have z919 := s912.1
          have z919y := s912.2.1
          have z919w := s912.2.2.2.2 z910w
          refine w_il (fun _ => rfl) (w_icI (x := 1) rfl (w_op (c := w_i (((0 + 1) + 1) + 1)) (i_add ((0 + 1) + 1) 1) (w_il (fun _ => rfl) (w_gef (by omega) (by omega) (by omega) (by omega) (by omega)  (w_al (fun _ => rfl) ?_)))))
          have m920 := st_fr s912 m911 (by decide)
          refine w_getf m920 rfl (fun _ => rfl) (w_il (fun _ => rfl) (w_dup2 (fun _ => rfl) (fun _ => rfl) (w_aldI s912.2.2.1 (by omega) (by omega) (by omega) ?_)))
          rw [q918]
          refine w_icI (x := 1) rfl (w_il (fun _ => rfl) (w_icI (x := 1) rfl (w_op (c := w_i (((0 + 1) + 1) + 1)) (i_add ((0 + 1) + 1) 1) (w_op (c := w_i 8) (by decide +kernel) (w_op (c := w_i 10) (by decide +kernel) (w_astI s912.2.2.1 (by omega) (by omega) (by omega) (by omega) (by omega) (fun A923 h922 w924 s921 => ?_)))))))
          have q925 : a_g A923 0 = 2 := ((w924 0 (by omega) (by omega)).trans (if_neg (by omega))).trans q916
          have q926 : a_g A923 1 = 5 := ((w924 1 (by omega) (by omega)).trans (if_neg (by omega))).trans q917
          have q927 : a_g A923 2 = 10 := (w924 2 (by omega) (by omega)).trans (if_pos rfl)
          have z928 := s921.1
          have z928y := s921.2.1
          have z928w := s921.2.2.2.2 z919w
          refine w_al (fun _ => rfl) ?_
          have m929 := st_fr s921 m920 (by decide)
          refine w_getf m929 rfl (fun _ => rfl) (w_il (fun _ => rfl) (w_il (fun _ => rfl) (w_icI (x := 2) rfl (w_opz (c := w_i 0) (by decide +kernel) (by decide +kernel) ?_))))
          have m930 := st_fr s893 s881.2.2.1 (by decide)
          have m931 := st_fr s903 m930 (by decide)
          have m932 := st_fr s912 m931 (by decide)
          have m933 := st_fr s921 m932 (by decide)
          refine w_astI m933 (by omega) (by omega) (by omega) (by omega) (by omega) (fun A936 h935 w937 s934 => ?_)
          have q938 : a_g A936 0 = 0 := ((w937 0 (by omega) (by omega)).trans (if_neg (by omega))).trans q885
          have q939 : a_g A936 1 = 1 := ((w937 1 (by omega) (by omega)).trans (if_neg (by omega))).trans q886
          have q940 : a_g A936 2 = 0 := (w937 2 (by omega) (by omega)).trans (if_pos rfl)
          have z941 := s934.1
          have z941y := s934.2.1
          have z941w := s934.2.2.2.2 z928w
          refine w_al (fun _ => rfl) ?_
          have m942 := st_fr s934 m929 (by decide)
          refine w_getf m942 rfl (fun _ => rfl) (w_il (fun _ => rfl) (w_icI (x := (-1)) wn_1 ?_))
          have m943 := st_fr s903 s893.2.2.1 (by decide)
          have m944 := st_fr s912 m943 (by decide)
          have m945 := st_fr s921 m944 (by decide)
          have m946 := st_fr s934 m945 (by decide)
          refine w_astI m946 (by omega) (by omega) (by omega) (by omega) (by omega) (fun A949 h948 w950 s947 => ?_)
          have q951 : a_g A949 0 = (-1) := ((w950 0 (by omega) (by omega)).trans (if_neg (by omega))).trans q897
          have q952 : a_g A949 1 = (-1) := ((w950 1 (by omega) (by omega)).trans (if_neg (by omega))).trans q898
          have q953 : a_g A949 2 = (-1) := (w950 2 (by omega) (by omega)).trans (if_pos rfl)
          have z954 := s947.1
          have z954y := s947.2.1
          have z954w := s947.2.2.2.2 z941w
          refine w_inc (c := w_i (((0 + 1) + 1) + 1)) (fun _ => rfl) (i_addL (y := 1) rfl ((0 + 1) + 1)) (fun _ => rfl) (w_go (w_run k_577548 (w_il (fun _ => rfl) (w_icI (x := 6) rfl (w_gef (by omega) (by omega) (by omega) (by omega) (by omega)  (w_al (fun _ => rfl) ?_))))))
          have m955 := st_fr s947 m942 (by decide)
          refine w_getf m955 rfl (fun _ => rfl) (w_il (fun _ => rfl) (w_icI (x := 0) rfl ?_))
          have m956 := st_fr s934 s921.2.2.1 (by decide)
          have m957 := st_fr s947 m956 (by decide)
          refine w_astI m957 (by omega) (by omega) (by omega) (by omega) (by omega) (fun A960 h959 w961 s958 => ?_)
          have q962 : a_g A960 0 = 2 := ((w961 0 (by omega) (by omega)).trans (if_neg (by omega))).trans q925
          have q963 : a_g A960 1 = 5 := ((w961 1 (by omega) (by omega)).trans (if_neg (by omega))).trans q926
          have q964 : a_g A960 2 = 10 := ((w961 2 (by omega) (by omega)).trans (if_neg (by omega))).trans q927
          have q965 : a_g A960 3 = 0 := (w961 3 (by omega) (by omega)).trans (if_pos rfl)
          have z966 := s958.1
          have z966y := s958.2.1
          have z966w := s958.2.2.2.2 z954w
          refine w_il (fun _ => rfl) (w_lezf (by omega) (by omega) (by omega)  (w_il (fun _ => rfl) (w_il (fun _ => rfl) (w_gef (by omega) (by omega) (by omega) (by omega) (by omega)  (w_al (fun _ => rfl) ?_)))))
          have m967 := st_fr s958 m955 (by decide)
          refine w_getf m967 rfl (fun _ => rfl) (w_il (fun _ => rfl) (w_dup2 (fun _ => rfl) (fun _ => rfl) (w_aldI s958.2.2.1 (by omega) (by omega) (by omega) ?_)))
          rw [q965]
          refine w_icI (x := 1) rfl (w_il (fun _ => rfl) (w_icI (x := 1) rfl (w_op (c := w_i ((((0 + 1) + 1) + 1) - 1)) (i_sub (((0 + 1) + 1) + 1) 1) (w_op (c := w_i 4) (by decide +kernel) (w_op (c := w_i 4) (by decide +kernel) (w_astI s958.2.2.1 (by omega) (by omega) (by omega) (by omega) (by omega) (fun A970 h969 w971 s968 => ?_)))))))
          have q972 : a_g A970 0 = 2 := ((w971 0 (by omega) (by omega)).trans (if_neg (by omega))).trans q962
          have q973 : a_g A970 1 = 5 := ((w971 1 (by omega) (by omega)).trans (if_neg (by omega))).trans q963
          have q974 : a_g A970 2 = 10 := ((w971 2 (by omega) (by omega)).trans (if_neg (by omega))).trans q964
          have q975 : a_g A970 3 = 4 := (w971 3 (by omega) (by omega)).trans (if_pos rfl)
          have z976 := s968.1
          have z976y := s968.2.1
          have z976w := s968.2.2.2.2 z966w
          refine w_il (fun _ => rfl) (w_icI (x := 1) rfl (w_op (c := w_i ((((0 + 1) + 1) + 1) + 1)) (i_add (((0 + 1) + 1) + 1) 1) (w_il (fun _ => rfl) (w_get (by omega) (by omega) (by omega) (by omega) (by omega)  (w_run k_577605 (w_al (fun _ => rfl) ?_))))))
          have m977 := st_fr s968 m967 (by decide)
          refine w_getf m977 rfl (fun _ => rfl) (w_il (fun _ => rfl) (w_il (fun _ => rfl) (w_icI (x := 2) rfl (w_opz (c := w_i 1) (by decide +kernel) (by decide +kernel) ?_))))
          have m978 := st_fr s947 s934.2.2.1 (by decide)
          have m979 := st_fr s958 m978 (by decide)
          have m980 := st_fr s968 m979 (by decide)
          refine w_astI m980 (by omega) (by omega) (by omega) (by omega) (by omega) (fun A983 h982 w984 s981 => ?_)
          have q985 : a_g A983 0 = 0 := ((w984 0 (by omega) (by omega)).trans (if_neg (by omega))).trans q938
          have q986 : a_g A983 1 = 1 := ((w984 1 (by omega) (by omega)).trans (if_neg (by omega))).trans q939
          have q987 : a_g A983 2 = 0 := ((w984 2 (by omega) (by omega)).trans (if_neg (by omega))).trans q940
          have q988 : a_g A983 3 = 1 := (w984 3 (by omega) (by omega)).trans (if_pos rfl)
          have z989 := s981.1
          have z989y := s981.2.1
          have z989w := s981.2.2.2.2 z976w
          refine w_al (fun _ => rfl) ?_
          have m990 := st_fr s981 m977 (by decide)
          refine w_getf m990 rfl (fun _ => rfl) (w_il (fun _ => rfl) (w_icI (x := (-1)) wn_1 ?_))
          have m991 := st_fr s958 s947.2.2.1 (by decide)
          have m992 := st_fr s968 m991 (by decide)
          have m993 := st_fr s981 m992 (by decide)
          refine w_astI m993 (by omega) (by omega) (by omega) (by omega) (by omega) (fun A996 h995 w997 s994 => ?_)
          have q998 : a_g A996 0 = (-1) := ((w997 0 (by omega) (by omega)).trans (if_neg (by omega))).trans q951
          have q999 : a_g A996 1 = (-1) := ((w997 1 (by omega) (by omega)).trans (if_neg (by omega))).trans q952
          have q1000 : a_g A996 2 = (-1) := ((w997 2 (by omega) (by omega)).trans (if_neg (by omega))).trans q953
          have q1001 : a_g A996 3 = (-1) := (w997 3 (by omega) (by omega)).trans (if_pos rfl)
          have z1002 := s994.1
          have z1002y := s994.2.1
          have z1002w := s994.2.2.2.2 z989w
          refine w_inc (c := w_i ((((0 + 1) + 1) + 1) + 1)) (fun _ => rfl) (i_addL (y := 1) rfl (((0 + 1) + 1) + 1)) (fun _ => rfl) (w_go (w_run k_577548 (w_il (fun _ => rfl) (w_icI (x := 6) rfl (w_gef (by omega) (by omega) (by omega) (by omega) (by omega)  (w_al (fun _ => rfl) ?_))))))
          have m1003 := st_fr s994 m990 (by decide)
          refine w_getf m1003 rfl (fun _ => rfl) (w_il (fun _ => rfl) (w_icI (x := 0) rfl ?_))
          have m1004 := st_fr s981 s968.2.2.1 (by decide)
          have m1005 := st_fr s994 m1004 (by decide)
          refine w_astI m1005 (by omega) (by omega) (by omega) (by omega) (by omega) (fun A1008 h1007 w1009 s1006 => ?_)
          have q1010 : a_g A1008 0 = 2 := ((w1009 0 (by omega) (by omega)).trans (if_neg (by omega))).trans q972
          have q1011 : a_g A1008 1 = 5 := ((w1009 1 (by omega) (by omega)).trans (if_neg (by omega))).trans q973
          have q1012 : a_g A1008 2 = 10 := ((w1009 2 (by omega) (by omega)).trans (if_neg (by omega))).trans q974
          have q1013 : a_g A1008 3 = 4 := ((w1009 3 (by omega) (by omega)).trans (if_neg (by omega))).trans q975
          have q1014 : a_g A1008 4 = 0 := (w1009 4 (by omega) (by omega)).trans (if_pos rfl)
          have z1015 := s1006.1
          have z1015y := s1006.2.1
          have z1015w := s1006.2.2.2.2 z1002w
          refine w_il (fun _ => rfl) (w_lezf (by omega) (by omega) (by omega)  (w_il (fun _ => rfl) (w_il (fun _ => rfl) (w_get (by omega) (by omega) (by omega) (by omega) (by omega)  (w_run k_577584 (w_il (fun _ => rfl) (w_icI (x := 1) rfl (w_op (c := w_i (((((0 + 1) + 1) + 1) + 1) + 1)) (i_add ((((0 + 1) + 1) + 1) + 1) 1) (w_il (fun _ => rfl) (w_get (by omega) (by omega) (by omega) (by omega) (by omega)  (w_run k_577605 (w_al (fun _ => rfl) ?_))))))))))))
          have m1016 := st_fr s1006 m1003 (by decide)
          refine w_getf m1016 rfl (fun _ => rfl) (w_il (fun _ => rfl) (w_il (fun _ => rfl) (w_icI (x := 2) rfl (w_opz (c := w_i 0) (by decide +kernel) (by decide +kernel) ?_))))
          have m1017 := st_fr s994 s981.2.2.1 (by decide)
          have m1018 := st_fr s1006 m1017 (by decide)
          refine w_astI m1018 (by omega) (by omega) (by omega) (by omega) (by omega) (fun A1021 h1020 w1022 s1019 => ?_)
          have q1023 : a_g A1021 0 = 0 := ((w1022 0 (by omega) (by omega)).trans (if_neg (by omega))).trans q985
          have q1024 : a_g A1021 1 = 1 := ((w1022 1 (by omega) (by omega)).trans (if_neg (by omega))).trans q986
          have q1025 : a_g A1021 2 = 0 := ((w1022 2 (by omega) (by omega)).trans (if_neg (by omega))).trans q987
          have q1026 : a_g A1021 3 = 1 := ((w1022 3 (by omega) (by omega)).trans (if_neg (by omega))).trans q988
          have q1027 : a_g A1021 4 = 0 := (w1022 4 (by omega) (by omega)).trans (if_pos rfl)
          have z1028 := s1019.1
          have z1028y := s1019.2.1
          have z1028w := s1019.2.2.2.2 z1015w
          refine w_al (fun _ => rfl) ?_
          have m1029 := st_fr s1019 m1016 (by decide)
          refine w_getf m1029 rfl (fun _ => rfl) (w_il (fun _ => rfl) (w_icI (x := (-1)) wn_1 ?_))
          have m1030 := st_fr s1006 s994.2.2.1 (by decide)
          have m1031 := st_fr s1019 m1030 (by decide)
          refine w_astI m1031 (by omega) (by omega) (by omega) (by omega) (by omega) (fun A1034 h1033 w1035 s1032 => ?_)
          have q1036 : a_g A1034 0 = (-1) := ((w1035 0 (by omega) (by omega)).trans (if_neg (by omega))).trans q998
          have q1037 : a_g A1034 1 = (-1) := ((w1035 1 (by omega) (by omega)).trans (if_neg (by omega))).trans q999
          have q1038 : a_g A1034 2 = (-1) := ((w1035 2 (by omega) (by omega)).trans (if_neg (by omega))).trans q1000
          have q1039 : a_g A1034 3 = (-1) := ((w1035 3 (by omega) (by omega)).trans (if_neg (by omega))).trans q1001
          have q1040 : a_g A1034 4 = (-1) := (w1035 4 (by omega) (by omega)).trans (if_pos rfl)
          have z1041 := s1032.1
          have z1041y := s1032.2.1
          have z1041w := s1032.2.2.2.2 z1028w
          refine w_inc (c := w_i (((((0 + 1) + 1) + 1) + 1) + 1)) (fun _ => rfl) (i_addL (y := 1) rfl ((((0 + 1) + 1) + 1) + 1)) (fun _ => rfl) (w_go (w_run k_577548 (w_il (fun _ => rfl) (w_icI (x := 6) rfl (w_gef (by omega) (by omega) (by omega) (by omega) (by omega)  (w_al (fun _ => rfl) ?_))))))
          have m1042 := st_fr s1032 m1029 (by decide)
          refine w_getf m1042 rfl (fun _ => rfl) (w_il (fun _ => rfl) (w_icI (x := 0) rfl ?_))
          have m1043 := st_fr s1019 s1006.2.2.1 (by decide)
          have m1044 := st_fr s1032 m1043 (by decide)
          refine w_astI m1044 (by omega) (by omega) (by omega) (by omega) (by omega) (fun A1047 h1046 w1048 s1045 => ?_)
          have q1049 : a_g A1047 0 = 2 := ((w1048 0 (by omega) (by omega)).trans (if_neg (by omega))).trans q1010
          have q1050 : a_g A1047 1 = 5 := ((w1048 1 (by omega) (by omega)).trans (if_neg (by omega))).trans q1011
          have q1051 : a_g A1047 2 = 10 := ((w1048 2 (by omega) (by omega)).trans (if_neg (by omega))).trans q1012
          have q1052 : a_g A1047 3 = 4 := ((w1048 3 (by omega) (by omega)).trans (if_neg (by omega))).trans q1013
          have q1053 : a_g A1047 4 = 0 := ((w1048 4 (by omega) (by omega)).trans (if_neg (by omega))).trans q1014
          have q1054 : a_g A1047 5 = 0 := (w1048 5 (by omega) (by omega)).trans (if_pos rfl)
          have z1055 := s1045.1
          have z1055y := s1045.2.1
          have z1055w := s1045.2.2.2.2 z1041w
          refine w_il (fun _ => rfl) (w_lezf (by omega) (by omega) (by omega)  (w_il (fun _ => rfl) (w_il (fun _ => rfl) (w_get (by omega) (by omega) (by omega) (by omega) (by omega)  (w_run k_577584 (w_il (fun _ => rfl) (w_icI (x := 1) rfl (w_op (c := w_i ((((((0 + 1) + 1) + 1) + 1) + 1) + 1)) (i_add (((((0 + 1) + 1) + 1) + 1) + 1) 1) (w_il (fun _ => rfl) (w_get (by omega) (by omega) (by omega) (by omega) (by omega)  (w_run k_577605 (w_al (fun _ => rfl) ?_))))))))))))
          have m1056 := st_fr s1045 m1042 (by decide)
          refine w_getf m1056 rfl (fun _ => rfl) (w_il (fun _ => rfl) (w_il (fun _ => rfl) (w_icI (x := 2) rfl (w_opz (c := w_i 1) (by decide +kernel) (by decide +kernel) ?_))))
          have m1057 := st_fr s1032 s1019.2.2.1 (by decide)
          have m1058 := st_fr s1045 m1057 (by decide)
          refine w_astI m1058 (by omega) (by omega) (by omega) (by omega) (by omega) (fun A1061 h1060 w1062 s1059 => ?_)
          have q1063 : a_g A1061 0 = 0 := ((w1062 0 (by omega) (by omega)).trans (if_neg (by omega))).trans q1023
          have q1064 : a_g A1061 1 = 1 := ((w1062 1 (by omega) (by omega)).trans (if_neg (by omega))).trans q1024
          have q1065 : a_g A1061 2 = 0 := ((w1062 2 (by omega) (by omega)).trans (if_neg (by omega))).trans q1025
          have q1066 : a_g A1061 3 = 1 := ((w1062 3 (by omega) (by omega)).trans (if_neg (by omega))).trans q1026
          have q1067 : a_g A1061 4 = 0 := ((w1062 4 (by omega) (by omega)).trans (if_neg (by omega))).trans q1027
          have q1068 : a_g A1061 5 = 1 := (w1062 5 (by omega) (by omega)).trans (if_pos rfl)
          have z1069 := s1059.1
          have z1069y := s1059.2.1
          have z1069w := s1059.2.2.2.2 z1055w
          refine w_al (fun _ => rfl) ?_
          have m1070 := st_fr s1059 m1056 (by decide)
          refine w_getf m1070 rfl (fun _ => rfl) (w_il (fun _ => rfl) (w_icI (x := (-1)) wn_1 ?_))
          have m1071 := st_fr s1045 s1032.2.2.1 (by decide)
          have m1072 := st_fr s1059 m1071 (by decide)
          refine w_astI m1072 (by omega) (by omega) (by omega) (by omega) (by omega) (fun A1075 h1074 w1076 s1073 => ?_)
          have q1077 : a_g A1075 0 = (-1) := ((w1076 0 (by omega) (by omega)).trans (if_neg (by omega))).trans q1036
          have q1078 : a_g A1075 1 = (-1) := ((w1076 1 (by omega) (by omega)).trans (if_neg (by omega))).trans q1037
          have q1079 : a_g A1075 2 = (-1) := ((w1076 2 (by omega) (by omega)).trans (if_neg (by omega))).trans q1038
          have q1080 : a_g A1075 3 = (-1) := ((w1076 3 (by omega) (by omega)).trans (if_neg (by omega))).trans q1039
          have q1081 : a_g A1075 4 = (-1) := ((w1076 4 (by omega) (by omega)).trans (if_neg (by omega))).trans q1040
          have q1082 : a_g A1075 5 = (-1) := (w1076 5 (by omega) (by omega)).trans (if_pos rfl)
          have z1083 := s1073.1
          have z1083y := s1073.2.1
          have z1083w := s1073.2.2.2.2 z1069w
          refine w_inc (c := w_i ((((((0 + 1) + 1) + 1) + 1) + 1) + 1)) (fun _ => rfl) (i_addL (y := 1) rfl (((((0 + 1) + 1) + 1) + 1) + 1)) (fun _ => rfl) (w_go (w_run k_577548 (w_il (fun _ => rfl) (w_icI (x := 6) rfl (w_get (by omega) (by omega) (by omega) (by omega) (by omega)  (w_run k_577627 (w_al (fun _ => rfl) (w_icI (x := 0) rfl ?_))))))))
          have m1084 := st_fr s1073 m1070 (by decide)
          refine w_putf [.inr (.inl (some 32)), .inr (.inl (some 33)), .inr (.inl (some 34)), .inr (.inl (some 35)), .inr (.inl (some 36)), .inl (w_i hh), .inl (w_i c), .inl (w_i 0), .inl (w_i kee14), .inl (w_i (g_mnp g)), .inl (w_i rul14), .inl (w_i (g_mhi g)), .inr (.inl (some 37)), .inr (.inl (some 50)), .inr (.inl (some 51)), .inr (.inl (some 52)), .inr (.inl (some 53)), .inr (.inl (some 54)), .inl (w_i tpd14), .inl (w_i (g_mnt g)), .inl (w_i nxt14), .inl (w_i tok14), .inl (w_i tka14), .inl (w_i val14), .inl (w_i opn14), .inl (w_i hm14), .inl (w_i row14), .inr (.inl (some 55)), .inr (.inl (some 56)), .inr (.inl (some 57)), .inr (.inl (some 58)), .inr (.inl (some 59)), .inr (.inl (some 60)), .inr (.inl (some 61)), .inr (.inl (some 62)), .inl (w_i ksp14), .inl (w_i kke14), .inl (w_i kru14), .inr (.inl (some 63)), .inr (.inl (some 64)), .inr (.inl (some 65)), .inr (.inl (some 66))] m1084 rfl rfl rfl (fun _ => rfl) (fun h1086 s1085 => ?_)
          have z1088 := s1085.1
          have z1088y := s1085.2.1
          have z1088w := s1085.2.2.2.2 z1083w
          refine w_al (fun _ => rfl) (w_icI (x := 0) rfl (w_putf [.inr (.inl (some 32)), .inr (.inl (some 33)), .inr (.inl (some 34)), .inr (.inl (some 35)), .inr (.inl (some 36)), .inl (w_i hh), .inl (w_i c), .inl (w_i 0), .inl (w_i 0), .inl (w_i (g_mnp g)), .inl (w_i rul14), .inl (w_i (g_mhi g)), .inr (.inl (some 37)), .inr (.inl (some 50)), .inr (.inl (some 51)), .inr (.inl (some 52)), .inr (.inl (some 53)), .inr (.inl (some 54)), .inl (w_i tpd14), .inl (w_i (g_mnt g)), .inl (w_i nxt14), .inl (w_i tok14), .inl (w_i tka14), .inl (w_i val14), .inl (w_i opn14), .inl (w_i hm14), .inl (w_i row14), .inr (.inl (some 55)), .inr (.inl (some 56)), .inr (.inl (some 57)), .inr (.inl (some 58)), .inr (.inl (some 59)), .inr (.inl (some 60)), .inr (.inl (some 61)), .inr (.inl (some 62)), .inl (w_i ksp14), .inl (w_i kke14), .inl (w_i kru14), .inr (.inl (some 63)), .inr (.inl (some 64)), .inr (.inl (some 65)), .inr (.inl (some 66))] s1085.2.2.1 rfl rfl rfl (fun _ => rfl) (fun h1090 s1089 => ?_)))
          have z1092 := s1089.1
          have z1092y := s1089.2.1
          have z1092w := s1089.2.2.2.2 z1088w
          refine w_al (fun _ => rfl) (w_icI (x := 0) rfl (w_putf [.inr (.inl (some 32)), .inr (.inl (some 33)), .inr (.inl (some 34)), .inr (.inl (some 35)), .inr (.inl (some 36)), .inl (w_i hh), .inl (w_i c), .inl (w_i 0), .inl (w_i 0), .inl (w_i (g_mnp g)), .inl (w_i rul14), .inl (w_i 0), .inr (.inl (some 37)), .inr (.inl (some 50)), .inr (.inl (some 51)), .inr (.inl (some 52)), .inr (.inl (some 53)), .inr (.inl (some 54)), .inl (w_i tpd14), .inl (w_i (g_mnt g)), .inl (w_i nxt14), .inl (w_i tok14), .inl (w_i tka14), .inl (w_i val14), .inl (w_i opn14), .inl (w_i hm14), .inl (w_i row14), .inr (.inl (some 55)), .inr (.inl (some 56)), .inr (.inl (some 57)), .inr (.inl (some 58)), .inr (.inl (some 59)), .inr (.inl (some 60)), .inr (.inl (some 61)), .inr (.inl (some 62)), .inl (w_i ksp14), .inl (w_i kke14), .inl (w_i kru14), .inr (.inl (some 63)), .inr (.inl (some 64)), .inr (.inl (some 65)), .inr (.inl (some 66))] s1089.2.2.1 rfl rfl rfl (fun _ => rfl) (fun h1094 s1093 => ?_)))
          have z1096 := s1093.1
          have z1096y := s1093.2.1
          have z1096w := s1093.2.2.2.2 z1092w
          refine w_rv ⟨rfl, ?_⟩
          refine w_il (fun _ => rfl) (w_ri ?_)
          have F1 := F.1
          have F2 := F.2.1
          have m1097 := st_fr s1059 s1045.2.2.1 (by decide)
          have m1098 := st_fr s1073 m1097 (by decide)
          have m1099 := st_fr s1085 m1098 (by decide)
          have m1100 := st_fr s1089 m1099 (by decide)
          have m1101 := st_fr s1093 m1100 (by decide)
          have gz : g_mnt (g_mbu g hh c A1047) = g_mnt g := rfl
          have m1102 := st_fr s1073 s1059.2.2.1 (by decide)
          have m1103 := st_fr s1085 m1102 (by decide)
          have m1104 := st_fr s1089 m1103 (by decide)
          have m1105 := st_fr s1093 m1104 (by decide)
          have m1106 := st_fr s1085 s1073.2.2.1 (by decide)
          have m1107 := st_fr s1089 m1106 (by decide)
          have m1108 := st_fr s1093 m1107 (by decide)
          have ivn := mbu_fin (e := _) (hh := hh) (c := c) iv (by omega) (by omega) (by omega) (by omega) (by omega) z1096w (by omega) (fun q n31 n32 n33 n34 => (s1093.2.2.2.1 q n31).trans ((s1089.2.2.2.1 q n31).trans ((s1085.2.2.2.1 q n31).trans ((s1073.2.2.2.1 q n34).trans ((s1059.2.2.2.1 q n33).trans ((s1045.2.2.2.1 q n32).trans ((s1032.2.2.2.1 q n34).trans ((s1019.2.2.2.1 q n33).trans ((s1006.2.2.2.1 q n32).trans ((s994.2.2.2.1 q n34).trans ((s981.2.2.2.1 q n33).trans ((s968.2.2.2.1 q n32).trans ((s958.2.2.2.1 q n32).trans ((s947.2.2.2.1 q n34).trans ((s934.2.2.2.1 q n33).trans ((s921.2.2.2.1 q n32).trans ((s912.2.2.2.1 q n32).trans ((s903.2.2.2.1 q n32).trans ((s893.2.2.2.1 q n34).trans ((s881.2.2.2.1 q n33).trans ((s869.2.2.2.1 q n32).trans ((s861.2.2.2.1 q n32).trans ((s853.2.2.2.1 q n32).trans ((s844.2.2.2.1 q n34).trans ((s832.2.2.2.1 q n33).trans ((s821.2.2.2.1 q n32).trans ((s814.2.2.2.1 q n32).trans ((s808.2.2.2.1 q n31).trans ((s804.2.2.2.1 q n31).trans (rfl)))))))))))))))))))))))))))))) s1093.2.2.1 ⟨_, _, _, _, _, _, _, _, _, _, _, _, _, _, rfl, by omega, by omega, by omega, by omega, by omega, by omega, by omega, by omega, by omega, by omega, by omega, by omega, by omega, by omega, by omega, by omega, by omega, by omega, by omega, by omega, by omega, by omega, by omega, by omega, by omega, by omega, by omega, by omega, by omega, by omega, by omega, by omega, by omega, by omega, by omega, by omega, by omega, by omega⟩ m1101 (fun j j0 j1 => by rcases (show j = 0 ∨ j = 1 ∨ j = 2 ∨ j = 3 ∨ j = 4 ∨ j = 5 from by omega) with rfl | rfl | rfl | rfl | rfl | rfl <;> [(rw [q1049]; omega); (rw [q1050]; omega); (rw [q1051]; omega); (rw [q1052]; omega); (rw [q1053]; omega); (rw [q1054]; omega)]) m1105 (fun j j0 j1 => by rcases (show j = 0 ∨ j = 1 ∨ j = 2 ∨ j = 3 ∨ j = 4 ∨ j = 5 from by omega) with rfl | rfl | rfl | rfl | rfl | rfl <;> [(rw [q1063]; omega); (rw [q1064]; omega); (rw [q1065]; omega); (rw [q1066]; omega); (rw [q1067]; omega); (rw [q1068]; omega)]) ⟨_, m1108⟩
          exact k0 _ (g_mbu g hh c A1047) h1094 ivn ch_gmbu (by omega) (by omega)
        · refine w_al (fun _ => rfl) (w_il (fun _ => rfl) (w_il (fun _ => rfl) (w_this (fun _ => rfl) m14 (w_cv (fun _ => rfl) rfl (w_run k_577536 (w_al (fun _ => rfl) (w_il (fun _ => rfl) (w_putf [.inr (.inl (some 32)), .inr (.inl (some 33)), .inr (.inl (some 34)), .inr (.inl (some 35)), .inr (.inl (some 36)), .inl (w_i hh), .inl (w_i (g_mC g)), .inl (w_i spr14), .inl (w_i kee14), .inl (w_i (g_mnp g)), .inl (w_i rul14), .inl (w_i (g_mhi g)), .inr (.inl (some 37)), .inr (.inl (some 50)), .inr (.inl (some 51)), .inr (.inl (some 52)), .inr (.inl (some 53)), .inr (.inl (some 54)), .inl (w_i tpd14), .inl (w_i (g_mnt g)), .inl (w_i nxt14), .inl (w_i tok14), .inl (w_i tka14), .inl (w_i val14), .inl (w_i opn14), .inl (w_i hm14), .inl (w_i row14), .inr (.inl (some 55)), .inr (.inl (some 56)), .inr (.inl (some 57)), .inr (.inl (some 58)), .inr (.inl (some 59)), .inr (.inl (some 60)), .inr (.inl (some 61)), .inr (.inl (some 62)), .inl (w_i ksp14), .inl (w_i kke14), .inl (w_i kru14), .inr (.inl (some 63)), .inr (.inl (some 64)), .inr (.inl (some 65)), .inr (.inl (some 66))] m14 rfl rfl rfl (fun _ => rfl) (fun h1110 s1109 => ?_)))))))))
          have z1112 := s1109.1
          have z1112y := s1109.2.1
          have z1112w := s1109.2.2.2.2 z18w
          refine w_al (fun _ => rfl) (w_il (fun _ => rfl) (w_putf [.inr (.inl (some 32)), .inr (.inl (some 33)), .inr (.inl (some 34)), .inr (.inl (some 35)), .inr (.inl (some 36)), .inl (w_i hh), .inl (w_i c), .inl (w_i spr14), .inl (w_i kee14), .inl (w_i (g_mnp g)), .inl (w_i rul14), .inl (w_i (g_mhi g)), .inr (.inl (some 37)), .inr (.inl (some 50)), .inr (.inl (some 51)), .inr (.inl (some 52)), .inr (.inl (some 53)), .inr (.inl (some 54)), .inl (w_i tpd14), .inl (w_i (g_mnt g)), .inl (w_i nxt14), .inl (w_i tok14), .inl (w_i tka14), .inl (w_i val14), .inl (w_i opn14), .inl (w_i hm14), .inl (w_i row14), .inr (.inl (some 55)), .inr (.inl (some 56)), .inr (.inl (some 57)), .inr (.inl (some 58)), .inr (.inl (some 59)), .inr (.inl (some 60)), .inr (.inl (some 61)), .inr (.inl (some 62)), .inl (w_i ksp14), .inl (w_i kke14), .inl (w_i kru14), .inr (.inl (some 63)), .inr (.inl (some 64)), .inr (.inl (some 65)), .inr (.inl (some 66))] s1109.2.2.1 rfl rfl rfl (fun _ => rfl) (fun h1114 s1113 => ?_)))
          have z1116 := s1113.1
          have z1116y := s1113.2.1
          have z1116w := s1113.2.2.2.2 z1112w
          refine w_icI (x := 0) rfl (w_is (fun _ => rfl) (w_il (fun _ => rfl) (w_icI (x := 6) rfl (w_gef (by omega) (by omega) (by omega) (by omega) (by omega)  (w_al (fun _ => rfl) (w_getf s1113.2.2.1 rfl (fun _ => rfl) (w_il (fun _ => rfl) (w_icI (x := 0) rfl ?_))))))))
          have m1117 := st_fr s1109 m15 (by decide)
          have m1118 := st_fr s1113 m1117 (by decide)
          refine w_astI m1118 (by omega) (by omega) (by omega) (by omega) (by omega) (fun A1121 h1120 w1122 s1119 => ?_)
          have q1123 : a_g A1121 0 = 0 := (w1122 0 (by omega) (by omega)).trans (if_pos rfl)
          have z1124 := s1119.1
          have z1124y := s1119.2.1
          have z1124w := s1119.2.2.2.2 z1116w
          refine w_il (fun _ => rfl) (w_lezt (by omega) (by omega) (by omega)  (w_run k_577584 (w_il (fun _ => rfl) (w_icI (x := 1) rfl (w_op (c := w_i (0 + 1)) (i_add 0 1) (w_il (fun _ => rfl) (w_gef (by omega) (by omega) (by omega) (by omega) (by omega)  (w_al (fun _ => rfl) ?_))))))))
          have m1125 := st_fr s1119 s1113.2.2.1 (by decide)
          refine w_getf m1125 rfl (fun _ => rfl) (w_il (fun _ => rfl) (w_dup2 (fun _ => rfl) (fun _ => rfl) (w_aldI s1119.2.2.1 (by omega) (by omega) (by omega) ?_)))
          rw [q1123]
          refine w_icI (x := 1) rfl (w_il (fun _ => rfl) (w_icI (x := 1) rfl (w_op (c := w_i (0 + 1)) (i_add 0 1) (w_op (c := w_i 2) (by decide +kernel) (w_op (c := w_i 2) (by decide +kernel) (w_astI s1119.2.2.1 (by omega) (by omega) (by omega) (by omega) (by omega) (fun A1128 h1127 w1129 s1126 => ?_)))))))
          have q1130 : a_g A1128 0 = 2 := (w1129 0 (by omega) (by omega)).trans (if_pos rfl)
          have z1131 := s1126.1
          have z1131y := s1126.2.1
          have z1131w := s1126.2.2.2.2 z1124w
          refine w_al (fun _ => rfl) ?_
          have m1132 := st_fr s1126 m1125 (by decide)
          refine w_getf m1132 rfl (fun _ => rfl) (w_il (fun _ => rfl) (w_il (fun _ => rfl) (w_icI (x := 2) rfl (w_opz (c := w_i 0) (by decide +kernel) (by decide +kernel) ?_))))
          have m1133 := st_fr s1109 m16 (by decide)
          have m1134 := st_fr s1113 m1133 (by decide)
          have m1135 := st_fr s1119 m1134 (by decide)
          have m1136 := st_fr s1126 m1135 (by decide)
          refine w_astI m1136 (by omega) (by omega) (by omega) (by omega) (by omega) (fun A1139 h1138 w1140 s1137 => ?_)
          have q1141 : a_g A1139 0 = 0 := (w1140 0 (by omega) (by omega)).trans (if_pos rfl)
          have z1142 := s1137.1
          have z1142y := s1137.2.1
          have z1142w := s1137.2.2.2.2 z1131w
          refine w_al (fun _ => rfl) ?_
          have m1143 := st_fr s1137 m1132 (by decide)
          refine w_getf m1143 rfl (fun _ => rfl) (w_il (fun _ => rfl) (w_icI (x := (-1)) wn_1 ?_))
          have m1144 := st_fr s1109 m17 (by decide)
          have m1145 := st_fr s1113 m1144 (by decide)
          have m1146 := st_fr s1119 m1145 (by decide)
          have m1147 := st_fr s1126 m1146 (by decide)
          have m1148 := st_fr s1137 m1147 (by decide)
          refine w_astI m1148 (by omega) (by omega) (by omega) (by omega) (by omega) (fun A1151 h1150 w1152 s1149 => ?_)
          have q1153 : a_g A1151 0 = (-1) := (w1152 0 (by omega) (by omega)).trans (if_pos rfl)
          have z1154 := s1149.1
          have z1154y := s1149.2.1
          have z1154w := s1149.2.2.2.2 z1142w
          refine w_inc (c := w_i (0 + 1)) (fun _ => rfl) (i_addL (y := 1) rfl 0) (fun _ => rfl) (w_go (w_run k_577548 (w_il (fun _ => rfl) (w_icI (x := 6) rfl (w_gef (by omega) (by omega) (by omega) (by omega) (by omega)  (w_al (fun _ => rfl) ?_))))))
          have m1155 := st_fr s1149 m1143 (by decide)
          refine w_getf m1155 rfl (fun _ => rfl) (w_il (fun _ => rfl) (w_icI (x := 0) rfl ?_))
          have m1156 := st_fr s1137 s1126.2.2.1 (by decide)
          have m1157 := st_fr s1149 m1156 (by decide)
          refine w_astI m1157 (by omega) (by omega) (by omega) (by omega) (by omega) (fun A1160 h1159 w1161 s1158 => ?_)
          have q1162 : a_g A1160 0 = 2 := ((w1161 0 (by omega) (by omega)).trans (if_neg (by omega))).trans q1130
          have q1163 : a_g A1160 1 = 0 := (w1161 1 (by omega) (by omega)).trans (if_pos rfl)
          have z1164 := s1158.1
          have z1164y := s1158.2.1
          have z1164w := s1158.2.2.2.2 z1154w
          refine w_il (fun _ => rfl) (w_lezf (by omega) (by omega) (by omega)  (w_il (fun _ => rfl) (w_il (fun _ => rfl) (w_gef (by omega) (by omega) (by omega) (by omega) (by omega)  (w_al (fun _ => rfl) ?_)))))
          have m1165 := st_fr s1158 m1155 (by decide)
          refine w_getf m1165 rfl (fun _ => rfl) (w_il (fun _ => rfl) (w_dup2 (fun _ => rfl) (fun _ => rfl) (w_aldI s1158.2.2.1 (by omega) (by omega) (by omega) ?_)))
          rw [q1163]
          refine w_icI (x := 1) rfl (w_il (fun _ => rfl) (w_icI (x := 1) rfl (w_op (c := w_i ((0 + 1) - 1)) (i_sub (0 + 1) 1) (w_op (c := w_i 1) (by decide +kernel) (w_op (c := w_i 1) (by decide +kernel) (w_astI s1158.2.2.1 (by omega) (by omega) (by omega) (by omega) (by omega) (fun A1168 h1167 w1169 s1166 => ?_)))))))
          have q1170 : a_g A1168 0 = 2 := ((w1169 0 (by omega) (by omega)).trans (if_neg (by omega))).trans q1162
          have q1171 : a_g A1168 1 = 1 := (w1169 1 (by omega) (by omega)).trans (if_pos rfl)
          have z1172 := s1166.1
          have z1172y := s1166.2.1
          have z1172w := s1166.2.2.2.2 z1164w
          refine w_il (fun _ => rfl) (w_icI (x := 1) rfl (w_op (c := w_i ((0 + 1) + 1)) (i_add (0 + 1) 1) (w_il (fun _ => rfl) (w_gef (by omega) (by omega) (by omega) (by omega) (by omega)  (w_al (fun _ => rfl) ?_)))))
          have m1173 := st_fr s1166 m1165 (by decide)
          refine w_getf m1173 rfl (fun _ => rfl) (w_il (fun _ => rfl) (w_dup2 (fun _ => rfl) (fun _ => rfl) (w_aldI s1166.2.2.1 (by omega) (by omega) (by omega) ?_)))
          rw [q1171]
          refine w_icI (x := 1) rfl (w_il (fun _ => rfl) (w_icI (x := 1) rfl (w_op (c := w_i ((0 + 1) + 1)) (i_add (0 + 1) 1) (w_op (c := w_i 4) (by decide +kernel) (w_op (c := w_i 5) (by decide +kernel) (w_astI s1166.2.2.1 (by omega) (by omega) (by omega) (by omega) (by omega) (fun A1176 h1175 w1177 s1174 => ?_)))))))
          have q1178 : a_g A1176 0 = 2 := ((w1177 0 (by omega) (by omega)).trans (if_neg (by omega))).trans q1170
          have q1179 : a_g A1176 1 = 5 := (w1177 1 (by omega) (by omega)).trans (if_pos rfl)
          have z1180 := s1174.1
          have z1180y := s1174.2.1
          have z1180w := s1174.2.2.2.2 z1172w
          refine w_al (fun _ => rfl) ?_
          have m1181 := st_fr s1174 m1173 (by decide)
          refine w_getf m1181 rfl (fun _ => rfl) (w_il (fun _ => rfl) (w_il (fun _ => rfl) (w_icI (x := 2) rfl (w_opz (c := w_i 1) (by decide +kernel) (by decide +kernel) ?_))))
          have m1182 := st_fr s1149 s1137.2.2.1 (by decide)
          have m1183 := st_fr s1158 m1182 (by decide)
          have m1184 := st_fr s1166 m1183 (by decide)
          have m1185 := st_fr s1174 m1184 (by decide)
          refine w_astI m1185 (by omega) (by omega) (by omega) (by omega) (by omega) (fun A1188 h1187 w1189 s1186 => ?_)
          have q1190 : a_g A1188 0 = 0 := ((w1189 0 (by omega) (by omega)).trans (if_neg (by omega))).trans q1141
          have q1191 : a_g A1188 1 = 1 := (w1189 1 (by omega) (by omega)).trans (if_pos rfl)
          have z1192 := s1186.1
          have z1192y := s1186.2.1
          have z1192w := s1186.2.2.2.2 z1180w
          refine w_al (fun _ => rfl) ?_
          have m1193 := st_fr s1186 m1181 (by decide)
          refine w_getf m1193 rfl (fun _ => rfl) (w_il (fun _ => rfl) (w_icI (x := (-1)) wn_1 ?_))
          have m1194 := st_fr s1158 s1149.2.2.1 (by decide)
          have m1195 := st_fr s1166 m1194 (by decide)
          have m1196 := st_fr s1174 m1195 (by decide)
          have m1197 := st_fr s1186 m1196 (by decide)
          refine w_astI m1197 (by omega) (by omega) (by omega) (by omega) (by omega) (fun A1200 h1199 w1201 s1198 => ?_)
          have q1202 : a_g A1200 0 = (-1) := ((w1201 0 (by omega) (by omega)).trans (if_neg (by omega))).trans q1153
          have q1203 : a_g A1200 1 = (-1) := (w1201 1 (by omega) (by omega)).trans (if_pos rfl)
          have z1204 := s1198.1
          have z1204y := s1198.2.1
          have z1204w := s1198.2.2.2.2 z1192w
          refine w_inc (c := w_i ((0 + 1) + 1)) (fun _ => rfl) (i_addL (y := 1) rfl (0 + 1)) (fun _ => rfl) (w_go (w_run k_577548 (w_il (fun _ => rfl) (w_icI (x := 6) rfl (w_gef (by omega) (by omega) (by omega) (by omega) (by omega)  (w_al (fun _ => rfl) ?_))))))
          have m1205 := st_fr s1198 m1193 (by decide)
          refine w_getf m1205 rfl (fun _ => rfl) (w_il (fun _ => rfl) (w_icI (x := 0) rfl ?_))
          have m1206 := st_fr s1186 s1174.2.2.1 (by decide)
          have m1207 := st_fr s1198 m1206 (by decide)
          refine w_astI m1207 (by omega) (by omega) (by omega) (by omega) (by omega) (fun A1210 h1209 w1211 s1208 => ?_)
          have q1212 : a_g A1210 0 = 2 := ((w1211 0 (by omega) (by omega)).trans (if_neg (by omega))).trans q1178
          have q1213 : a_g A1210 1 = 5 := ((w1211 1 (by omega) (by omega)).trans (if_neg (by omega))).trans q1179
          have q1214 : a_g A1210 2 = 0 := (w1211 2 (by omega) (by omega)).trans (if_pos rfl)
          have z1215 := s1208.1
          have z1215y := s1208.2.1
          have z1215w := s1208.2.2.2.2 z1204w
          refine w_il (fun _ => rfl) (w_lezf (by omega) (by omega) (by omega)  (w_il (fun _ => rfl) (w_il (fun _ => rfl) (w_gef (by omega) (by omega) (by omega) (by omega) (by omega)  (w_al (fun _ => rfl) ?_)))))
          have m1216 := st_fr s1208 m1205 (by decide)
          refine w_getf m1216 rfl (fun _ => rfl) (w_il (fun _ => rfl) (w_dup2 (fun _ => rfl) (fun _ => rfl) (w_aldI s1208.2.2.1 (by omega) (by omega) (by omega) ?_)))
          rw [q1214]
          refine w_icI (x := 1) rfl (w_il (fun _ => rfl) (w_icI (x := 1) rfl (w_op (c := w_i (((0 + 1) + 1) - 1)) (i_sub ((0 + 1) + 1) 1) (w_op (c := w_i 2) (by decide +kernel) (w_op (c := w_i 2) (by decide +kernel) (w_astI s1208.2.2.1 (by omega) (by omega) (by omega) (by omega) (by omega) (fun A1219 h1218 w1220 s1217 => ?_)))))))
          have q1221 : a_g A1219 0 = 2 := ((w1220 0 (by omega) (by omega)).trans (if_neg (by omega))).trans q1212
          have q1222 : a_g A1219 1 = 5 := ((w1220 1 (by omega) (by omega)).trans (if_neg (by omega))).trans q1213
          have q1223 : a_g A1219 2 = 2 := (w1220 2 (by omega) (by omega)).trans (if_pos rfl)
          have z1224 := s1217.1
          have z1224y := s1217.2.1
          have z1224w := s1217.2.2.2.2 z1215w
          refine w_il (fun _ => rfl) (w_icI (x := 1) rfl (w_op (c := w_i (((0 + 1) + 1) + 1)) (i_add ((0 + 1) + 1) 1) (w_il (fun _ => rfl) (w_gef (by omega) (by omega) (by omega) (by omega) (by omega)  (w_al (fun _ => rfl) ?_)))))
          have m1225 := st_fr s1217 m1216 (by decide)
          refine w_getf m1225 rfl (fun _ => rfl) (w_il (fun _ => rfl) (w_dup2 (fun _ => rfl) (fun _ => rfl) (w_aldI s1217.2.2.1 (by omega) (by omega) (by omega) ?_)))
          rw [q1223]
          refine w_icI (x := 1) rfl (w_il (fun _ => rfl) (w_icI (x := 1) rfl (w_op (c := w_i (((0 + 1) + 1) + 1)) (i_add ((0 + 1) + 1) 1) (w_op (c := w_i 8) (by decide +kernel) (w_op (c := w_i 10) (by decide +kernel) (w_astI s1217.2.2.1 (by omega) (by omega) (by omega) (by omega) (by omega) (fun A1228 h1227 w1229 s1226 => ?_)))))))
          have q1230 : a_g A1228 0 = 2 := ((w1229 0 (by omega) (by omega)).trans (if_neg (by omega))).trans q1221
          have q1231 : a_g A1228 1 = 5 := ((w1229 1 (by omega) (by omega)).trans (if_neg (by omega))).trans q1222
          have q1232 : a_g A1228 2 = 10 := (w1229 2 (by omega) (by omega)).trans (if_pos rfl)
          have z1233 := s1226.1
          have z1233y := s1226.2.1
          have z1233w := s1226.2.2.2.2 z1224w
          refine w_al (fun _ => rfl) ?_
          have m1234 := st_fr s1226 m1225 (by decide)
          refine w_getf m1234 rfl (fun _ => rfl) (w_il (fun _ => rfl) (w_il (fun _ => rfl) (w_icI (x := 2) rfl (w_opz (c := w_i 0) (by decide +kernel) (by decide +kernel) ?_))))
          have m1235 := st_fr s1198 s1186.2.2.1 (by decide)
          have m1236 := st_fr s1208 m1235 (by decide)
          have m1237 := st_fr s1217 m1236 (by decide)
          have m1238 := st_fr s1226 m1237 (by decide)
          refine w_astI m1238 (by omega) (by omega) (by omega) (by omega) (by omega) (fun A1241 h1240 w1242 s1239 => ?_)
          have q1243 : a_g A1241 0 = 0 := ((w1242 0 (by omega) (by omega)).trans (if_neg (by omega))).trans q1190
          have q1244 : a_g A1241 1 = 1 := ((w1242 1 (by omega) (by omega)).trans (if_neg (by omega))).trans q1191
          have q1245 : a_g A1241 2 = 0 := (w1242 2 (by omega) (by omega)).trans (if_pos rfl)
          have z1246 := s1239.1
          have z1246y := s1239.2.1
          have z1246w := s1239.2.2.2.2 z1233w
          refine w_al (fun _ => rfl) ?_
          have m1247 := st_fr s1239 m1234 (by decide)
          refine w_getf m1247 rfl (fun _ => rfl) (w_il (fun _ => rfl) (w_icI (x := (-1)) wn_1 ?_))
          have m1248 := st_fr s1208 s1198.2.2.1 (by decide)
          have m1249 := st_fr s1217 m1248 (by decide)
          have m1250 := st_fr s1226 m1249 (by decide)
          have m1251 := st_fr s1239 m1250 (by decide)
          refine w_astI m1251 (by omega) (by omega) (by omega) (by omega) (by omega) (fun A1254 h1253 w1255 s1252 => ?_)
          have q1256 : a_g A1254 0 = (-1) := ((w1255 0 (by omega) (by omega)).trans (if_neg (by omega))).trans q1202
          have q1257 : a_g A1254 1 = (-1) := ((w1255 1 (by omega) (by omega)).trans (if_neg (by omega))).trans q1203
          have q1258 : a_g A1254 2 = (-1) := (w1255 2 (by omega) (by omega)).trans (if_pos rfl)
          have z1259 := s1252.1
          have z1259y := s1252.2.1
          have z1259w := s1252.2.2.2.2 z1246w
          refine w_inc (c := w_i (((0 + 1) + 1) + 1)) (fun _ => rfl) (i_addL (y := 1) rfl ((0 + 1) + 1)) (fun _ => rfl) (w_go (w_run k_577548 (w_il (fun _ => rfl) (w_icI (x := 6) rfl (w_gef (by omega) (by omega) (by omega) (by omega) (by omega)  (w_al (fun _ => rfl) ?_))))))
          have m1260 := st_fr s1252 m1247 (by decide)
          refine w_getf m1260 rfl (fun _ => rfl) (w_il (fun _ => rfl) (w_icI (x := 0) rfl ?_))
          have m1261 := st_fr s1239 s1226.2.2.1 (by decide)
          have m1262 := st_fr s1252 m1261 (by decide)
          refine w_astI m1262 (by omega) (by omega) (by omega) (by omega) (by omega) (fun A1265 h1264 w1266 s1263 => ?_)
          have q1267 : a_g A1265 0 = 2 := ((w1266 0 (by omega) (by omega)).trans (if_neg (by omega))).trans q1230
          have q1268 : a_g A1265 1 = 5 := ((w1266 1 (by omega) (by omega)).trans (if_neg (by omega))).trans q1231
          have q1269 : a_g A1265 2 = 10 := ((w1266 2 (by omega) (by omega)).trans (if_neg (by omega))).trans q1232
          have q1270 : a_g A1265 3 = 0 := (w1266 3 (by omega) (by omega)).trans (if_pos rfl)
          have z1271 := s1263.1
          have z1271y := s1263.2.1
          have z1271w := s1263.2.2.2.2 z1259w
          refine w_il (fun _ => rfl) (w_lezf (by omega) (by omega) (by omega)  (w_il (fun _ => rfl) (w_il (fun _ => rfl) (w_gef (by omega) (by omega) (by omega) (by omega) (by omega)  (w_al (fun _ => rfl) ?_)))))
          have m1272 := st_fr s1263 m1260 (by decide)
          refine w_getf m1272 rfl (fun _ => rfl) (w_il (fun _ => rfl) (w_dup2 (fun _ => rfl) (fun _ => rfl) (w_aldI s1263.2.2.1 (by omega) (by omega) (by omega) ?_)))
          rw [q1270]
          refine w_icI (x := 1) rfl (w_il (fun _ => rfl) (w_icI (x := 1) rfl (w_op (c := w_i ((((0 + 1) + 1) + 1) - 1)) (i_sub (((0 + 1) + 1) + 1) 1) (w_op (c := w_i 4) (by decide +kernel) (w_op (c := w_i 4) (by decide +kernel) (w_astI s1263.2.2.1 (by omega) (by omega) (by omega) (by omega) (by omega) (fun A1275 h1274 w1276 s1273 => ?_)))))))
          have q1277 : a_g A1275 0 = 2 := ((w1276 0 (by omega) (by omega)).trans (if_neg (by omega))).trans q1267
          have q1278 : a_g A1275 1 = 5 := ((w1276 1 (by omega) (by omega)).trans (if_neg (by omega))).trans q1268
          have q1279 : a_g A1275 2 = 10 := ((w1276 2 (by omega) (by omega)).trans (if_neg (by omega))).trans q1269
          have q1280 : a_g A1275 3 = 4 := (w1276 3 (by omega) (by omega)).trans (if_pos rfl)
          have z1281 := s1273.1
          have z1281y := s1273.2.1
          have z1281w := s1273.2.2.2.2 z1271w
          refine w_il (fun _ => rfl) (w_icI (x := 1) rfl (w_op (c := w_i ((((0 + 1) + 1) + 1) + 1)) (i_add (((0 + 1) + 1) + 1) 1) (w_il (fun _ => rfl) (w_gef (by omega) (by omega) (by omega) (by omega) (by omega)  (w_al (fun _ => rfl) ?_)))))
          have m1282 := st_fr s1273 m1272 (by decide)
          refine w_getf m1282 rfl (fun _ => rfl) (w_il (fun _ => rfl) (w_dup2 (fun _ => rfl) (fun _ => rfl) (w_aldI s1273.2.2.1 (by omega) (by omega) (by omega) ?_)))
          rw [q1280]
          refine w_icI (x := 1) rfl (w_il (fun _ => rfl) (w_icI (x := 1) rfl (w_op (c := w_i ((((0 + 1) + 1) + 1) + 1)) (i_add (((0 + 1) + 1) + 1) 1) (w_op (c := w_i 16) (by decide +kernel) (w_op (c := w_i 20) (by decide +kernel) (w_astI s1273.2.2.1 (by omega) (by omega) (by omega) (by omega) (by omega) (fun A1285 h1284 w1286 s1283 => ?_)))))))
          have q1287 : a_g A1285 0 = 2 := ((w1286 0 (by omega) (by omega)).trans (if_neg (by omega))).trans q1277
          have q1288 : a_g A1285 1 = 5 := ((w1286 1 (by omega) (by omega)).trans (if_neg (by omega))).trans q1278
          have q1289 : a_g A1285 2 = 10 := ((w1286 2 (by omega) (by omega)).trans (if_neg (by omega))).trans q1279
          have q1290 : a_g A1285 3 = 20 := (w1286 3 (by omega) (by omega)).trans (if_pos rfl)
          have z1291 := s1283.1
          have z1291y := s1283.2.1
          have z1291w := s1283.2.2.2.2 z1281w
          refine w_al (fun _ => rfl) ?_
          have m1292 := st_fr s1283 m1282 (by decide)
          refine w_getf m1292 rfl (fun _ => rfl) (w_il (fun _ => rfl) (w_il (fun _ => rfl) (w_icI (x := 2) rfl (w_opz (c := w_i 1) (by decide +kernel) (by decide +kernel) ?_))))
          have m1293 := st_fr s1252 s1239.2.2.1 (by decide)
          have m1294 := st_fr s1263 m1293 (by decide)
          have m1295 := st_fr s1273 m1294 (by decide)
          have m1296 := st_fr s1283 m1295 (by decide)
          refine w_astI m1296 (by omega) (by omega) (by omega) (by omega) (by omega) (fun A1299 h1298 w1300 s1297 => ?_)
          have q1301 : a_g A1299 0 = 0 := ((w1300 0 (by omega) (by omega)).trans (if_neg (by omega))).trans q1243
          have q1302 : a_g A1299 1 = 1 := ((w1300 1 (by omega) (by omega)).trans (if_neg (by omega))).trans q1244
          have q1303 : a_g A1299 2 = 0 := ((w1300 2 (by omega) (by omega)).trans (if_neg (by omega))).trans q1245
          have q1304 : a_g A1299 3 = 1 := (w1300 3 (by omega) (by omega)).trans (if_pos rfl)
          have z1305 := s1297.1
          have z1305y := s1297.2.1
          have z1305w := s1297.2.2.2.2 z1291w
          refine w_al (fun _ => rfl) ?_
          have m1306 := st_fr s1297 m1292 (by decide)
          refine w_getf m1306 rfl (fun _ => rfl) (w_il (fun _ => rfl) (w_icI (x := (-1)) wn_1 ?_))
          have m1307 := st_fr s1263 s1252.2.2.1 (by decide)
          have m1308 := st_fr s1273 m1307 (by decide)
          have m1309 := st_fr s1283 m1308 (by decide)
          have m1310 := st_fr s1297 m1309 (by decide)
          refine w_astI m1310 (by omega) (by omega) (by omega) (by omega) (by omega) (fun A1313 h1312 w1314 s1311 => ?_)
          have q1315 : a_g A1313 0 = (-1) := ((w1314 0 (by omega) (by omega)).trans (if_neg (by omega))).trans q1256
          have q1316 : a_g A1313 1 = (-1) := ((w1314 1 (by omega) (by omega)).trans (if_neg (by omega))).trans q1257
          have q1317 : a_g A1313 2 = (-1) := ((w1314 2 (by omega) (by omega)).trans (if_neg (by omega))).trans q1258
          have q1318 : a_g A1313 3 = (-1) := (w1314 3 (by omega) (by omega)).trans (if_pos rfl)
          have z1319 := s1311.1
          have z1319y := s1311.2.1
          have z1319w := s1311.2.2.2.2 z1305w
          refine w_inc (c := w_i ((((0 + 1) + 1) + 1) + 1)) (fun _ => rfl) (i_addL (y := 1) rfl (((0 + 1) + 1) + 1)) (fun _ => rfl) (w_go (w_run k_577548 (w_il (fun _ => rfl) (w_icI (x := 6) rfl (w_gef (by omega) (by omega) (by omega) (by omega) (by omega)  (w_al (fun _ => rfl) ?_))))))
          have m1320 := st_fr s1311 m1306 (by decide)
          refine w_getf m1320 rfl (fun _ => rfl) (w_il (fun _ => rfl) (w_icI (x := 0) rfl ?_))
          have m1321 := st_fr s1297 s1283.2.2.1 (by decide)
          have m1322 := st_fr s1311 m1321 (by decide)
          refine w_astI m1322 (by omega) (by omega) (by omega) (by omega) (by omega) (fun A1325 h1324 w1326 s1323 => ?_)
          have q1327 : a_g A1325 0 = 2 := ((w1326 0 (by omega) (by omega)).trans (if_neg (by omega))).trans q1287
          have q1328 : a_g A1325 1 = 5 := ((w1326 1 (by omega) (by omega)).trans (if_neg (by omega))).trans q1288
          have q1329 : a_g A1325 2 = 10 := ((w1326 2 (by omega) (by omega)).trans (if_neg (by omega))).trans q1289
          have q1330 : a_g A1325 3 = 20 := ((w1326 3 (by omega) (by omega)).trans (if_neg (by omega))).trans q1290
          have q1331 : a_g A1325 4 = 0 := (w1326 4 (by omega) (by omega)).trans (if_pos rfl)
          have z1332 := s1323.1
          have z1332y := s1323.2.1
          have z1332w := s1323.2.2.2.2 z1319w
          refine w_il (fun _ => rfl) (w_lezf (by omega) (by omega) (by omega)  (w_il (fun _ => rfl) (w_il (fun _ => rfl) (w_gef (by omega) (by omega) (by omega) (by omega) (by omega)  (w_al (fun _ => rfl) ?_)))))
          have m1333 := st_fr s1323 m1320 (by decide)
          refine w_getf m1333 rfl (fun _ => rfl) (w_il (fun _ => rfl) (w_dup2 (fun _ => rfl) (fun _ => rfl) (w_aldI s1323.2.2.1 (by omega) (by omega) (by omega) ?_)))
          rw [q1331]
          refine w_icI (x := 1) rfl (w_il (fun _ => rfl) (w_icI (x := 1) rfl (w_op (c := w_i (((((0 + 1) + 1) + 1) + 1) - 1)) (i_sub ((((0 + 1) + 1) + 1) + 1) 1) (w_op (c := w_i 8) (by decide +kernel) (w_op (c := w_i 8) (by decide +kernel) (w_astI s1323.2.2.1 (by omega) (by omega) (by omega) (by omega) (by omega) (fun A1336 h1335 w1337 s1334 => ?_)))))))
          have q1338 : a_g A1336 0 = 2 := ((w1337 0 (by omega) (by omega)).trans (if_neg (by omega))).trans q1327
          have q1339 : a_g A1336 1 = 5 := ((w1337 1 (by omega) (by omega)).trans (if_neg (by omega))).trans q1328
          have q1340 : a_g A1336 2 = 10 := ((w1337 2 (by omega) (by omega)).trans (if_neg (by omega))).trans q1329
          have q1341 : a_g A1336 3 = 20 := ((w1337 3 (by omega) (by omega)).trans (if_neg (by omega))).trans q1330
          have q1342 : a_g A1336 4 = 8 := (w1337 4 (by omega) (by omega)).trans (if_pos rfl)
          have z1343 := s1334.1
          have z1343y := s1334.2.1
          have z1343w := s1334.2.2.2.2 z1332w
          refine w_il (fun _ => rfl) (w_icI (x := 1) rfl (w_op (c := w_i (((((0 + 1) + 1) + 1) + 1) + 1)) (i_add ((((0 + 1) + 1) + 1) + 1) 1) (w_il (fun _ => rfl) (w_get (by omega) (by omega) (by omega) (by omega) (by omega)  (w_run k_577605 (w_al (fun _ => rfl) ?_))))))
          have m1344 := st_fr s1334 m1333 (by decide)
          refine w_getf m1344 rfl (fun _ => rfl) (w_il (fun _ => rfl) (w_il (fun _ => rfl) (w_icI (x := 2) rfl (w_opz (c := w_i 0) (by decide +kernel) (by decide +kernel) ?_))))
          have m1345 := st_fr s1311 s1297.2.2.1 (by decide)
          have m1346 := st_fr s1323 m1345 (by decide)
          have m1347 := st_fr s1334 m1346 (by decide)
          refine w_astI m1347 (by omega) (by omega) (by omega) (by omega) (by omega) (fun A1350 h1349 w1351 s1348 => ?_)
          have q1352 : a_g A1350 0 = 0 := ((w1351 0 (by omega) (by omega)).trans (if_neg (by omega))).trans q1301
          have q1353 : a_g A1350 1 = 1 := ((w1351 1 (by omega) (by omega)).trans (if_neg (by omega))).trans q1302
          have q1354 : a_g A1350 2 = 0 := ((w1351 2 (by omega) (by omega)).trans (if_neg (by omega))).trans q1303
          have q1355 : a_g A1350 3 = 1 := ((w1351 3 (by omega) (by omega)).trans (if_neg (by omega))).trans q1304
          have q1356 : a_g A1350 4 = 0 := (w1351 4 (by omega) (by omega)).trans (if_pos rfl)
          have z1357 := s1348.1
          have z1357y := s1348.2.1
          have z1357w := s1348.2.2.2.2 z1343w
          refine w_al (fun _ => rfl) ?_
          have m1358 := st_fr s1348 m1344 (by decide)
          refine w_getf m1358 rfl (fun _ => rfl) (w_il (fun _ => rfl) (w_icI (x := (-1)) wn_1 ?_))
          have m1359 := st_fr s1323 s1311.2.2.1 (by decide)
          have m1360 := st_fr s1334 m1359 (by decide)
          have m1361 := st_fr s1348 m1360 (by decide)
          refine w_astI m1361 (by omega) (by omega) (by omega) (by omega) (by omega) (fun A1364 h1363 w1365 s1362 => ?_)
          have q1366 : a_g A1364 0 = (-1) := ((w1365 0 (by omega) (by omega)).trans (if_neg (by omega))).trans q1315
          have q1367 : a_g A1364 1 = (-1) := ((w1365 1 (by omega) (by omega)).trans (if_neg (by omega))).trans q1316
          have q1368 : a_g A1364 2 = (-1) := ((w1365 2 (by omega) (by omega)).trans (if_neg (by omega))).trans q1317
          have q1369 : a_g A1364 3 = (-1) := ((w1365 3 (by omega) (by omega)).trans (if_neg (by omega))).trans q1318
          have q1370 : a_g A1364 4 = (-1) := (w1365 4 (by omega) (by omega)).trans (if_pos rfl)
          have z1371 := s1362.1
          have z1371y := s1362.2.1
          have z1371w := s1362.2.2.2.2 z1357w
          refine w_inc (c := w_i (((((0 + 1) + 1) + 1) + 1) + 1)) (fun _ => rfl) (i_addL (y := 1) rfl ((((0 + 1) + 1) + 1) + 1)) (fun _ => rfl) (w_go (w_run k_577548 (w_il (fun _ => rfl) (w_icI (x := 6) rfl (w_gef (by omega) (by omega) (by omega) (by omega) (by omega)  (w_al (fun _ => rfl) ?_))))))
          have m1372 := st_fr s1362 m1358 (by decide)
          refine w_getf m1372 rfl (fun _ => rfl) (w_il (fun _ => rfl) (w_icI (x := 0) rfl ?_))
          have m1373 := st_fr s1348 s1334.2.2.1 (by decide)
          have m1374 := st_fr s1362 m1373 (by decide)
          refine w_astI m1374 (by omega) (by omega) (by omega) (by omega) (by omega) (fun A1377 h1376 w1378 s1375 => ?_)
          have q1379 : a_g A1377 0 = 2 := ((w1378 0 (by omega) (by omega)).trans (if_neg (by omega))).trans q1338
          have q1380 : a_g A1377 1 = 5 := ((w1378 1 (by omega) (by omega)).trans (if_neg (by omega))).trans q1339
          have q1381 : a_g A1377 2 = 10 := ((w1378 2 (by omega) (by omega)).trans (if_neg (by omega))).trans q1340
          have q1382 : a_g A1377 3 = 20 := ((w1378 3 (by omega) (by omega)).trans (if_neg (by omega))).trans q1341
          have q1383 : a_g A1377 4 = 8 := ((w1378 4 (by omega) (by omega)).trans (if_neg (by omega))).trans q1342
          have q1384 : a_g A1377 5 = 0 := (w1378 5 (by omega) (by omega)).trans (if_pos rfl)
          have z1385 := s1375.1
          have z1385y := s1375.2.1
          have z1385w := s1375.2.2.2.2 z1371w
          refine w_il (fun _ => rfl) (w_lezf (by omega) (by omega) (by omega)  (w_il (fun _ => rfl) (w_il (fun _ => rfl) (w_get (by omega) (by omega) (by omega) (by omega) (by omega)  (w_run k_577584 (w_il (fun _ => rfl) (w_icI (x := 1) rfl (w_op (c := w_i ((((((0 + 1) + 1) + 1) + 1) + 1) + 1)) (i_add (((((0 + 1) + 1) + 1) + 1) + 1) 1) (w_il (fun _ => rfl) (w_get (by omega) (by omega) (by omega) (by omega) (by omega)  (w_run k_577605 (w_al (fun _ => rfl) ?_))))))))))))
          have m1386 := st_fr s1375 m1372 (by decide)
          refine w_getf m1386 rfl (fun _ => rfl) (w_il (fun _ => rfl) (w_il (fun _ => rfl) (w_icI (x := 2) rfl (w_opz (c := w_i 1) (by decide +kernel) (by decide +kernel) ?_))))
          have m1387 := st_fr s1362 s1348.2.2.1 (by decide)
          have m1388 := st_fr s1375 m1387 (by decide)
          refine w_astI m1388 (by omega) (by omega) (by omega) (by omega) (by omega) (fun A1391 h1390 w1392 s1389 => ?_)
          have q1393 : a_g A1391 0 = 0 := ((w1392 0 (by omega) (by omega)).trans (if_neg (by omega))).trans q1352
          have q1394 : a_g A1391 1 = 1 := ((w1392 1 (by omega) (by omega)).trans (if_neg (by omega))).trans q1353
          have q1395 : a_g A1391 2 = 0 := ((w1392 2 (by omega) (by omega)).trans (if_neg (by omega))).trans q1354
          have q1396 : a_g A1391 3 = 1 := ((w1392 3 (by omega) (by omega)).trans (if_neg (by omega))).trans q1355
          have q1397 : a_g A1391 4 = 0 := ((w1392 4 (by omega) (by omega)).trans (if_neg (by omega))).trans q1356
          have q1398 : a_g A1391 5 = 1 := (w1392 5 (by omega) (by omega)).trans (if_pos rfl)
          have z1399 := s1389.1
          have z1399y := s1389.2.1
          have z1399w := s1389.2.2.2.2 z1385w
          refine w_al (fun _ => rfl) ?_
          have m1400 := st_fr s1389 m1386 (by decide)
          refine w_getf m1400 rfl (fun _ => rfl) (w_il (fun _ => rfl) (w_icI (x := (-1)) wn_1 ?_))
          have m1401 := st_fr s1375 s1362.2.2.1 (by decide)
          have m1402 := st_fr s1389 m1401 (by decide)
          refine w_astI m1402 (by omega) (by omega) (by omega) (by omega) (by omega) (fun A1405 h1404 w1406 s1403 => ?_)
          have q1407 : a_g A1405 0 = (-1) := ((w1406 0 (by omega) (by omega)).trans (if_neg (by omega))).trans q1366
          have q1408 : a_g A1405 1 = (-1) := ((w1406 1 (by omega) (by omega)).trans (if_neg (by omega))).trans q1367
          have q1409 : a_g A1405 2 = (-1) := ((w1406 2 (by omega) (by omega)).trans (if_neg (by omega))).trans q1368
          have q1410 : a_g A1405 3 = (-1) := ((w1406 3 (by omega) (by omega)).trans (if_neg (by omega))).trans q1369
          have q1411 : a_g A1405 4 = (-1) := ((w1406 4 (by omega) (by omega)).trans (if_neg (by omega))).trans q1370
          have q1412 : a_g A1405 5 = (-1) := (w1406 5 (by omega) (by omega)).trans (if_pos rfl)
          have z1413 := s1403.1
          have z1413y := s1403.2.1
          have z1413w := s1403.2.2.2.2 z1399w
          refine w_inc (c := w_i ((((((0 + 1) + 1) + 1) + 1) + 1) + 1)) (fun _ => rfl) (i_addL (y := 1) rfl (((((0 + 1) + 1) + 1) + 1) + 1)) (fun _ => rfl) (w_go (w_run k_577548 (w_il (fun _ => rfl) (w_icI (x := 6) rfl (w_get (by omega) (by omega) (by omega) (by omega) (by omega)  (w_run k_577627 (w_al (fun _ => rfl) (w_icI (x := 0) rfl ?_))))))))
          have m1414 := st_fr s1403 m1400 (by decide)
          refine w_putf [.inr (.inl (some 32)), .inr (.inl (some 33)), .inr (.inl (some 34)), .inr (.inl (some 35)), .inr (.inl (some 36)), .inl (w_i hh), .inl (w_i c), .inl (w_i 0), .inl (w_i kee14), .inl (w_i (g_mnp g)), .inl (w_i rul14), .inl (w_i (g_mhi g)), .inr (.inl (some 37)), .inr (.inl (some 50)), .inr (.inl (some 51)), .inr (.inl (some 52)), .inr (.inl (some 53)), .inr (.inl (some 54)), .inl (w_i tpd14), .inl (w_i (g_mnt g)), .inl (w_i nxt14), .inl (w_i tok14), .inl (w_i tka14), .inl (w_i val14), .inl (w_i opn14), .inl (w_i hm14), .inl (w_i row14), .inr (.inl (some 55)), .inr (.inl (some 56)), .inr (.inl (some 57)), .inr (.inl (some 58)), .inr (.inl (some 59)), .inr (.inl (some 60)), .inr (.inl (some 61)), .inr (.inl (some 62)), .inl (w_i ksp14), .inl (w_i kke14), .inl (w_i kru14), .inr (.inl (some 63)), .inr (.inl (some 64)), .inr (.inl (some 65)), .inr (.inl (some 66))] m1414 rfl rfl rfl (fun _ => rfl) (fun h1416 s1415 => ?_)
          have z1418 := s1415.1
          have z1418y := s1415.2.1
          have z1418w := s1415.2.2.2.2 z1413w
          refine w_al (fun _ => rfl) (w_icI (x := 0) rfl (w_putf [.inr (.inl (some 32)), .inr (.inl (some 33)), .inr (.inl (some 34)), .inr (.inl (some 35)), .inr (.inl (some 36)), .inl (w_i hh), .inl (w_i c), .inl (w_i 0), .inl (w_i 0), .inl (w_i (g_mnp g)), .inl (w_i rul14), .inl (w_i (g_mhi g)), .inr (.inl (some 37)), .inr (.inl (some 50)), .inr (.inl (some 51)), .inr (.inl (some 52)), .inr (.inl (some 53)), .inr (.inl (some 54)), .inl (w_i tpd14), .inl (w_i (g_mnt g)), .inl (w_i nxt14), .inl (w_i tok14), .inl (w_i tka14), .inl (w_i val14), .inl (w_i opn14), .inl (w_i hm14), .inl (w_i row14), .inr (.inl (some 55)), .inr (.inl (some 56)), .inr (.inl (some 57)), .inr (.inl (some 58)), .inr (.inl (some 59)), .inr (.inl (some 60)), .inr (.inl (some 61)), .inr (.inl (some 62)), .inl (w_i ksp14), .inl (w_i kke14), .inl (w_i kru14), .inr (.inl (some 63)), .inr (.inl (some 64)), .inr (.inl (some 65)), .inr (.inl (some 66))] s1415.2.2.1 rfl rfl rfl (fun _ => rfl) (fun h1420 s1419 => ?_)))
          have z1422 := s1419.1
          have z1422y := s1419.2.1
          have z1422w := s1419.2.2.2.2 z1418w
          refine w_al (fun _ => rfl) (w_icI (x := 0) rfl (w_putf [.inr (.inl (some 32)), .inr (.inl (some 33)), .inr (.inl (some 34)), .inr (.inl (some 35)), .inr (.inl (some 36)), .inl (w_i hh), .inl (w_i c), .inl (w_i 0), .inl (w_i 0), .inl (w_i (g_mnp g)), .inl (w_i rul14), .inl (w_i 0), .inr (.inl (some 37)), .inr (.inl (some 50)), .inr (.inl (some 51)), .inr (.inl (some 52)), .inr (.inl (some 53)), .inr (.inl (some 54)), .inl (w_i tpd14), .inl (w_i (g_mnt g)), .inl (w_i nxt14), .inl (w_i tok14), .inl (w_i tka14), .inl (w_i val14), .inl (w_i opn14), .inl (w_i hm14), .inl (w_i row14), .inr (.inl (some 55)), .inr (.inl (some 56)), .inr (.inl (some 57)), .inr (.inl (some 58)), .inr (.inl (some 59)), .inr (.inl (some 60)), .inr (.inl (some 61)), .inr (.inl (some 62)), .inl (w_i ksp14), .inl (w_i kke14), .inl (w_i kru14), .inr (.inl (some 63)), .inr (.inl (some 64)), .inr (.inl (some 65)), .inr (.inl (some 66))] s1419.2.2.1 rfl rfl rfl (fun _ => rfl) (fun h1424 s1423 => ?_)))
          have z1426 := s1423.1
          have z1426y := s1423.2.1
          have z1426w := s1423.2.2.2.2 z1422w
          refine w_rv ⟨rfl, ?_⟩
          refine w_il (fun _ => rfl) (w_ri ?_)
          have F1 := F.1
          have F2 := F.2.1
          have m1427 := st_fr s1389 s1375.2.2.1 (by decide)
          have m1428 := st_fr s1403 m1427 (by decide)
          have m1429 := st_fr s1415 m1428 (by decide)
          have m1430 := st_fr s1419 m1429 (by decide)
          have m1431 := st_fr s1423 m1430 (by decide)
          have gz : g_mnt (g_mbu g hh c A1377) = g_mnt g := rfl
          have m1432 := st_fr s1403 s1389.2.2.1 (by decide)
          have m1433 := st_fr s1415 m1432 (by decide)
          have m1434 := st_fr s1419 m1433 (by decide)
          have m1435 := st_fr s1423 m1434 (by decide)
          have m1436 := st_fr s1415 s1403.2.2.1 (by decide)
          have m1437 := st_fr s1419 m1436 (by decide)
          have m1438 := st_fr s1423 m1437 (by decide)
          have ivn := mbu_fin (e := _) (hh := hh) (c := c) iv (by omega) (by omega) (by omega) (by omega) (by omega) z1426w (by omega) (fun q n31 n32 n33 n34 => (s1423.2.2.2.1 q n31).trans ((s1419.2.2.2.1 q n31).trans ((s1415.2.2.2.1 q n31).trans ((s1403.2.2.2.1 q n34).trans ((s1389.2.2.2.1 q n33).trans ((s1375.2.2.2.1 q n32).trans ((s1362.2.2.2.1 q n34).trans ((s1348.2.2.2.1 q n33).trans ((s1334.2.2.2.1 q n32).trans ((s1323.2.2.2.1 q n32).trans ((s1311.2.2.2.1 q n34).trans ((s1297.2.2.2.1 q n33).trans ((s1283.2.2.2.1 q n32).trans ((s1273.2.2.2.1 q n32).trans ((s1263.2.2.2.1 q n32).trans ((s1252.2.2.2.1 q n34).trans ((s1239.2.2.2.1 q n33).trans ((s1226.2.2.2.1 q n32).trans ((s1217.2.2.2.1 q n32).trans ((s1208.2.2.2.1 q n32).trans ((s1198.2.2.2.1 q n34).trans ((s1186.2.2.2.1 q n33).trans ((s1174.2.2.2.1 q n32).trans ((s1166.2.2.2.1 q n32).trans ((s1158.2.2.2.1 q n32).trans ((s1149.2.2.2.1 q n34).trans ((s1137.2.2.2.1 q n33).trans ((s1126.2.2.2.1 q n32).trans ((s1119.2.2.2.1 q n32).trans ((s1113.2.2.2.1 q n31).trans ((s1109.2.2.2.1 q n31).trans (rfl)))))))))))))))))))))))))))))))) s1423.2.2.1 ⟨_, _, _, _, _, _, _, _, _, _, _, _, _, _, rfl, by omega, by omega, by omega, by omega, by omega, by omega, by omega, by omega, by omega, by omega, by omega, by omega, by omega, by omega, by omega, by omega, by omega, by omega, by omega, by omega, by omega, by omega, by omega, by omega, by omega, by omega, by omega, by omega, by omega, by omega, by omega, by omega, by omega, by omega, by omega, by omega, by omega, by omega⟩ m1431 (fun j j0 j1 => by rcases (show j = 0 ∨ j = 1 ∨ j = 2 ∨ j = 3 ∨ j = 4 ∨ j = 5 from by omega) with rfl | rfl | rfl | rfl | rfl | rfl <;> [(rw [q1379]; omega); (rw [q1380]; omega); (rw [q1381]; omega); (rw [q1382]; omega); (rw [q1383]; omega); (rw [q1384]; omega)]) m1435 (fun j j0 j1 => by rcases (show j = 0 ∨ j = 1 ∨ j = 2 ∨ j = 3 ∨ j = 4 ∨ j = 5 from by omega) with rfl | rfl | rfl | rfl | rfl | rfl <;> [(rw [q1393]; omega); (rw [q1394]; omega); (rw [q1395]; omega); (rw [q1396]; omega); (rw [q1397]; omega); (rw [q1398]; omega)]) ⟨_, m1438⟩
          exact k0 _ (g_mbu g hh c A1377) h1424 ivn ch_gmbu (by omega) (by omega)
        · refine w_al (fun _ => rfl) (w_il (fun _ => rfl) (w_il (fun _ => rfl) (w_this (fun _ => rfl) m14 (w_cv (fun _ => rfl) rfl (w_run k_577536 (w_al (fun _ => rfl) (w_il (fun _ => rfl) (w_putf [.inr (.inl (some 32)), .inr (.inl (some 33)), .inr (.inl (some 34)), .inr (.inl (some 35)), .inr (.inl (some 36)), .inl (w_i hh), .inl (w_i (g_mC g)), .inl (w_i spr14), .inl (w_i kee14), .inl (w_i (g_mnp g)), .inl (w_i rul14), .inl (w_i (g_mhi g)), .inr (.inl (some 37)), .inr (.inl (some 50)), .inr (.inl (some 51)), .inr (.inl (some 52)), .inr (.inl (some 53)), .inr (.inl (some 54)), .inl (w_i tpd14), .inl (w_i (g_mnt g)), .inl (w_i nxt14), .inl (w_i tok14), .inl (w_i tka14), .inl (w_i val14), .inl (w_i opn14), .inl (w_i hm14), .inl (w_i row14), .inr (.inl (some 55)), .inr (.inl (some 56)), .inr (.inl (some 57)), .inr (.inl (some 58)), .inr (.inl (some 59)), .inr (.inl (some 60)), .inr (.inl (some 61)), .inr (.inl (some 62)), .inl (w_i ksp14), .inl (w_i kke14), .inl (w_i kru14), .inr (.inl (some 63)), .inr (.inl (some 64)), .inr (.inl (some 65)), .inr (.inl (some 66))] m14 rfl rfl rfl (fun _ => rfl) (fun h1440 s1439 => ?_)))))))))
          have z1442 := s1439.1
          have z1442y := s1439.2.1
          have z1442w := s1439.2.2.2.2 z18w
          refine w_al (fun _ => rfl) (w_il (fun _ => rfl) (w_putf [.inr (.inl (some 32)), .inr (.inl (some 33)), .inr (.inl (some 34)), .inr (.inl (some 35)), .inr (.inl (some 36)), .inl (w_i hh), .inl (w_i c), .inl (w_i spr14), .inl (w_i kee14), .inl (w_i (g_mnp g)), .inl (w_i rul14), .inl (w_i (g_mhi g)), .inr (.inl (some 37)), .inr (.inl (some 50)), .inr (.inl (some 51)), .inr (.inl (some 52)), .inr (.inl (some 53)), .inr (.inl (some 54)), .inl (w_i tpd14), .inl (w_i (g_mnt g)), .inl (w_i nxt14), .inl (w_i tok14), .inl (w_i tka14), .inl (w_i val14), .inl (w_i opn14), .inl (w_i hm14), .inl (w_i row14), .inr (.inl (some 55)), .inr (.inl (some 56)), .inr (.inl (some 57)), .inr (.inl (some 58)), .inr (.inl (some 59)), .inr (.inl (some 60)), .inr (.inl (some 61)), .inr (.inl (some 62)), .inl (w_i ksp14), .inl (w_i kke14), .inl (w_i kru14), .inr (.inl (some 63)), .inr (.inl (some 64)), .inr (.inl (some 65)), .inr (.inl (some 66))] s1439.2.2.1 rfl rfl rfl (fun _ => rfl) (fun h1444 s1443 => ?_)))
          have z1446 := s1443.1
          have z1446y := s1443.2.1
          have z1446w := s1443.2.2.2.2 z1442w
          refine w_icI (x := 0) rfl (w_is (fun _ => rfl) (w_il (fun _ => rfl) (w_icI (x := 6) rfl (w_gef (by omega) (by omega) (by omega) (by omega) (by omega)  (w_al (fun _ => rfl) (w_getf s1443.2.2.1 rfl (fun _ => rfl) (w_il (fun _ => rfl) (w_icI (x := 0) rfl ?_))))))))
          have m1447 := st_fr s1439 m15 (by decide)
          have m1448 := st_fr s1443 m1447 (by decide)
          refine w_astI m1448 (by omega) (by omega) (by omega) (by omega) (by omega) (fun A1451 h1450 w1452 s1449 => ?_)
          have q1453 : a_g A1451 0 = 0 := (w1452 0 (by omega) (by omega)).trans (if_pos rfl)
          have z1454 := s1449.1
          have z1454y := s1449.2.1
          have z1454w := s1449.2.2.2.2 z1446w
          refine w_il (fun _ => rfl) (w_lezt (by omega) (by omega) (by omega)  (w_run k_577584 (w_il (fun _ => rfl) (w_icI (x := 1) rfl (w_op (c := w_i (0 + 1)) (i_add 0 1) (w_il (fun _ => rfl) (w_gef (by omega) (by omega) (by omega) (by omega) (by omega)  (w_al (fun _ => rfl) ?_))))))))
          have m1455 := st_fr s1449 s1443.2.2.1 (by decide)
          refine w_getf m1455 rfl (fun _ => rfl) (w_il (fun _ => rfl) (w_dup2 (fun _ => rfl) (fun _ => rfl) (w_aldI s1449.2.2.1 (by omega) (by omega) (by omega) ?_)))
          rw [q1453]
          refine w_icI (x := 1) rfl (w_il (fun _ => rfl) (w_icI (x := 1) rfl (w_op (c := w_i (0 + 1)) (i_add 0 1) (w_op (c := w_i 2) (by decide +kernel) (w_op (c := w_i 2) (by decide +kernel) (w_astI s1449.2.2.1 (by omega) (by omega) (by omega) (by omega) (by omega) (fun A1458 h1457 w1459 s1456 => ?_)))))))
          have q1460 : a_g A1458 0 = 2 := (w1459 0 (by omega) (by omega)).trans (if_pos rfl)
          have z1461 := s1456.1
          have z1461y := s1456.2.1
          have z1461w := s1456.2.2.2.2 z1454w
          refine w_al (fun _ => rfl) ?_
          have m1462 := st_fr s1456 m1455 (by decide)
          refine w_getf m1462 rfl (fun _ => rfl) (w_il (fun _ => rfl) (w_il (fun _ => rfl) (w_icI (x := 2) rfl (w_opz (c := w_i 0) (by decide +kernel) (by decide +kernel) ?_))))
          have m1463 := st_fr s1439 m16 (by decide)
          have m1464 := st_fr s1443 m1463 (by decide)
          have m1465 := st_fr s1449 m1464 (by decide)
          have m1466 := st_fr s1456 m1465 (by decide)
          refine w_astI m1466 (by omega) (by omega) (by omega) (by omega) (by omega) (fun A1469 h1468 w1470 s1467 => ?_)
          have q1471 : a_g A1469 0 = 0 := (w1470 0 (by omega) (by omega)).trans (if_pos rfl)
          have z1472 := s1467.1
          have z1472y := s1467.2.1
          have z1472w := s1467.2.2.2.2 z1461w
          refine w_al (fun _ => rfl) ?_
          have m1473 := st_fr s1467 m1462 (by decide)
          refine w_getf m1473 rfl (fun _ => rfl) (w_il (fun _ => rfl) (w_icI (x := (-1)) wn_1 ?_))
          have m1474 := st_fr s1439 m17 (by decide)
          have m1475 := st_fr s1443 m1474 (by decide)
          have m1476 := st_fr s1449 m1475 (by decide)
          have m1477 := st_fr s1456 m1476 (by decide)
          have m1478 := st_fr s1467 m1477 (by decide)
          refine w_astI m1478 (by omega) (by omega) (by omega) (by omega) (by omega) (fun A1481 h1480 w1482 s1479 => ?_)
          have q1483 : a_g A1481 0 = (-1) := (w1482 0 (by omega) (by omega)).trans (if_pos rfl)
          have z1484 := s1479.1
          have z1484y := s1479.2.1
          have z1484w := s1479.2.2.2.2 z1472w
          refine w_inc (c := w_i (0 + 1)) (fun _ => rfl) (i_addL (y := 1) rfl 0) (fun _ => rfl) (w_go (w_run k_577548 (w_il (fun _ => rfl) (w_icI (x := 6) rfl (w_gef (by omega) (by omega) (by omega) (by omega) (by omega)  (w_al (fun _ => rfl) ?_))))))
          have m1485 := st_fr s1479 m1473 (by decide)
          refine w_getf m1485 rfl (fun _ => rfl) (w_il (fun _ => rfl) (w_icI (x := 0) rfl ?_))
          have m1486 := st_fr s1467 s1456.2.2.1 (by decide)
          have m1487 := st_fr s1479 m1486 (by decide)
          refine w_astI m1487 (by omega) (by omega) (by omega) (by omega) (by omega) (fun A1490 h1489 w1491 s1488 => ?_)
          have q1492 : a_g A1490 0 = 2 := ((w1491 0 (by omega) (by omega)).trans (if_neg (by omega))).trans q1460
          have q1493 : a_g A1490 1 = 0 := (w1491 1 (by omega) (by omega)).trans (if_pos rfl)
          have z1494 := s1488.1
          have z1494y := s1488.2.1
          have z1494w := s1488.2.2.2.2 z1484w
          refine w_il (fun _ => rfl) (w_lezf (by omega) (by omega) (by omega)  (w_il (fun _ => rfl) (w_il (fun _ => rfl) (w_gef (by omega) (by omega) (by omega) (by omega) (by omega)  (w_al (fun _ => rfl) ?_)))))
          have m1495 := st_fr s1488 m1485 (by decide)
          refine w_getf m1495 rfl (fun _ => rfl) (w_il (fun _ => rfl) (w_dup2 (fun _ => rfl) (fun _ => rfl) (w_aldI s1488.2.2.1 (by omega) (by omega) (by omega) ?_)))
          rw [q1493]
          refine w_icI (x := 1) rfl (w_il (fun _ => rfl) (w_icI (x := 1) rfl (w_op (c := w_i ((0 + 1) - 1)) (i_sub (0 + 1) 1) (w_op (c := w_i 1) (by decide +kernel) (w_op (c := w_i 1) (by decide +kernel) (w_astI s1488.2.2.1 (by omega) (by omega) (by omega) (by omega) (by omega) (fun A1498 h1497 w1499 s1496 => ?_)))))))
          have q1500 : a_g A1498 0 = 2 := ((w1499 0 (by omega) (by omega)).trans (if_neg (by omega))).trans q1492
          have q1501 : a_g A1498 1 = 1 := (w1499 1 (by omega) (by omega)).trans (if_pos rfl)
          have z1502 := s1496.1
          have z1502y := s1496.2.1
          have z1502w := s1496.2.2.2.2 z1494w
          refine w_il (fun _ => rfl) (w_icI (x := 1) rfl (w_op (c := w_i ((0 + 1) + 1)) (i_add (0 + 1) 1) (w_il (fun _ => rfl) (w_gef (by omega) (by omega) (by omega) (by omega) (by omega)  (w_al (fun _ => rfl) ?_)))))
          have m1503 := st_fr s1496 m1495 (by decide)
          refine w_getf m1503 rfl (fun _ => rfl) (w_il (fun _ => rfl) (w_dup2 (fun _ => rfl) (fun _ => rfl) (w_aldI s1496.2.2.1 (by omega) (by omega) (by omega) ?_)))
          rw [q1501]
          refine w_icI (x := 1) rfl (w_il (fun _ => rfl) (w_icI (x := 1) rfl (w_op (c := w_i ((0 + 1) + 1)) (i_add (0 + 1) 1) (w_op (c := w_i 4) (by decide +kernel) (w_op (c := w_i 5) (by decide +kernel) (w_astI s1496.2.2.1 (by omega) (by omega) (by omega) (by omega) (by omega) (fun A1506 h1505 w1507 s1504 => ?_)))))))
          have q1508 : a_g A1506 0 = 2 := ((w1507 0 (by omega) (by omega)).trans (if_neg (by omega))).trans q1500
          have q1509 : a_g A1506 1 = 5 := (w1507 1 (by omega) (by omega)).trans (if_pos rfl)
          have z1510 := s1504.1
          have z1510y := s1504.2.1
          have z1510w := s1504.2.2.2.2 z1502w
          refine w_al (fun _ => rfl) ?_
          have m1511 := st_fr s1504 m1503 (by decide)
          refine w_getf m1511 rfl (fun _ => rfl) (w_il (fun _ => rfl) (w_il (fun _ => rfl) (w_icI (x := 2) rfl (w_opz (c := w_i 1) (by decide +kernel) (by decide +kernel) ?_))))
          have m1512 := st_fr s1479 s1467.2.2.1 (by decide)
          have m1513 := st_fr s1488 m1512 (by decide)
          have m1514 := st_fr s1496 m1513 (by decide)
          have m1515 := st_fr s1504 m1514 (by decide)
          refine w_astI m1515 (by omega) (by omega) (by omega) (by omega) (by omega) (fun A1518 h1517 w1519 s1516 => ?_)
          have q1520 : a_g A1518 0 = 0 := ((w1519 0 (by omega) (by omega)).trans (if_neg (by omega))).trans q1471
          have q1521 : a_g A1518 1 = 1 := (w1519 1 (by omega) (by omega)).trans (if_pos rfl)
          have z1522 := s1516.1
          have z1522y := s1516.2.1
          have z1522w := s1516.2.2.2.2 z1510w
          refine w_al (fun _ => rfl) ?_
          have m1523 := st_fr s1516 m1511 (by decide)
          refine w_getf m1523 rfl (fun _ => rfl) (w_il (fun _ => rfl) (w_icI (x := (-1)) wn_1 ?_))
          have m1524 := st_fr s1488 s1479.2.2.1 (by decide)
          have m1525 := st_fr s1496 m1524 (by decide)
          have m1526 := st_fr s1504 m1525 (by decide)
          have m1527 := st_fr s1516 m1526 (by decide)
          refine w_astI m1527 (by omega) (by omega) (by omega) (by omega) (by omega) (fun A1530 h1529 w1531 s1528 => ?_)
          have q1532 : a_g A1530 0 = (-1) := ((w1531 0 (by omega) (by omega)).trans (if_neg (by omega))).trans q1483
          have q1533 : a_g A1530 1 = (-1) := (w1531 1 (by omega) (by omega)).trans (if_pos rfl)
          have z1534 := s1528.1
          have z1534y := s1528.2.1
          have z1534w := s1528.2.2.2.2 z1522w
          refine w_inc (c := w_i ((0 + 1) + 1)) (fun _ => rfl) (i_addL (y := 1) rfl (0 + 1)) (fun _ => rfl) (w_go (w_run k_577548 (w_il (fun _ => rfl) (w_icI (x := 6) rfl (w_gef (by omega) (by omega) (by omega) (by omega) (by omega)  (w_al (fun _ => rfl) ?_))))))
          have m1535 := st_fr s1528 m1523 (by decide)
          refine w_getf m1535 rfl (fun _ => rfl) (w_il (fun _ => rfl) (w_icI (x := 0) rfl ?_))
          have m1536 := st_fr s1516 s1504.2.2.1 (by decide)
          have m1537 := st_fr s1528 m1536 (by decide)
          refine w_astI m1537 (by omega) (by omega) (by omega) (by omega) (by omega) (fun A1540 h1539 w1541 s1538 => ?_)
          have q1542 : a_g A1540 0 = 2 := ((w1541 0 (by omega) (by omega)).trans (if_neg (by omega))).trans q1508
          have q1543 : a_g A1540 1 = 5 := ((w1541 1 (by omega) (by omega)).trans (if_neg (by omega))).trans q1509
          have q1544 : a_g A1540 2 = 0 := (w1541 2 (by omega) (by omega)).trans (if_pos rfl)
          have z1545 := s1538.1
          have z1545y := s1538.2.1
          have z1545w := s1538.2.2.2.2 z1534w
          refine w_il (fun _ => rfl) (w_lezf (by omega) (by omega) (by omega)  (w_il (fun _ => rfl) (w_il (fun _ => rfl) (w_gef (by omega) (by omega) (by omega) (by omega) (by omega)  (w_al (fun _ => rfl) ?_)))))
          have m1546 := st_fr s1538 m1535 (by decide)
          refine w_getf m1546 rfl (fun _ => rfl) (w_il (fun _ => rfl) (w_dup2 (fun _ => rfl) (fun _ => rfl) (w_aldI s1538.2.2.1 (by omega) (by omega) (by omega) ?_)))
          rw [q1544]
          refine w_icI (x := 1) rfl (w_il (fun _ => rfl) (w_icI (x := 1) rfl (w_op (c := w_i (((0 + 1) + 1) - 1)) (i_sub ((0 + 1) + 1) 1) (w_op (c := w_i 2) (by decide +kernel) (w_op (c := w_i 2) (by decide +kernel) (w_astI s1538.2.2.1 (by omega) (by omega) (by omega) (by omega) (by omega) (fun A1549 h1548 w1550 s1547 => ?_)))))))
          have q1551 : a_g A1549 0 = 2 := ((w1550 0 (by omega) (by omega)).trans (if_neg (by omega))).trans q1542
          have q1552 : a_g A1549 1 = 5 := ((w1550 1 (by omega) (by omega)).trans (if_neg (by omega))).trans q1543
          have q1553 : a_g A1549 2 = 2 := (w1550 2 (by omega) (by omega)).trans (if_pos rfl)
          have z1554 := s1547.1
          have z1554y := s1547.2.1
          have z1554w := s1547.2.2.2.2 z1545w
          refine w_il (fun _ => rfl) (w_icI (x := 1) rfl (w_op (c := w_i (((0 + 1) + 1) + 1)) (i_add ((0 + 1) + 1) 1) (w_il (fun _ => rfl) (w_gef (by omega) (by omega) (by omega) (by omega) (by omega)  (w_al (fun _ => rfl) ?_)))))
          have m1555 := st_fr s1547 m1546 (by decide)
          refine w_getf m1555 rfl (fun _ => rfl) (w_il (fun _ => rfl) (w_dup2 (fun _ => rfl) (fun _ => rfl) (w_aldI s1547.2.2.1 (by omega) (by omega) (by omega) ?_)))
          rw [q1553]
          refine w_icI (x := 1) rfl (w_il (fun _ => rfl) (w_icI (x := 1) rfl (w_op (c := w_i (((0 + 1) + 1) + 1)) (i_add ((0 + 1) + 1) 1) (w_op (c := w_i 8) (by decide +kernel) (w_op (c := w_i 10) (by decide +kernel) (w_astI s1547.2.2.1 (by omega) (by omega) (by omega) (by omega) (by omega) (fun A1558 h1557 w1559 s1556 => ?_)))))))
          have q1560 : a_g A1558 0 = 2 := ((w1559 0 (by omega) (by omega)).trans (if_neg (by omega))).trans q1551
          have q1561 : a_g A1558 1 = 5 := ((w1559 1 (by omega) (by omega)).trans (if_neg (by omega))).trans q1552
          have q1562 : a_g A1558 2 = 10 := (w1559 2 (by omega) (by omega)).trans (if_pos rfl)
          have z1563 := s1556.1
          have z1563y := s1556.2.1
          have z1563w := s1556.2.2.2.2 z1554w
          refine w_al (fun _ => rfl) ?_
          have m1564 := st_fr s1556 m1555 (by decide)
          refine w_getf m1564 rfl (fun _ => rfl) (w_il (fun _ => rfl) (w_il (fun _ => rfl) (w_icI (x := 2) rfl (w_opz (c := w_i 0) (by decide +kernel) (by decide +kernel) ?_))))
          have m1565 := st_fr s1528 s1516.2.2.1 (by decide)
          have m1566 := st_fr s1538 m1565 (by decide)
          have m1567 := st_fr s1547 m1566 (by decide)
          have m1568 := st_fr s1556 m1567 (by decide)
          refine w_astI m1568 (by omega) (by omega) (by omega) (by omega) (by omega) (fun A1571 h1570 w1572 s1569 => ?_)
          have q1573 : a_g A1571 0 = 0 := ((w1572 0 (by omega) (by omega)).trans (if_neg (by omega))).trans q1520
          have q1574 : a_g A1571 1 = 1 := ((w1572 1 (by omega) (by omega)).trans (if_neg (by omega))).trans q1521
          have q1575 : a_g A1571 2 = 0 := (w1572 2 (by omega) (by omega)).trans (if_pos rfl)
          have z1576 := s1569.1
          have z1576y := s1569.2.1
          have z1576w := s1569.2.2.2.2 z1563w
          refine w_al (fun _ => rfl) ?_
          have m1577 := st_fr s1569 m1564 (by decide)
          refine w_getf m1577 rfl (fun _ => rfl) (w_il (fun _ => rfl) (w_icI (x := (-1)) wn_1 ?_))
          have m1578 := st_fr s1538 s1528.2.2.1 (by decide)
          have m1579 := st_fr s1547 m1578 (by decide)
          have m1580 := st_fr s1556 m1579 (by decide)
          have m1581 := st_fr s1569 m1580 (by decide)
          refine w_astI m1581 (by omega) (by omega) (by omega) (by omega) (by omega) (fun A1584 h1583 w1585 s1582 => ?_)
          have q1586 : a_g A1584 0 = (-1) := ((w1585 0 (by omega) (by omega)).trans (if_neg (by omega))).trans q1532
          have q1587 : a_g A1584 1 = (-1) := ((w1585 1 (by omega) (by omega)).trans (if_neg (by omega))).trans q1533
          have q1588 : a_g A1584 2 = (-1) := (w1585 2 (by omega) (by omega)).trans (if_pos rfl)
          have z1589 := s1582.1
          have z1589y := s1582.2.1
          have z1589w := s1582.2.2.2.2 z1576w
          refine w_inc (c := w_i (((0 + 1) + 1) + 1)) (fun _ => rfl) (i_addL (y := 1) rfl ((0 + 1) + 1)) (fun _ => rfl) (w_go (w_run k_577548 (w_il (fun _ => rfl) (w_icI (x := 6) rfl (w_gef (by omega) (by omega) (by omega) (by omega) (by omega)  (w_al (fun _ => rfl) ?_))))))
          have m1590 := st_fr s1582 m1577 (by decide)
          refine w_getf m1590 rfl (fun _ => rfl) (w_il (fun _ => rfl) (w_icI (x := 0) rfl ?_))
          have m1591 := st_fr s1569 s1556.2.2.1 (by decide)
          have m1592 := st_fr s1582 m1591 (by decide)
          refine w_astI m1592 (by omega) (by omega) (by omega) (by omega) (by omega) (fun A1595 h1594 w1596 s1593 => ?_)
          have q1597 : a_g A1595 0 = 2 := ((w1596 0 (by omega) (by omega)).trans (if_neg (by omega))).trans q1560
          have q1598 : a_g A1595 1 = 5 := ((w1596 1 (by omega) (by omega)).trans (if_neg (by omega))).trans q1561
          have q1599 : a_g A1595 2 = 10 := ((w1596 2 (by omega) (by omega)).trans (if_neg (by omega))).trans q1562
          have q1600 : a_g A1595 3 = 0 := (w1596 3 (by omega) (by omega)).trans (if_pos rfl)
          have z1601 := s1593.1
          have z1601y := s1593.2.1
          have z1601w := s1593.2.2.2.2 z1589w
          refine w_il (fun _ => rfl) (w_lezf (by omega) (by omega) (by omega)  (w_il (fun _ => rfl) (w_il (fun _ => rfl) (w_gef (by omega) (by omega) (by omega) (by omega) (by omega)  (w_al (fun _ => rfl) ?_)))))
          have m1602 := st_fr s1593 m1590 (by decide)
          refine w_getf m1602 rfl (fun _ => rfl) (w_il (fun _ => rfl) (w_dup2 (fun _ => rfl) (fun _ => rfl) (w_aldI s1593.2.2.1 (by omega) (by omega) (by omega) ?_)))
          rw [q1600]
          refine w_icI (x := 1) rfl (w_il (fun _ => rfl) (w_icI (x := 1) rfl (w_op (c := w_i ((((0 + 1) + 1) + 1) - 1)) (i_sub (((0 + 1) + 1) + 1) 1) (w_op (c := w_i 4) (by decide +kernel) (w_op (c := w_i 4) (by decide +kernel) (w_astI s1593.2.2.1 (by omega) (by omega) (by omega) (by omega) (by omega) (fun A1605 h1604 w1606 s1603 => ?_)))))))
          have q1607 : a_g A1605 0 = 2 := ((w1606 0 (by omega) (by omega)).trans (if_neg (by omega))).trans q1597
          have q1608 : a_g A1605 1 = 5 := ((w1606 1 (by omega) (by omega)).trans (if_neg (by omega))).trans q1598
          have q1609 : a_g A1605 2 = 10 := ((w1606 2 (by omega) (by omega)).trans (if_neg (by omega))).trans q1599
          have q1610 : a_g A1605 3 = 4 := (w1606 3 (by omega) (by omega)).trans (if_pos rfl)
          have z1611 := s1603.1
          have z1611y := s1603.2.1
          have z1611w := s1603.2.2.2.2 z1601w
          refine w_il (fun _ => rfl) (w_icI (x := 1) rfl (w_op (c := w_i ((((0 + 1) + 1) + 1) + 1)) (i_add (((0 + 1) + 1) + 1) 1) (w_il (fun _ => rfl) (w_gef (by omega) (by omega) (by omega) (by omega) (by omega)  (w_al (fun _ => rfl) ?_)))))
          have m1612 := st_fr s1603 m1602 (by decide)
          refine w_getf m1612 rfl (fun _ => rfl) (w_il (fun _ => rfl) (w_dup2 (fun _ => rfl) (fun _ => rfl) (w_aldI s1603.2.2.1 (by omega) (by omega) (by omega) ?_)))
          rw [q1610]
          refine w_icI (x := 1) rfl (w_il (fun _ => rfl) (w_icI (x := 1) rfl (w_op (c := w_i ((((0 + 1) + 1) + 1) + 1)) (i_add (((0 + 1) + 1) + 1) 1) (w_op (c := w_i 16) (by decide +kernel) (w_op (c := w_i 20) (by decide +kernel) (w_astI s1603.2.2.1 (by omega) (by omega) (by omega) (by omega) (by omega) (fun A1615 h1614 w1616 s1613 => ?_)))))))
          have q1617 : a_g A1615 0 = 2 := ((w1616 0 (by omega) (by omega)).trans (if_neg (by omega))).trans q1607
          have q1618 : a_g A1615 1 = 5 := ((w1616 1 (by omega) (by omega)).trans (if_neg (by omega))).trans q1608
          have q1619 : a_g A1615 2 = 10 := ((w1616 2 (by omega) (by omega)).trans (if_neg (by omega))).trans q1609
          have q1620 : a_g A1615 3 = 20 := (w1616 3 (by omega) (by omega)).trans (if_pos rfl)
          have z1621 := s1613.1
          have z1621y := s1613.2.1
          have z1621w := s1613.2.2.2.2 z1611w
          refine w_al (fun _ => rfl) ?_
          have m1622 := st_fr s1613 m1612 (by decide)
          refine w_getf m1622 rfl (fun _ => rfl) (w_il (fun _ => rfl) (w_il (fun _ => rfl) (w_icI (x := 2) rfl (w_opz (c := w_i 1) (by decide +kernel) (by decide +kernel) ?_))))
          have m1623 := st_fr s1582 s1569.2.2.1 (by decide)
          have m1624 := st_fr s1593 m1623 (by decide)
          have m1625 := st_fr s1603 m1624 (by decide)
          have m1626 := st_fr s1613 m1625 (by decide)
          refine w_astI m1626 (by omega) (by omega) (by omega) (by omega) (by omega) (fun A1629 h1628 w1630 s1627 => ?_)
          have q1631 : a_g A1629 0 = 0 := ((w1630 0 (by omega) (by omega)).trans (if_neg (by omega))).trans q1573
          have q1632 : a_g A1629 1 = 1 := ((w1630 1 (by omega) (by omega)).trans (if_neg (by omega))).trans q1574
          have q1633 : a_g A1629 2 = 0 := ((w1630 2 (by omega) (by omega)).trans (if_neg (by omega))).trans q1575
          have q1634 : a_g A1629 3 = 1 := (w1630 3 (by omega) (by omega)).trans (if_pos rfl)
          have z1635 := s1627.1
          have z1635y := s1627.2.1
          have z1635w := s1627.2.2.2.2 z1621w
          refine w_al (fun _ => rfl) ?_
          have m1636 := st_fr s1627 m1622 (by decide)
          refine w_getf m1636 rfl (fun _ => rfl) (w_il (fun _ => rfl) (w_icI (x := (-1)) wn_1 ?_))
          have m1637 := st_fr s1593 s1582.2.2.1 (by decide)
          have m1638 := st_fr s1603 m1637 (by decide)
          have m1639 := st_fr s1613 m1638 (by decide)
          have m1640 := st_fr s1627 m1639 (by decide)
          refine w_astI m1640 (by omega) (by omega) (by omega) (by omega) (by omega) (fun A1643 h1642 w1644 s1641 => ?_)
          have q1645 : a_g A1643 0 = (-1) := ((w1644 0 (by omega) (by omega)).trans (if_neg (by omega))).trans q1586
          have q1646 : a_g A1643 1 = (-1) := ((w1644 1 (by omega) (by omega)).trans (if_neg (by omega))).trans q1587
          have q1647 : a_g A1643 2 = (-1) := ((w1644 2 (by omega) (by omega)).trans (if_neg (by omega))).trans q1588
          have q1648 : a_g A1643 3 = (-1) := (w1644 3 (by omega) (by omega)).trans (if_pos rfl)
          have z1649 := s1641.1
          have z1649y := s1641.2.1
          have z1649w := s1641.2.2.2.2 z1635w
          refine w_inc (c := w_i ((((0 + 1) + 1) + 1) + 1)) (fun _ => rfl) (i_addL (y := 1) rfl (((0 + 1) + 1) + 1)) (fun _ => rfl) (w_go (w_run k_577548 (w_il (fun _ => rfl) (w_icI (x := 6) rfl (w_gef (by omega) (by omega) (by omega) (by omega) (by omega)  (w_al (fun _ => rfl) ?_))))))
          have m1650 := st_fr s1641 m1636 (by decide)
          refine w_getf m1650 rfl (fun _ => rfl) (w_il (fun _ => rfl) (w_icI (x := 0) rfl ?_))
          have m1651 := st_fr s1627 s1613.2.2.1 (by decide)
          have m1652 := st_fr s1641 m1651 (by decide)
          refine w_astI m1652 (by omega) (by omega) (by omega) (by omega) (by omega) (fun A1655 h1654 w1656 s1653 => ?_)
          have q1657 : a_g A1655 0 = 2 := ((w1656 0 (by omega) (by omega)).trans (if_neg (by omega))).trans q1617
          have q1658 : a_g A1655 1 = 5 := ((w1656 1 (by omega) (by omega)).trans (if_neg (by omega))).trans q1618
          have q1659 : a_g A1655 2 = 10 := ((w1656 2 (by omega) (by omega)).trans (if_neg (by omega))).trans q1619
          have q1660 : a_g A1655 3 = 20 := ((w1656 3 (by omega) (by omega)).trans (if_neg (by omega))).trans q1620
          have q1661 : a_g A1655 4 = 0 := (w1656 4 (by omega) (by omega)).trans (if_pos rfl)
          have z1662 := s1653.1
          have z1662y := s1653.2.1
          have z1662w := s1653.2.2.2.2 z1649w
          refine w_il (fun _ => rfl) (w_lezf (by omega) (by omega) (by omega)  (w_il (fun _ => rfl) (w_il (fun _ => rfl) (w_gef (by omega) (by omega) (by omega) (by omega) (by omega)  (w_al (fun _ => rfl) ?_)))))
          have m1663 := st_fr s1653 m1650 (by decide)
          refine w_getf m1663 rfl (fun _ => rfl) (w_il (fun _ => rfl) (w_dup2 (fun _ => rfl) (fun _ => rfl) (w_aldI s1653.2.2.1 (by omega) (by omega) (by omega) ?_)))
          rw [q1661]
          refine w_icI (x := 1) rfl (w_il (fun _ => rfl) (w_icI (x := 1) rfl (w_op (c := w_i (((((0 + 1) + 1) + 1) + 1) - 1)) (i_sub ((((0 + 1) + 1) + 1) + 1) 1) (w_op (c := w_i 8) (by decide +kernel) (w_op (c := w_i 8) (by decide +kernel) (w_astI s1653.2.2.1 (by omega) (by omega) (by omega) (by omega) (by omega) (fun A1666 h1665 w1667 s1664 => ?_)))))))
          have q1668 : a_g A1666 0 = 2 := ((w1667 0 (by omega) (by omega)).trans (if_neg (by omega))).trans q1657
          have q1669 : a_g A1666 1 = 5 := ((w1667 1 (by omega) (by omega)).trans (if_neg (by omega))).trans q1658
          have q1670 : a_g A1666 2 = 10 := ((w1667 2 (by omega) (by omega)).trans (if_neg (by omega))).trans q1659
          have q1671 : a_g A1666 3 = 20 := ((w1667 3 (by omega) (by omega)).trans (if_neg (by omega))).trans q1660
          have q1672 : a_g A1666 4 = 8 := (w1667 4 (by omega) (by omega)).trans (if_pos rfl)
          have z1673 := s1664.1
          have z1673y := s1664.2.1
          have z1673w := s1664.2.2.2.2 z1662w
          refine w_il (fun _ => rfl) (w_icI (x := 1) rfl (w_op (c := w_i (((((0 + 1) + 1) + 1) + 1) + 1)) (i_add ((((0 + 1) + 1) + 1) + 1) 1) (w_il (fun _ => rfl) (w_gef (by omega) (by omega) (by omega) (by omega) (by omega)  (w_al (fun _ => rfl) ?_)))))
          have m1674 := st_fr s1664 m1663 (by decide)
          refine w_getf m1674 rfl (fun _ => rfl) (w_il (fun _ => rfl) (w_dup2 (fun _ => rfl) (fun _ => rfl) (w_aldI s1664.2.2.1 (by omega) (by omega) (by omega) ?_)))
          rw [q1672]
          refine w_icI (x := 1) rfl (w_il (fun _ => rfl) (w_icI (x := 1) rfl (w_op (c := w_i (((((0 + 1) + 1) + 1) + 1) + 1)) (i_add ((((0 + 1) + 1) + 1) + 1) 1) (w_op (c := w_i 32) (by decide +kernel) (w_op (c := w_i 40) (by decide +kernel) (w_astI s1664.2.2.1 (by omega) (by omega) (by omega) (by omega) (by omega) (fun A1677 h1676 w1678 s1675 => ?_)))))))
          have q1679 : a_g A1677 0 = 2 := ((w1678 0 (by omega) (by omega)).trans (if_neg (by omega))).trans q1668
          have q1680 : a_g A1677 1 = 5 := ((w1678 1 (by omega) (by omega)).trans (if_neg (by omega))).trans q1669
          have q1681 : a_g A1677 2 = 10 := ((w1678 2 (by omega) (by omega)).trans (if_neg (by omega))).trans q1670
          have q1682 : a_g A1677 3 = 20 := ((w1678 3 (by omega) (by omega)).trans (if_neg (by omega))).trans q1671
          have q1683 : a_g A1677 4 = 40 := (w1678 4 (by omega) (by omega)).trans (if_pos rfl)
          have z1684 := s1675.1
          have z1684y := s1675.2.1
          have z1684w := s1675.2.2.2.2 z1673w
          refine w_al (fun _ => rfl) ?_
          have m1685 := st_fr s1675 m1674 (by decide)
          refine w_getf m1685 rfl (fun _ => rfl) (w_il (fun _ => rfl) (w_il (fun _ => rfl) (w_icI (x := 2) rfl (w_opz (c := w_i 0) (by decide +kernel) (by decide +kernel) ?_))))
          have m1686 := st_fr s1641 s1627.2.2.1 (by decide)
          have m1687 := st_fr s1653 m1686 (by decide)
          have m1688 := st_fr s1664 m1687 (by decide)
          have m1689 := st_fr s1675 m1688 (by decide)
          refine w_astI m1689 (by omega) (by omega) (by omega) (by omega) (by omega) (fun A1692 h1691 w1693 s1690 => ?_)
          have q1694 : a_g A1692 0 = 0 := ((w1693 0 (by omega) (by omega)).trans (if_neg (by omega))).trans q1631
          have q1695 : a_g A1692 1 = 1 := ((w1693 1 (by omega) (by omega)).trans (if_neg (by omega))).trans q1632
          have q1696 : a_g A1692 2 = 0 := ((w1693 2 (by omega) (by omega)).trans (if_neg (by omega))).trans q1633
          have q1697 : a_g A1692 3 = 1 := ((w1693 3 (by omega) (by omega)).trans (if_neg (by omega))).trans q1634
          have q1698 : a_g A1692 4 = 0 := (w1693 4 (by omega) (by omega)).trans (if_pos rfl)
          have z1699 := s1690.1
          have z1699y := s1690.2.1
          have z1699w := s1690.2.2.2.2 z1684w
          refine w_al (fun _ => rfl) ?_
          have m1700 := st_fr s1690 m1685 (by decide)
          refine w_getf m1700 rfl (fun _ => rfl) (w_il (fun _ => rfl) (w_icI (x := (-1)) wn_1 ?_))
          have m1701 := st_fr s1653 s1641.2.2.1 (by decide)
          have m1702 := st_fr s1664 m1701 (by decide)
          have m1703 := st_fr s1675 m1702 (by decide)
          have m1704 := st_fr s1690 m1703 (by decide)
          refine w_astI m1704 (by omega) (by omega) (by omega) (by omega) (by omega) (fun A1707 h1706 w1708 s1705 => ?_)
          have q1709 : a_g A1707 0 = (-1) := ((w1708 0 (by omega) (by omega)).trans (if_neg (by omega))).trans q1645
          have q1710 : a_g A1707 1 = (-1) := ((w1708 1 (by omega) (by omega)).trans (if_neg (by omega))).trans q1646
          have q1711 : a_g A1707 2 = (-1) := ((w1708 2 (by omega) (by omega)).trans (if_neg (by omega))).trans q1647
          have q1712 : a_g A1707 3 = (-1) := ((w1708 3 (by omega) (by omega)).trans (if_neg (by omega))).trans q1648
          have q1713 : a_g A1707 4 = (-1) := (w1708 4 (by omega) (by omega)).trans (if_pos rfl)
          have z1714 := s1705.1
          have z1714y := s1705.2.1
          have z1714w := s1705.2.2.2.2 z1699w
          refine w_inc (c := w_i (((((0 + 1) + 1) + 1) + 1) + 1)) (fun _ => rfl) (i_addL (y := 1) rfl ((((0 + 1) + 1) + 1) + 1)) (fun _ => rfl) (w_go (w_run k_577548 (w_il (fun _ => rfl) (w_icI (x := 6) rfl (w_gef (by omega) (by omega) (by omega) (by omega) (by omega)  (w_al (fun _ => rfl) ?_))))))
          have m1715 := st_fr s1705 m1700 (by decide)
          refine w_getf m1715 rfl (fun _ => rfl) (w_il (fun _ => rfl) (w_icI (x := 0) rfl ?_))
          have m1716 := st_fr s1690 s1675.2.2.1 (by decide)
          have m1717 := st_fr s1705 m1716 (by decide)
          refine w_astI m1717 (by omega) (by omega) (by omega) (by omega) (by omega) (fun A1720 h1719 w1721 s1718 => ?_)
          have q1722 : a_g A1720 0 = 2 := ((w1721 0 (by omega) (by omega)).trans (if_neg (by omega))).trans q1679
          have q1723 : a_g A1720 1 = 5 := ((w1721 1 (by omega) (by omega)).trans (if_neg (by omega))).trans q1680
          have q1724 : a_g A1720 2 = 10 := ((w1721 2 (by omega) (by omega)).trans (if_neg (by omega))).trans q1681
          have q1725 : a_g A1720 3 = 20 := ((w1721 3 (by omega) (by omega)).trans (if_neg (by omega))).trans q1682
          have q1726 : a_g A1720 4 = 40 := ((w1721 4 (by omega) (by omega)).trans (if_neg (by omega))).trans q1683
          have q1727 : a_g A1720 5 = 0 := (w1721 5 (by omega) (by omega)).trans (if_pos rfl)
          have z1728 := s1718.1
          have z1728y := s1718.2.1
          have z1728w := s1718.2.2.2.2 z1714w
          refine w_il (fun _ => rfl) (w_lezf (by omega) (by omega) (by omega)  (w_il (fun _ => rfl) (w_il (fun _ => rfl) (w_gef (by omega) (by omega) (by omega) (by omega) (by omega)  (w_al (fun _ => rfl) ?_)))))
          have m1729 := st_fr s1718 m1715 (by decide)
          refine w_getf m1729 rfl (fun _ => rfl) (w_il (fun _ => rfl) (w_dup2 (fun _ => rfl) (fun _ => rfl) (w_aldI s1718.2.2.1 (by omega) (by omega) (by omega) ?_)))
          rw [q1727]
          refine w_icI (x := 1) rfl (w_il (fun _ => rfl) (w_icI (x := 1) rfl (w_op (c := w_i ((((((0 + 1) + 1) + 1) + 1) + 1) - 1)) (i_sub (((((0 + 1) + 1) + 1) + 1) + 1) 1) (w_op (c := w_i 16) (by decide +kernel) (w_op (c := w_i 16) (by decide +kernel) (w_astI s1718.2.2.1 (by omega) (by omega) (by omega) (by omega) (by omega) (fun A1732 h1731 w1733 s1730 => ?_)))))))
          have q1734 : a_g A1732 0 = 2 := ((w1733 0 (by omega) (by omega)).trans (if_neg (by omega))).trans q1722
          have q1735 : a_g A1732 1 = 5 := ((w1733 1 (by omega) (by omega)).trans (if_neg (by omega))).trans q1723
          have q1736 : a_g A1732 2 = 10 := ((w1733 2 (by omega) (by omega)).trans (if_neg (by omega))).trans q1724
          have q1737 : a_g A1732 3 = 20 := ((w1733 3 (by omega) (by omega)).trans (if_neg (by omega))).trans q1725
          have q1738 : a_g A1732 4 = 40 := ((w1733 4 (by omega) (by omega)).trans (if_neg (by omega))).trans q1726
          have q1739 : a_g A1732 5 = 16 := (w1733 5 (by omega) (by omega)).trans (if_pos rfl)
          have z1740 := s1730.1
          have z1740y := s1730.2.1
          have z1740w := s1730.2.2.2.2 z1728w
          refine w_il (fun _ => rfl) (w_icI (x := 1) rfl (w_op (c := w_i ((((((0 + 1) + 1) + 1) + 1) + 1) + 1)) (i_add (((((0 + 1) + 1) + 1) + 1) + 1) 1) (w_il (fun _ => rfl) (w_get (by omega) (by omega) (by omega) (by omega) (by omega)  (w_run k_577605 (w_al (fun _ => rfl) ?_))))))
          have m1741 := st_fr s1730 m1729 (by decide)
          refine w_getf m1741 rfl (fun _ => rfl) (w_il (fun _ => rfl) (w_il (fun _ => rfl) (w_icI (x := 2) rfl (w_opz (c := w_i 1) (by decide +kernel) (by decide +kernel) ?_))))
          have m1742 := st_fr s1705 s1690.2.2.1 (by decide)
          have m1743 := st_fr s1718 m1742 (by decide)
          have m1744 := st_fr s1730 m1743 (by decide)
          refine w_astI m1744 (by omega) (by omega) (by omega) (by omega) (by omega) (fun A1747 h1746 w1748 s1745 => ?_)
          have q1749 : a_g A1747 0 = 0 := ((w1748 0 (by omega) (by omega)).trans (if_neg (by omega))).trans q1694
          have q1750 : a_g A1747 1 = 1 := ((w1748 1 (by omega) (by omega)).trans (if_neg (by omega))).trans q1695
          have q1751 : a_g A1747 2 = 0 := ((w1748 2 (by omega) (by omega)).trans (if_neg (by omega))).trans q1696
          have q1752 : a_g A1747 3 = 1 := ((w1748 3 (by omega) (by omega)).trans (if_neg (by omega))).trans q1697
          have q1753 : a_g A1747 4 = 0 := ((w1748 4 (by omega) (by omega)).trans (if_neg (by omega))).trans q1698
          have q1754 : a_g A1747 5 = 1 := (w1748 5 (by omega) (by omega)).trans (if_pos rfl)
          have z1755 := s1745.1
          have z1755y := s1745.2.1
          have z1755w := s1745.2.2.2.2 z1740w
          refine w_al (fun _ => rfl) ?_
          have m1756 := st_fr s1745 m1741 (by decide)
          refine w_getf m1756 rfl (fun _ => rfl) (w_il (fun _ => rfl) (w_icI (x := (-1)) wn_1 ?_))
          have m1757 := st_fr s1718 s1705.2.2.1 (by decide)
          have m1758 := st_fr s1730 m1757 (by decide)
          have m1759 := st_fr s1745 m1758 (by decide)
          refine w_astI m1759 (by omega) (by omega) (by omega) (by omega) (by omega) (fun A1762 h1761 w1763 s1760 => ?_)
          have q1764 : a_g A1762 0 = (-1) := ((w1763 0 (by omega) (by omega)).trans (if_neg (by omega))).trans q1709
          have q1765 : a_g A1762 1 = (-1) := ((w1763 1 (by omega) (by omega)).trans (if_neg (by omega))).trans q1710
          have q1766 : a_g A1762 2 = (-1) := ((w1763 2 (by omega) (by omega)).trans (if_neg (by omega))).trans q1711
          have q1767 : a_g A1762 3 = (-1) := ((w1763 3 (by omega) (by omega)).trans (if_neg (by omega))).trans q1712
          have q1768 : a_g A1762 4 = (-1) := ((w1763 4 (by omega) (by omega)).trans (if_neg (by omega))).trans q1713
          have q1769 : a_g A1762 5 = (-1) := (w1763 5 (by omega) (by omega)).trans (if_pos rfl)
          have z1770 := s1760.1
          have z1770y := s1760.2.1
          have z1770w := s1760.2.2.2.2 z1755w
          refine w_inc (c := w_i ((((((0 + 1) + 1) + 1) + 1) + 1) + 1)) (fun _ => rfl) (i_addL (y := 1) rfl (((((0 + 1) + 1) + 1) + 1) + 1)) (fun _ => rfl) (w_go (w_run k_577548 (w_il (fun _ => rfl) (w_icI (x := 6) rfl (w_get (by omega) (by omega) (by omega) (by omega) (by omega)  (w_run k_577627 (w_al (fun _ => rfl) (w_icI (x := 0) rfl ?_))))))))
          have m1771 := st_fr s1760 m1756 (by decide)
          refine w_putf [.inr (.inl (some 32)), .inr (.inl (some 33)), .inr (.inl (some 34)), .inr (.inl (some 35)), .inr (.inl (some 36)), .inl (w_i hh), .inl (w_i c), .inl (w_i 0), .inl (w_i kee14), .inl (w_i (g_mnp g)), .inl (w_i rul14), .inl (w_i (g_mhi g)), .inr (.inl (some 37)), .inr (.inl (some 50)), .inr (.inl (some 51)), .inr (.inl (some 52)), .inr (.inl (some 53)), .inr (.inl (some 54)), .inl (w_i tpd14), .inl (w_i (g_mnt g)), .inl (w_i nxt14), .inl (w_i tok14), .inl (w_i tka14), .inl (w_i val14), .inl (w_i opn14), .inl (w_i hm14), .inl (w_i row14), .inr (.inl (some 55)), .inr (.inl (some 56)), .inr (.inl (some 57)), .inr (.inl (some 58)), .inr (.inl (some 59)), .inr (.inl (some 60)), .inr (.inl (some 61)), .inr (.inl (some 62)), .inl (w_i ksp14), .inl (w_i kke14), .inl (w_i kru14), .inr (.inl (some 63)), .inr (.inl (some 64)), .inr (.inl (some 65)), .inr (.inl (some 66))] m1771 rfl rfl rfl (fun _ => rfl) (fun h1773 s1772 => ?_)
          have z1775 := s1772.1
          have z1775y := s1772.2.1
          have z1775w := s1772.2.2.2.2 z1770w
          refine w_al (fun _ => rfl) (w_icI (x := 0) rfl (w_putf [.inr (.inl (some 32)), .inr (.inl (some 33)), .inr (.inl (some 34)), .inr (.inl (some 35)), .inr (.inl (some 36)), .inl (w_i hh), .inl (w_i c), .inl (w_i 0), .inl (w_i 0), .inl (w_i (g_mnp g)), .inl (w_i rul14), .inl (w_i (g_mhi g)), .inr (.inl (some 37)), .inr (.inl (some 50)), .inr (.inl (some 51)), .inr (.inl (some 52)), .inr (.inl (some 53)), .inr (.inl (some 54)), .inl (w_i tpd14), .inl (w_i (g_mnt g)), .inl (w_i nxt14), .inl (w_i tok14), .inl (w_i tka14), .inl (w_i val14), .inl (w_i opn14), .inl (w_i hm14), .inl (w_i row14), .inr (.inl (some 55)), .inr (.inl (some 56)), .inr (.inl (some 57)), .inr (.inl (some 58)), .inr (.inl (some 59)), .inr (.inl (some 60)), .inr (.inl (some 61)), .inr (.inl (some 62)), .inl (w_i ksp14), .inl (w_i kke14), .inl (w_i kru14), .inr (.inl (some 63)), .inr (.inl (some 64)), .inr (.inl (some 65)), .inr (.inl (some 66))] s1772.2.2.1 rfl rfl rfl (fun _ => rfl) (fun h1777 s1776 => ?_)))
          have z1779 := s1776.1
          have z1779y := s1776.2.1
          have z1779w := s1776.2.2.2.2 z1775w
          refine w_al (fun _ => rfl) (w_icI (x := 0) rfl (w_putf [.inr (.inl (some 32)), .inr (.inl (some 33)), .inr (.inl (some 34)), .inr (.inl (some 35)), .inr (.inl (some 36)), .inl (w_i hh), .inl (w_i c), .inl (w_i 0), .inl (w_i 0), .inl (w_i (g_mnp g)), .inl (w_i rul14), .inl (w_i 0), .inr (.inl (some 37)), .inr (.inl (some 50)), .inr (.inl (some 51)), .inr (.inl (some 52)), .inr (.inl (some 53)), .inr (.inl (some 54)), .inl (w_i tpd14), .inl (w_i (g_mnt g)), .inl (w_i nxt14), .inl (w_i tok14), .inl (w_i tka14), .inl (w_i val14), .inl (w_i opn14), .inl (w_i hm14), .inl (w_i row14), .inr (.inl (some 55)), .inr (.inl (some 56)), .inr (.inl (some 57)), .inr (.inl (some 58)), .inr (.inl (some 59)), .inr (.inl (some 60)), .inr (.inl (some 61)), .inr (.inl (some 62)), .inl (w_i ksp14), .inl (w_i kke14), .inl (w_i kru14), .inr (.inl (some 63)), .inr (.inl (some 64)), .inr (.inl (some 65)), .inr (.inl (some 66))] s1776.2.2.1 rfl rfl rfl (fun _ => rfl) (fun h1781 s1780 => ?_)))
          have z1783 := s1780.1
          have z1783y := s1780.2.1
          have z1783w := s1780.2.2.2.2 z1779w
          refine w_rv ⟨rfl, ?_⟩
          refine w_il (fun _ => rfl) (w_ri ?_)
          have F1 := F.1
          have F2 := F.2.1
          have m1784 := st_fr s1745 s1730.2.2.1 (by decide)
          have m1785 := st_fr s1760 m1784 (by decide)
          have m1786 := st_fr s1772 m1785 (by decide)
          have m1787 := st_fr s1776 m1786 (by decide)
          have m1788 := st_fr s1780 m1787 (by decide)
          have gz : g_mnt (g_mbu g hh c A1732) = g_mnt g := rfl
          have m1789 := st_fr s1760 s1745.2.2.1 (by decide)
          have m1790 := st_fr s1772 m1789 (by decide)
          have m1791 := st_fr s1776 m1790 (by decide)
          have m1792 := st_fr s1780 m1791 (by decide)
          have m1793 := st_fr s1772 s1760.2.2.1 (by decide)
          have m1794 := st_fr s1776 m1793 (by decide)
          have m1795 := st_fr s1780 m1794 (by decide)
          have ivn := mbu_fin (e := _) (hh := hh) (c := c) iv (by omega) (by omega) (by omega) (by omega) (by omega) z1783w (by omega) (fun q n31 n32 n33 n34 => (s1780.2.2.2.1 q n31).trans ((s1776.2.2.2.1 q n31).trans ((s1772.2.2.2.1 q n31).trans ((s1760.2.2.2.1 q n34).trans ((s1745.2.2.2.1 q n33).trans ((s1730.2.2.2.1 q n32).trans ((s1718.2.2.2.1 q n32).trans ((s1705.2.2.2.1 q n34).trans ((s1690.2.2.2.1 q n33).trans ((s1675.2.2.2.1 q n32).trans ((s1664.2.2.2.1 q n32).trans ((s1653.2.2.2.1 q n32).trans ((s1641.2.2.2.1 q n34).trans ((s1627.2.2.2.1 q n33).trans ((s1613.2.2.2.1 q n32).trans ((s1603.2.2.2.1 q n32).trans ((s1593.2.2.2.1 q n32).trans ((s1582.2.2.2.1 q n34).trans ((s1569.2.2.2.1 q n33).trans ((s1556.2.2.2.1 q n32).trans ((s1547.2.2.2.1 q n32).trans ((s1538.2.2.2.1 q n32).trans ((s1528.2.2.2.1 q n34).trans ((s1516.2.2.2.1 q n33).trans ((s1504.2.2.2.1 q n32).trans ((s1496.2.2.2.1 q n32).trans ((s1488.2.2.2.1 q n32).trans ((s1479.2.2.2.1 q n34).trans ((s1467.2.2.2.1 q n33).trans ((s1456.2.2.2.1 q n32).trans ((s1449.2.2.2.1 q n32).trans ((s1443.2.2.2.1 q n31).trans ((s1439.2.2.2.1 q n31).trans (rfl)))))))))))))))))))))))))))))))))) s1780.2.2.1 ⟨_, _, _, _, _, _, _, _, _, _, _, _, _, _, rfl, by omega, by omega, by omega, by omega, by omega, by omega, by omega, by omega, by omega, by omega, by omega, by omega, by omega, by omega, by omega, by omega, by omega, by omega, by omega, by omega, by omega, by omega, by omega, by omega, by omega, by omega, by omega, by omega, by omega, by omega, by omega, by omega, by omega, by omega, by omega, by omega, by omega, by omega⟩ m1788 (fun j j0 j1 => by rcases (show j = 0 ∨ j = 1 ∨ j = 2 ∨ j = 3 ∨ j = 4 ∨ j = 5 from by omega) with rfl | rfl | rfl | rfl | rfl | rfl <;> [(rw [q1734]; omega); (rw [q1735]; omega); (rw [q1736]; omega); (rw [q1737]; omega); (rw [q1738]; omega); (rw [q1739]; omega)]) m1792 (fun j j0 j1 => by rcases (show j = 0 ∨ j = 1 ∨ j = 2 ∨ j = 3 ∨ j = 4 ∨ j = 5 from by omega) with rfl | rfl | rfl | rfl | rfl | rfl <;> [(rw [q1749]; omega); (rw [q1750]; omega); (rw [q1751]; omega); (rw [q1752]; omega); (rw [q1753]; omega); (rw [q1754]; omega)]) ⟨_, m1795⟩
          exact k0 _ (g_mbu g hh c A1732) h1781 ivn ch_gmbu (by omega) (by omega)
      · refine w_icI (x := (-2)) wn_2 (w_ri ?_)
        exact k1 (-2) h iv F (by omega) (by omega)
    · refine w_eqzt (by omega) (by omega) (by omega)  (w_run k_602142 (w_icI (x := (-2)) wn_2 (w_ri ?_)))
      exact k1 (-2) h iv F (by omega) (by omega)
  · refine w_eqzt (by omega) (by omega) (by omega)  (w_run k_602142 (w_icI (x := (-2)) wn_2 (w_ri ?_)))
    exact k1 (-2) h iv F (by omega) (by omega)
