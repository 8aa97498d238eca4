theorem iv_mP {g : w_G} {o : w_O} {h : m_H} (iv : w_Inv g o h) : ∀ j : Int, 0 ≤ j → j < g_mnp g → 0 ≤ g_mPK g j ∧ g_mPK g j ≤ 5 ∧ 0 ≤ g_mPN g j ∧ g_mPN g j ≤ 9 := by
  obtain ⟨_, hw, _⟩ := iv
  obtain ⟨-, -, -, -, -, -, -, -, -, -, -, -, -, -, -, -, -, -, -, -, -, -, -, -, -, -, -, -, hP⟩ := hw
  exact hP
theorem k_573440 : m_cg 573440 = g_140_0 := rfl
theorem k_573454 : m_cg 573454 = g_140_14 := rfl
theorem k_573455 : m_cg 573455 = g_140_15 := rfl
theorem c_mIsIn {g : w_G} {o : w_O} {h : m_H} {d : Nat} {Q : Option m_V → m_H → Prop} (iv : w_Inv g o h) {n : Int} {ln : Int} {mn : Int} (n_lo : -2147483648 ≤ n) (n_hi : n ≤ 2147483647) (ln_lo : -2147483648 ≤ ln) (ln_hi : ln ≤ 2147483647) (mn_lo : -2147483648 ≤ mn) (mn_hi : mn ≤ 2147483647) (k0 : ln ≤ n → n ≤ mn → Q (some (.inl (w_i 1))) h) (k1 : (n < ln ∨ mn < n) → Q (some (.inl (w_i 0))) h) : wp d 573440 [.inl (w_i n), .inl (w_i ln), .inl (w_i mn)] [] h Q := by
  have W := iv_wm iv
  refine w_run k_573440 (w_il (fun _ => rfl) (w_il (fun _ => rfl) ?_))
  refine w_lt2 (by omega) (by omega) (by omega) (by omega)  (fun c1 => ?_) (fun c1 => ?_)
  · refine w_run k_573454 (w_icI (x := 0) rfl (w_rz (by decide) ?_))
    exact k1 (by omega)
  · refine w_il (fun _ => rfl) (w_il (fun _ => rfl) ?_)
    refine w_gt2 (by omega) (by omega) (by omega) (by omega)  (fun c2 => ?_) (fun c2 => ?_)
    · refine w_run k_573454 (w_icI (x := 0) rfl (w_rz (by decide) ?_))
      exact k1 (by omega)
    · refine w_icI (x := 1) rfl (w_go (w_run k_573455 (w_rz (by decide) ?_)))
      exact k0 (by omega) (by omega)
theorem k_581632 : m_cg 581632 = g_142_0 := rfl
theorem k_581648 : m_cg 581648 = g_142_16 := rfl
theorem k_581649 : m_cg 581649 = g_142_17 := rfl
theorem c_mIsHouse {g : w_G} {o : w_O} {h : m_H} {d : Nat} {Q : Option m_V → m_H → Prop} (iv : w_Inv g o h) {n : Int} (n_lo : -2147483648 ≤ n) (n_hi : n ≤ 2147483647) (k0 : 0 ≤ n → n < g_mH g → Q (some (.inl (w_i 1))) h) (k1 : (n < 0 ∨ g_mH g ≤ n) → Q (some (.inl (w_i 0))) h) : wp d 581632 [.inr (.inl (some 31)), .inl (w_i n)] [] h Q := by
  have W := iv_wm iv
  refine w_run k_581632 (w_il (fun _ => rfl) ?_)
  refine w_ltz2 (by omega) (by omega)  (fun c1 => ?_) (fun c1 => ?_)
  · refine w_run k_581648 (w_icI (x := 0) rfl (w_rz (by decide) ?_))
    exact k1 (by omega)
  · refine w_il (fun _ => rfl) (w_al (fun _ => rfl) ?_)
    obtain ⟨_, m2, spr2, kee2, rul2, tpd2, nxt2, tok2, tka2, val2, opn2, hm2, row2, ksp2, kke2, kru2, rfl, l2_spr, u2_spr, l2_kee, u2_kee, l2_rul, u2_rul, l2_tpd, u2_tpd, l2_nxt, u2_nxt, l2_tok, u2_tok, l2_tka, u2_tka, l2_val, u2_val, l2_opn, u2_opn, l2_hm, u2_hm, l2_row, u2_row, l2_ksp, u2_ksp, l2_kke, u2_kke, l2_kru, u2_kru, f2_0, f2_1, f2_2, f2_3, f2_4, f2_5, f2_6, f2_7, f2_8, f2_9⟩ := iv_31 iv
    refine w_getf m2 rfl (fun _ => rfl) ?_
    refine w_ge2 (by omega) (by omega) (by omega) (by omega)  (fun c3 => ?_) (fun c3 => ?_)
    · refine w_run k_581648 (w_icI (x := 0) rfl (w_rz (by decide) ?_))
      exact k1 (by omega)
    · refine w_icI (x := 1) rfl (w_go (w_run k_581649 (w_rz (by decide) ?_)))
      exact k0 (by omega) (by omega)
theorem k_585728 : m_cg 585728 = g_143_0 := rfl
theorem k_585744 : m_cg 585744 = g_143_16 := rfl
theorem k_585745 : m_cg 585745 = g_143_17 := rfl
theorem c_mIsColour {g : w_G} {o : w_O} {h : m_H} {d : Nat} {Q : Option m_V → m_H → Prop} (iv : w_Inv g o h) {n : Int} (n_lo : -2147483648 ≤ n) (n_hi : n ≤ 2147483647) (k0 : 0 ≤ n → n < g_mC g → Q (some (.inl (w_i 1))) h) (k1 : (n < 0 ∨ g_mC g ≤ n) → Q (some (.inl (w_i 0))) h) : wp d 585728 [.inr (.inl (some 31)), .inl (w_i n)] [] h Q := by
  have W := iv_wm iv
  refine w_run k_585728 (w_il (fun _ => rfl) ?_)
  refine w_ltz2 (by omega) (by omega)  (fun c1 => ?_) (fun c1 => ?_)
  · refine w_run k_585744 (w_icI (x := 0) rfl (w_rz (by decide) ?_))
    exact k1 (by omega)
  · refine w_il (fun _ => rfl) (w_al (fun _ => rfl) ?_)
    obtain ⟨_, m2, spr2, kee2, rul2, tpd2, nxt2, tok2, tka2, val2, opn2, hm2, row2, ksp2, kke2, kru2, rfl, l2_spr, u2_spr, l2_kee, u2_kee, l2_rul, u2_rul, l2_tpd, u2_tpd, l2_nxt, u2_nxt, l2_tok, u2_tok, l2_tka, u2_tka, l2_val, u2_val, l2_opn, u2_opn, l2_hm, u2_hm, l2_row, u2_row, l2_ksp, u2_ksp, l2_kke, u2_kke, l2_kru, u2_kru, f2_0, f2_1, f2_2, f2_3, f2_4, f2_5, f2_6, f2_7, f2_8, f2_9⟩ := iv_31 iv
    refine w_getf m2 rfl (fun _ => rfl) ?_
    refine w_ge2 (by omega) (by omega) (by omega) (by omega)  (fun c3 => ?_) (fun c3 => ?_)
    · refine w_run k_585744 (w_icI (x := 0) rfl (w_rz (by decide) ?_))
      exact k1 (by omega)
    · refine w_icI (x := 1) rfl (w_go (w_run k_585745 (w_rz (by decide) ?_)))
      exact k0 (by omega) (by omega)
theorem k_606208 : m_cg 606208 = g_148_0 := rfl
theorem k_606233 : m_cg 606233 = g_148_25 := rfl
theorem k_606234 : m_cg 606234 = g_148_26 := rfl
theorem c_mAreTwo {g : w_G} {o : w_O} {h : m_H} {d : Nat} {Q : Option m_V → m_H → Prop} (iv : w_Inv g o h) {a : Int} {b : Int} (a_lo : -2147483648 ≤ a) (a_hi : a ≤ 2147483647) (b_lo : -2147483648 ≤ b) (b_hi : b ≤ 2147483647) (k0 : 0 ≤ a → a < g_mH g → 0 ≤ b → b < g_mH g → a ≠ b → Q (some (.inl (w_i 1))) h) (k1 : (a < 0 ∨ g_mH g ≤ a ∨ b < 0 ∨ g_mH g ≤ b ∨ a = b) → Q (some (.inl (w_i 0))) h) : wp (d + 1) 606208 [.inr (.inl (some 31)), .inl (w_i a), .inl (w_i b)] [] h Q := by
  have W := iv_wm iv
  refine w_run k_606208 (w_al (fun _ => rfl) (w_il (fun _ => rfl) ?_))
  obtain ⟨_, m1, spr1, kee1, rul1, tpd1, nxt1, tok1, tka1, val1, opn1, hm1, row1, ksp1, kke1, kru1, rfl, l1_spr, u1_spr, l1_kee, u1_kee, l1_rul, u1_rul, l1_tpd, u1_tpd, l1_nxt, u1_nxt, l1_tok, u1_tok, l1_tka, u1_tka, l1_val, u1_val, l1_opn, u1_opn, l1_hm, u1_hm, l1_row, u1_row, l1_ksp, u1_ksp, l1_kke, u1_kke, l1_kru, u1_kru, f1_0, f1_1, f1_2, f1_3, f1_4, f1_5, f1_6, f1_7, f1_8, f1_9⟩ := iv_31 iv
  refine w_this (fun _ => rfl) m1 ?_
  refine w_ca (fun _ => rfl) rfl (c_mIsHouse (d := d) iv (n := a) (by omega) (by omega)   (fun b2 b3 => ⟨_, rfl, ?_⟩) (fun b4 => ⟨_, rfl, ?_⟩))
  · refine w_eqzf (by omega) (by omega) (by omega)  (w_al (fun _ => rfl) (w_il (fun _ => rfl) (w_this (fun _ => rfl) m1 ?_)))
    refine w_ca (fun _ => rfl) rfl (c_mIsHouse (d := d) iv (n := b) (by omega) (by omega)   (fun b5 b6 => ⟨_, rfl, ?_⟩) (fun b7 => ⟨_, rfl, ?_⟩))
    · refine w_eqzf (by omega) (by omega) (by omega)  (w_il (fun _ => rfl) (w_il (fun _ => rfl) ?_))
      refine w_eq2 (by omega) (by omega) (by omega) (by omega)  (fun c8 => ?_) (fun c8 => ?_)
      · refine w_run k_606233 (w_icI (x := 0) rfl (w_rz (by decide) ?_))
        exact k1 (by omega)
      · refine w_icI (x := 1) rfl (w_go (w_run k_606234 (w_rz (by decide) ?_)))
        exact k0 (by omega) (by omega) (by omega) (by omega) (by omega)
    · refine w_eqzt (by omega) (by omega) (by omega)  (w_run k_606233 (w_icI (x := 0) rfl (w_rz (by decide) ?_)))
      exact k1 (by omega)
  · refine w_eqzt (by omega) (by omega) (by omega)  (w_run k_606233 (w_icI (x := 0) rfl (w_rz (by decide) ?_)))
    exact k1 (by omega)
theorem k_618496 : m_cg 618496 = g_151_0 := rfl
theorem k_618507 : m_cg 618507 = g_151_11 := rfl
theorem k_618540 : m_cg 618540 = g_151_44 := rfl
theorem k_618547 : m_cg 618547 = g_151_51 := rfl
theorem k_618554 : m_cg 618554 = g_151_58 := rfl
theorem k_618563 : m_cg 618563 = g_151_67 := rfl
theorem k_618570 : m_cg 618570 = g_151_74 := rfl
theorem c_mTold {g : w_G} {o : w_O} {h : m_H} {d : Nat} {Q : Option m_V → m_H → Prop} (iv : w_Inv g o h) {house : Int} {what : Int} (house_lo : -2147483648 ≤ house) (house_hi : house ≤ 2147483647) (what_lo : -2147483648 ≤ what) (what_hi : what ≤ 2147483647) (k0 : ∀ (x : Int), -2147483648 ≤ x → x ≤ 2147483647 → Q (some (.inl (w_i x))) h) : wp (d + 1) 618496 [.inr (.inl (some 31)), .inl (w_i house), .inl (w_i what)] [] h Q := by
  have W := iv_wm iv
  refine w_run k_618496 (w_al (fun _ => rfl) (w_il (fun _ => rfl) ?_))
  obtain ⟨_, m1, spr1, kee1, rul1, tpd1, nxt1, tok1, tka1, val1, opn1, hm1, row1, ksp1, kke1, kru1, rfl, l1_spr, u1_spr, l1_kee, u1_kee, l1_rul, u1_rul, l1_tpd, u1_tpd, l1_nxt, u1_nxt, l1_tok, u1_tok, l1_tka, u1_tka, l1_val, u1_val, l1_opn, u1_opn, l1_hm, u1_hm, l1_row, u1_row, l1_ksp, u1_ksp, l1_kke, u1_kke, l1_kru, u1_kru, f1_0, f1_1, f1_2, f1_3, f1_4, f1_5, f1_6, f1_7, f1_8, f1_9⟩ := iv_31 iv
  refine w_this (fun _ => rfl) m1 ?_
  refine w_ca (fun _ => rfl) rfl (c_mIsHouse (d := d) iv (n := house) (by omega) (by omega)   (fun b2 b3 => ⟨_, rfl, ?_⟩) (fun b4 => ⟨_, rfl, ?_⟩))
  · refine w_nezt (by omega) (by omega) (by omega)  (w_run k_618507 (w_il (fun _ => rfl) ?_))
    by_cases c5 : what = 0
    · rw [show (what : Int) = 0 from c5]
      refine w_tsw (t := 618540) (fun _ => rfl) (w_run k_618540 (w_al (fun _ => rfl) (w_getf m1 rfl (fun _ => rfl) (w_il (fun _ => rfl) ?_))))
      obtain ⟨_, m6, A6, rfl, e6⟩ := iv_33 iv
      refine w_aldI m6 (by omega) (by omega) (by omega) ?_
      obtain ⟨b7, b8⟩ := ag_rg A6 house
      have e9 := e6 house (by omega) (by omega)
      refine w_ri ?_
      exact k0 (a_g A6 house) (by omega) (by omega)
    by_cases c10 : what = 1
    · rw [show (what : Int) = 1 from c10]
      refine w_tsw (t := 618547) (fun _ => rfl) (w_run k_618547 (w_al (fun _ => rfl) (w_getf m1 rfl (fun _ => rfl) (w_il (fun _ => rfl) ?_))))
      obtain ⟨_, m11, A11, rfl⟩ := iv_34 iv
      refine w_aldI m11 (by omega) (by omega) (by omega) ?_
      obtain ⟨b12, b13⟩ := ag_rg A11 house
      refine w_ri ?_
      exact k0 (a_g A11 house) (by omega) (by omega)
    by_cases c14 : what = 2
    · rw [show (what : Int) = 2 from c14]
      refine w_tsw (t := 618554) (fun _ => rfl) (w_run k_618554 (w_al (fun _ => rfl) (w_getf m1 rfl (fun _ => rfl) (w_il (fun _ => rfl) (w_opR shr_lt (fun x15 x150 x151 x15e => ?_))))))
      refine w_icI (x := 1) rfl (w_op01 and_1 (fun x16 x160 x161 x16e => ?_))
      refine w_ri ?_
      exact k0 x16 (by omega) (by omega)
    by_cases c17 : what = 3
    · rw [show (what : Int) = 3 from c17]
      refine w_tsw (t := 618563) (fun _ => rfl) (w_run k_618563 (w_al (fun _ => rfl) (w_getf m1 rfl (fun _ => rfl) (w_il (fun _ => rfl) ?_))))
      obtain ⟨_, m18, A18, rfl, e18⟩ := iv_32 iv
      refine w_aldI m18 (by omega) (by omega) (by omega) ?_
      obtain ⟨b19, b20⟩ := ag_rg A18 house
      have e21 := e18 house (by omega) (by omega)
      refine w_ri ?_
      exact k0 (a_g A18 house) (by omega) (by omega)
    refine w_tswD (by omega) (by omega) (by show _ ∨ ((4 : Nat) : Int) ≤ _; omega) (by decide) (w_run k_618570 (w_icI (x := (-2)) wn_2 (w_ri ?_)))
    exact k0 (-2) (by omega) (by omega)
  · refine w_nezf (by omega) (by omega) (by omega)  (w_icI (x := (-2)) wn_2 (w_ri ?_))
    exact k0 (-2) (by omega) (by omega)
theorem k_614400 : m_cg 614400 = g_150_0 := rfl
theorem k_614433 : m_cg 614433 = g_150_33 := rfl
theorem k_614453 : m_cg 614453 = g_150_53 := rfl
theorem k_614465 : m_cg 614465 = g_150_65 := rfl
theorem k_614483 : m_cg 614483 = g_150_83 := rfl
theorem k_614500 : m_cg 614500 = g_150_100 := rfl
theorem k_614513 : m_cg 614513 = g_150_113 := rfl
theorem k_614527 : m_cg 614527 = g_150_127 := rfl
theorem k_614548 : m_cg 614548 = g_150_148 := rfl
theorem k_614560 : m_cg 614560 = g_150_160 := rfl
theorem k_614583 : m_cg 614583 = g_150_183 := rfl
theorem k_614535 : m_cg 614535 = g_150_135 := rfl
theorem k_614497 : m_cg 614497 = g_150_97 := rfl
theorem k_614450 : m_cg 614450 = g_150_50 := rfl
theorem k_614419 : m_cg 614419 = g_150_19 := rfl
theorem c_mSet {g : w_G} {o : w_O} {h : m_H} {d : Nat} {Q : Option m_V → m_H → Prop} (iv : w_Inv g o h) {what : Int} {of : Int} {v : Int} (what_lo : -2147483648 ≤ what) (what_hi : what ≤ 2147483647) (of_lo : -2147483648 ≤ of) (of_hi : of ≤ 2147483647) (v_lo : -2147483648 ≤ v) (v_hi : v ≤ 2147483647) (k0 : ∀ (x : Int), ∀ h2 : m_H, w_Inv g o h2 → w_fr o [31, 33, 34] h h2 → -2147483648 ≤ x → x ≤ 2147483647 → Q (some (.inl (w_i x))) h2) : wp (d + 1) 614400 [.inr (.inl (some 31)), .inl (w_i what), .inl (w_i of), .inl (w_i v), .inr (.inr (.inl 0))] [] h Q := by
  have F := fr_rf (o := o) (h := h) (W := [31, 33, 34])
  have W := iv_wm iv
  refine w_run k_614400 (w_il (fun _ => rfl) (w_icI (x := 3) rfl ?_))
  refine w_ne2 (by omega) (by omega) (by omega) (by omega)  (fun c1 => ?_) (fun c1 => ?_)
  · refine w_run k_614433 (w_il (fun _ => rfl) (w_icI (x := 0) rfl (w_icI (x := 2) rfl ?_)))
    refine w_ca (fun _ => rfl) rfl (c_mIsIn (d := d) iv (n := what) (ln := 0) (mn := 2) (by omega) (by omega) (by omega) (by omega) (by omega) (by omega)   (fun b2 b3 => ⟨_, rfl, ?_⟩) (fun b4 => ⟨_, rfl, ?_⟩))
    · refine w_eqzf (by omega) (by omega) (by omega)  (w_al (fun _ => rfl) (w_il (fun _ => rfl) ?_))
      obtain ⟨_, m5, spr5, kee5, rul5, tpd5, nxt5, tok5, tka5, val5, opn5, hm5, row5, ksp5, kke5, kru5, rfl, l5_spr, u5_spr, l5_kee, u5_kee, l5_rul, u5_rul, l5_tpd, u5_tpd, l5_nxt, u5_nxt, l5_tok, u5_tok, l5_tka, u5_tka, l5_val, u5_val, l5_opn, u5_opn, l5_hm, u5_hm, l5_row, u5_row, l5_ksp, u5_ksp, l5_kke, u5_kke, l5_kru, u5_kru, f5_0, f5_1, f5_2, f5_3, f5_4, f5_5, f5_6, f5_7, f5_8, f5_9⟩ := iv_31 iv
      refine w_this (fun _ => rfl) m5 ?_
      refine w_ca (fun _ => rfl) rfl (c_mIsHouse (d := d) iv (n := of) (by omega) (by omega)   (fun b6 b7 => ⟨_, rfl, ?_⟩) (fun b8 => ⟨_, rfl, ?_⟩))
      · refine w_nezt (by omega) (by omega) (by omega)  (w_run k_614453 (w_il (fun _ => rfl) ?_))
        refine w_nez2 (by omega) (by omega)  (fun c9 => ?_) (fun c9 => ?_)
        · refine w_run k_614465 (w_il (fun _ => rfl) (w_icI (x := 1) rfl ?_))
          refine w_ne2 (by omega) (by omega) (by omega) (by omega)  (fun c10 => ?_) (fun c10 => ?_)
          · refine w_run k_614483 (w_il (fun _ => rfl) (w_icI (x := 2) rfl ?_))
            refine w_ne2 (by omega) (by omega) (by omega) (by omega)  (fun c11 => ?_) (fun c11 => ?_)
            · refine w_run k_614500 (w_il (fun _ => rfl) ?_)
              refine w_nez2 (by omega) (by omega)  (fun c12 => ?_) (fun c12 => ?_)
              · refine w_run k_614513 (w_il (fun _ => rfl) (w_icI (x := 1) rfl ?_))
                refine w_ne2 (by omega) (by omega) (by omega) (by omega)  (fun c13 => ?_) (fun c13 => ?_)
                · refine w_run k_614527 (w_al (fun _ => rfl) (w_getf m5 rfl (fun _ => rfl) (w_il (fun _ => rfl) (w_opR shr_lt (fun x14 x140 x141 x14e => ?_)))))
                  refine w_icI (x := 1) rfl (w_op01 and_1 (fun x15 x150 x151 x15e => ?_))
                  refine w_is (fun _ => rfl) (w_il (fun _ => rfl) ?_)
                  refine w_nez2 (by omega) (by omega)  (fun c16 => ?_) (fun c16 => ?_)
                  · refine w_run k_614548 (w_il (fun _ => rfl) (w_icI (x := 1) rfl ?_))
                    refine w_ne2 (by omega) (by omega) (by omega) (by omega)  (fun c17 => ?_) (fun c17 => ?_)
                    · refine w_run k_614560 (w_il (fun _ => rfl) (w_icI (x := 2) rfl ?_))
                      refine w_ne2 (by omega) (by omega) (by omega) (by omega)  (fun c18 => ?_) (fun c18 => ?_)
                      · refine w_run k_614583 (w_il (fun _ => rfl) (w_ri ?_))
                        exact k0 x15 h iv F (by omega) (by omega)
                      · refine w_il (fun _ => rfl) (w_il (fun _ => rfl) ?_)
                        refine w_eq2 (by omega) (by omega) (by omega) (by omega)  (fun c19 => ?_) (fun c19 => ?_)
                        · refine w_run k_614583 (w_il (fun _ => rfl) (w_ri ?_))
                          exact k0 x15 h iv F (by omega) (by omega)
                        · refine w_al (fun _ => rfl) (w_dup (fun _ => rfl) (w_getf m5 rfl (fun _ => rfl) (w_icI (x := 1) rfl (w_il (fun _ => rfl) (w_opR shl_lt (fun x20 x200 x201 x20e => ?_))))))
                          refine w_opR xor_lt (fun x21 x210 x211 x21e => ?_)
                          refine w_putf [.inr (.inl (some 32)), .inr (.inl (some 33)), .inr (.inl (some 34)), .inr (.inl (some 35)), .inr (.inl (some 36)), .inl (w_i (g_mH g)), .inl (w_i (g_mC g)), .inl (w_i spr5), .inl (w_i x21), .inl (w_i (g_mnp g)), .inl (w_i rul5), .inl (w_i (g_mhi g)), .inr (.inl (some 37)), .inr (.inl (some 50)), .inr (.inl (some 51)), .inr (.inl (some 52)), .inr (.inl (some 53)), .inr (.inl (some 54)), .inl (w_i tpd5), .inl (w_i (g_mnt g)), .inl (w_i nxt5), .inl (w_i tok5), .inl (w_i tka5), .inl (w_i val5), .inl (w_i opn5), .inl (w_i hm5), .inl (w_i row5), .inr (.inl (some 55)), .inr (.inl (some 56)), .inr (.inl (some 57)), .inr (.inl (some 58)), .inr (.inl (some 59)), .inr (.inl (some 60)), .inr (.inl (some 61)), .inr (.inl (some 62)), .inl (w_i ksp5), .inl (w_i kke5), .inl (w_i kru5), .inr (.inl (some 63)), .inr (.inl (some 64)), .inr (.inl (some 65)), .inr (.inl (some 66))] m5 rfl rfl rfl (fun _ => rfl) (fun h23 s22 => ?_)
                          have iv24 := is_31 iv s22 ⟨_, _, _, _, _, _, _, _, _, _, _, _, _, _, rfl, by omega, by omega, by omega, by omega, by omega, by omega, by omega, by omega, by omega, by omega, by omega, by omega, by omega, by omega, by omega, by omega, by omega, by omega, by omega, by omega, by omega, by omega, by omega, by omega, by omega, by omega, by omega, by omega, by omega, by omega, by omega, by omega, by omega, by omega, by omega, by omega, by omega, by omega⟩
                          have F25 := fr_st F s22 (by rw [(ow_31 iv)]; rfl)
                          refine w_il (fun _ => rfl) (w_ri ?_)
                          exact k0 x15 h23 iv24 F25 (by omega) (by omega)
                    · refine w_al (fun _ => rfl) (w_getf m5 rfl (fun _ => rfl) (w_il (fun _ => rfl) (w_il (fun _ => rfl) ?_)))
                      obtain ⟨_, m26, A26, rfl⟩ := iv_34 iv
                      refine w_astI m26 (by omega) (by omega) (by omega) (by omega) (by omega) (fun A30 h28 w31 s27 => ?_)
                      have iv29 := is_34 iv s27 ⟨_, rfl⟩
                      have F32 := fr_st F s27 (by rw [(ow_34 iv)]; rfl)
                      refine w_il (fun _ => rfl) (w_icI (x := 2) rfl (w_net (by omega) (by omega) (by omega) (by omega) (by omega)  (w_run k_614583 (w_il (fun _ => rfl) (w_ri ?_)))))
                      exact k0 x15 h28 iv29 F32 (by omega) (by omega)
                  · refine w_al (fun _ => rfl) (w_getf m5 rfl (fun _ => rfl) (w_il (fun _ => rfl) (w_il (fun _ => rfl) ?_)))
                    obtain ⟨_, m33, A33, rfl, e33⟩ := iv_33 iv
                    refine w_astI m33 (by omega) (by omega) (by omega) (by omega) (by omega) (fun A37 h35 w38 s34 => ?_)
                    have e39 : ∀ j : Int, 0 ≤ j → j < 6 → 0 ≤ a_g A37 j ∧ a_g A37 j < g_mC g := fun j j0 j1 => by
                      rw [w38 j j0 j1]
                      by_cases hj : j = of
                      · rw [if_pos hj]; omega
                      · rw [if_neg hj]; exact e33 j j0 j1
                    have iv36 := is_33 iv s34 ⟨_, rfl, e39⟩
                    have F40 := fr_st F s34 (by rw [(ow_33 iv)]; rfl)
                    refine w_il (fun _ => rfl) (w_icI (x := 1) rfl (w_net (by omega) (by omega) (by omega) (by omega) (by omega)  (w_run k_614560 (w_il (fun _ => rfl) (w_icI (x := 2) rfl (w_net (by omega) (by omega) (by omega) (by omega) (by omega)  (w_run k_614583 (w_il (fun _ => rfl) (w_ri ?_)))))))))
                    exact k0 x15 h35 iv36 F40 (by omega) (by omega)
                · refine w_al (fun _ => rfl) (w_getf m5 rfl (fun _ => rfl) (w_il (fun _ => rfl) ?_))
                  obtain ⟨_, m41, A41, rfl⟩ := iv_34 iv
                  refine w_aldI m41 (by omega) (by omega) (by omega) ?_
                  obtain ⟨b42, b43⟩ := ag_rg A41 of
                  refine w_go (w_run k_614535 (w_is (fun _ => rfl) (w_il (fun _ => rfl) (w_nezt (by omega) (by omega) (by omega)  (w_run k_614548 (w_il (fun _ => rfl) (w_icI (x := 1) rfl (w_nef (by omega) (by omega) (by omega) (by omega) (by omega)  (w_al (fun _ => rfl) (w_getf m5 rfl (fun _ => rfl) (w_il (fun _ => rfl) (w_il (fun _ => rfl) (w_astI m41 (by omega) (by omega) (by omega) (by omega) (by omega) (fun A47 h45 w48 s44 => ?_))))))))))))))
                  have iv46 := is_34 iv s44 ⟨_, rfl⟩
                  have F49 := fr_st F s44 (by rw [(ow_34 iv)]; rfl)
                  refine w_il (fun _ => rfl) (w_icI (x := 2) rfl (w_net (by omega) (by omega) (by omega) (by omega) (by omega)  (w_run k_614583 (w_il (fun _ => rfl) (w_ri ?_)))))
                  exact k0 (a_g A41 of) h45 iv46 F49 (by omega) (by omega)
              · refine w_al (fun _ => rfl) (w_getf m5 rfl (fun _ => rfl) (w_il (fun _ => rfl) ?_))
                obtain ⟨_, m50, A50, rfl, e50⟩ := iv_33 iv
                refine w_aldI m50 (by omega) (by omega) (by omega) ?_
                obtain ⟨b51, b52⟩ := ag_rg A50 of
                have e53 := e50 of (by omega) (by omega)
                refine w_go (w_run k_614535 (w_is (fun _ => rfl) (w_il (fun _ => rfl) (w_nezf (by omega) (by omega) (by omega)  (w_al (fun _ => rfl) (w_getf m5 rfl (fun _ => rfl) (w_il (fun _ => rfl) (w_il (fun _ => rfl) (w_astI m50 (by omega) (by omega) (by omega) (by omega) (by omega) (fun A57 h55 w58 s54 => ?_))))))))))
                have e59 : ∀ j : Int, 0 ≤ j → j < 6 → 0 ≤ a_g A57 j ∧ a_g A57 j < g_mC g := fun j j0 j1 => by
                  rw [w58 j j0 j1]
                  by_cases hj : j = of
                  · rw [if_pos hj]; omega
                  · rw [if_neg hj]; exact e50 j j0 j1
                have iv56 := is_33 iv s54 ⟨_, rfl, e59⟩
                have F60 := fr_st F s54 (by rw [(ow_33 iv)]; rfl)
                refine w_il (fun _ => rfl) (w_icI (x := 1) rfl (w_net (by omega) (by omega) (by omega) (by omega) (by omega)  (w_run k_614560 (w_il (fun _ => rfl) (w_icI (x := 2) rfl (w_net (by omega) (by omega) (by omega) (by omega) (by omega)  (w_run k_614583 (w_il (fun _ => rfl) (w_ri ?_)))))))))
                exact k0 (a_g A50 of) h55 iv56 F60 (by omega) (by omega)
            · refine w_il (fun _ => rfl) (w_icI (x := 0) rfl (w_icI (x := 1) rfl ?_))
              refine w_ca (fun _ => rfl) rfl (c_mIsIn (d := d) iv (n := v) (ln := 0) (mn := 1) (by omega) (by omega) (by omega) (by omega) (by omega) (by omega)   (fun b61 b62 => ⟨_, rfl, ?_⟩) (fun b63 => ⟨_, rfl, ?_⟩))
              · refine w_nezt (by omega) (by omega) (by omega)  (w_run k_614500 (w_il (fun _ => rfl) (w_nezt (by omega) (by omega) (by omega)  (w_run k_614513 (w_il (fun _ => rfl) (w_icI (x := 1) rfl (w_net (by omega) (by omega) (by omega) (by omega) (by omega)  (w_run k_614527 (w_al (fun _ => rfl) (w_getf m5 rfl (fun _ => rfl) (w_il (fun _ => rfl) (w_opR shr_lt (fun x64 x640 x641 x64e => ?_)))))))))))))
                refine w_icI (x := 1) rfl (w_op01 and_1 (fun x65 x650 x651 x65e => ?_))
                refine w_is (fun _ => rfl) (w_il (fun _ => rfl) (w_nezt (by omega) (by omega) (by omega)  (w_run k_614548 (w_il (fun _ => rfl) (w_icI (x := 1) rfl (w_net (by omega) (by omega) (by omega) (by omega) (by omega)  (w_run k_614560 (w_il (fun _ => rfl) (w_icI (x := 2) rfl (w_nef (by omega) (by omega) (by omega) (by omega) (by omega)  (w_il (fun _ => rfl) (w_il (fun _ => rfl) ?_))))))))))))
                refine w_eq2 (by omega) (by omega) (by omega) (by omega)  (fun c66 => ?_) (fun c66 => ?_)
                · refine w_run k_614583 (w_il (fun _ => rfl) (w_ri ?_))
                  exact k0 x65 h iv F (by omega) (by omega)
                · refine w_al (fun _ => rfl) (w_dup (fun _ => rfl) (w_getf m5 rfl (fun _ => rfl) (w_icI (x := 1) rfl (w_il (fun _ => rfl) (w_opR shl_lt (fun x67 x670 x671 x67e => ?_))))))
                  refine w_opR xor_lt (fun x68 x680 x681 x68e => ?_)
                  refine w_putf [.inr (.inl (some 32)), .inr (.inl (some 33)), .inr (.inl (some 34)), .inr (.inl (some 35)), .inr (.inl (some 36)), .inl (w_i (g_mH g)), .inl (w_i (g_mC g)), .inl (w_i spr5), .inl (w_i x68), .inl (w_i (g_mnp g)), .inl (w_i rul5), .inl (w_i (g_mhi g)), .inr (.inl (some 37)), .inr (.inl (some 50)), .inr (.inl (some 51)), .inr (.inl (some 52)), .inr (.inl (some 53)), .inr (.inl (some 54)), .inl (w_i tpd5), .inl (w_i (g_mnt g)), .inl (w_i nxt5), .inl (w_i tok5), .inl (w_i tka5), .inl (w_i val5), .inl (w_i opn5), .inl (w_i hm5), .inl (w_i row5), .inr (.inl (some 55)), .inr (.inl (some 56)), .inr (.inl (some 57)), .inr (.inl (some 58)), .inr (.inl (some 59)), .inr (.inl (some 60)), .inr (.inl (some 61)), .inr (.inl (some 62)), .inl (w_i ksp5), .inl (w_i kke5), .inl (w_i kru5), .inr (.inl (some 63)), .inr (.inl (some 64)), .inr (.inl (some 65)), .inr (.inl (some 66))] m5 rfl rfl rfl (fun _ => rfl) (fun h70 s69 => ?_)
                  have iv71 := is_31 iv s69 ⟨_, _, _, _, _, _, _, _, _, _, _, _, _, _, rfl, by omega, by omega, by omega, by omega, by omega, by omega, by omega, by omega, by omega, by omega, by omega, by omega, by omega, by omega, by omega, by omega, by omega, by omega, by omega, by omega, by omega, by omega, by omega, by omega, by omega, by omega, by omega, by omega, by omega, by omega, by omega, by omega, by omega, by omega, by omega, by omega, by omega, by omega⟩
                  have F72 := fr_st F s69 (by rw [(ow_31 iv)]; rfl)
                  refine w_il (fun _ => rfl) (w_ri ?_)
                  exact k0 x65 h70 iv71 F72 (by omega) (by omega)
              · refine w_nezf (by omega) (by omega) (by omega)  (w_icI (x := (-2)) wn_2 (w_ri ?_))
                exact k0 (-2) h iv F (by omega) (by omega)
          · refine w_il (fun _ => rfl) (w_icI (x := (-1)) wn_1 ?_)
            refine w_eq2 (by omega) (by omega) (by omega) (by omega)  (fun c73 => ?_) (fun c73 => ?_)
            · refine w_run k_614483 (w_il (fun _ => rfl) (w_icI (x := 2) rfl (w_net (by omega) (by omega) (by omega) (by omega) (by omega)  (w_run k_614500 (w_il (fun _ => rfl) (w_nezt (by omega) (by omega) (by omega)  (w_run k_614513 (w_il (fun _ => rfl) (w_icI (x := 1) rfl (w_nef (by omega) (by omega) (by omega) (by omega) (by omega)  (w_al (fun _ => rfl) (w_getf m5 rfl (fun _ => rfl) (w_il (fun _ => rfl) ?_)))))))))))))
              obtain ⟨_, m74, A74, rfl⟩ := iv_34 iv
              refine w_aldI m74 (by omega) (by omega) (by omega) ?_
              obtain ⟨b75, b76⟩ := ag_rg A74 of
              refine w_go (w_run k_614535 (w_is (fun _ => rfl) (w_il (fun _ => rfl) (w_nezt (by omega) (by omega) (by omega)  (w_run k_614548 (w_il (fun _ => rfl) (w_icI (x := 1) rfl (w_nef (by omega) (by omega) (by omega) (by omega) (by omega)  (w_al (fun _ => rfl) (w_getf m5 rfl (fun _ => rfl) (w_il (fun _ => rfl) (w_il (fun _ => rfl) (w_astI m74 (by omega) (by omega) (by omega) (by omega) (by omega) (fun A80 h78 w81 s77 => ?_))))))))))))))
              have iv79 := is_34 iv s77 ⟨_, rfl⟩
              have F82 := fr_st F s77 (by rw [(ow_34 iv)]; rfl)
              refine w_il (fun _ => rfl) (w_icI (x := 2) rfl (w_net (by omega) (by omega) (by omega) (by omega) (by omega)  (w_run k_614583 (w_il (fun _ => rfl) (w_ri ?_)))))
              exact k0 (a_g A74 of) h78 iv79 F82 (by omega) (by omega)
            · refine w_al (fun _ => rfl) (w_il (fun _ => rfl) (w_this (fun _ => rfl) m5 ?_))
              refine w_ca (fun _ => rfl) rfl (c_mIsColour (d := d) iv (n := v) (by omega) (by omega)   (fun b83 b84 => ⟨_, rfl, ?_⟩) (fun b85 => ⟨_, rfl, ?_⟩))
              · refine w_eqzf (by omega) (by omega) (by omega)  (w_il (fun _ => rfl) (w_icI (x := 2) rfl (w_net (by omega) (by omega) (by omega) (by omega) (by omega)  (w_run k_614500 (w_il (fun _ => rfl) (w_nezt (by omega) (by omega) (by omega)  (w_run k_614513 (w_il (fun _ => rfl) (w_icI (x := 1) rfl (w_nef (by omega) (by omega) (by omega) (by omega) (by omega)  (w_al (fun _ => rfl) (w_getf m5 rfl (fun _ => rfl) (w_il (fun _ => rfl) ?_)))))))))))))
                obtain ⟨_, m86, A86, rfl⟩ := iv_34 iv
                refine w_aldI m86 (by omega) (by omega) (by omega) ?_
                obtain ⟨b87, b88⟩ := ag_rg A86 of
                refine w_go (w_run k_614535 (w_is (fun _ => rfl) (w_il (fun _ => rfl) (w_nezt (by omega) (by omega) (by omega)  (w_run k_614548 (w_il (fun _ => rfl) (w_icI (x := 1) rfl (w_nef (by omega) (by omega) (by omega) (by omega) (by omega)  (w_al (fun _ => rfl) (w_getf m5 rfl (fun _ => rfl) (w_il (fun _ => rfl) (w_il (fun _ => rfl) (w_astI m86 (by omega) (by omega) (by omega) (by omega) (by omega) (fun A92 h90 w93 s89 => ?_))))))))))))))
                have iv91 := is_34 iv s89 ⟨_, rfl⟩
                have F94 := fr_st F s89 (by rw [(ow_34 iv)]; rfl)
                refine w_il (fun _ => rfl) (w_icI (x := 2) rfl (w_net (by omega) (by omega) (by omega) (by omega) (by omega)  (w_run k_614583 (w_il (fun _ => rfl) (w_ri ?_)))))
                exact k0 (a_g A86 of) h90 iv91 F94 (by omega) (by omega)
              · refine w_eqzt (by omega) (by omega) (by omega)  (w_run k_614497 (w_icI (x := (-2)) wn_2 (w_ri ?_)))
                exact k0 (-2) h iv F (by omega) (by omega)
        · refine w_al (fun _ => rfl) (w_il (fun _ => rfl) (w_this (fun _ => rfl) m5 ?_))
          refine w_ca (fun _ => rfl) rfl (c_mIsColour (d := d) iv (n := v) (by omega) (by omega)   (fun b95 b96 => ⟨_, rfl, ?_⟩) (fun b97 => ⟨_, rfl, ?_⟩))
          · refine w_eqzf (by omega) (by omega) (by omega)  (w_il (fun _ => rfl) (w_icI (x := 1) rfl (w_net (by omega) (by omega) (by omega) (by omega) (by omega)  (w_run k_614483 (w_il (fun _ => rfl) (w_icI (x := 2) rfl (w_net (by omega) (by omega) (by omega) (by omega) (by omega)  (w_run k_614500 (w_il (fun _ => rfl) (w_nezf (by omega) (by omega) (by omega)  (w_al (fun _ => rfl) (w_getf m5 rfl (fun _ => rfl) (w_il (fun _ => rfl) ?_)))))))))))))
            obtain ⟨_, m98, A98, rfl, e98⟩ := iv_33 iv
            refine w_aldI m98 (by omega) (by omega) (by omega) ?_
            obtain ⟨b99, b100⟩ := ag_rg A98 of
            have e101 := e98 of (by omega) (by omega)
            refine w_go (w_run k_614535 (w_is (fun _ => rfl) (w_il (fun _ => rfl) (w_nezf (by omega) (by omega) (by omega)  (w_al (fun _ => rfl) (w_getf m5 rfl (fun _ => rfl) (w_il (fun _ => rfl) (w_il (fun _ => rfl) (w_astI m98 (by omega) (by omega) (by omega) (by omega) (by omega) (fun A105 h103 w106 s102 => ?_))))))))))
            have e107 : ∀ j : Int, 0 ≤ j → j < 6 → 0 ≤ a_g A105 j ∧ a_g A105 j < g_mC g := fun j j0 j1 => by
              rw [w106 j j0 j1]
              by_cases hj : j = of
              · rw [if_pos hj]; omega
              · rw [if_neg hj]; exact e98 j j0 j1
            have iv104 := is_33 iv s102 ⟨_, rfl, e107⟩
            have F108 := fr_st F s102 (by rw [(ow_33 iv)]; rfl)
            refine w_il (fun _ => rfl) (w_icI (x := 1) rfl (w_net (by omega) (by omega) (by omega) (by omega) (by omega)  (w_run k_614560 (w_il (fun _ => rfl) (w_icI (x := 2) rfl (w_net (by omega) (by omega) (by omega) (by omega) (by omega)  (w_run k_614583 (w_il (fun _ => rfl) (w_ri ?_)))))))))
            exact k0 (a_g A98 of) h103 iv104 F108 (by omega) (by omega)
          · refine w_eqzt (by omega) (by omega) (by omega)  (w_run k_614497 (w_icI (x := (-2)) wn_2 (w_ri ?_)))
            exact k0 (-2) h iv F (by omega) (by omega)
      · refine w_nezf (by omega) (by omega) (by omega)  (w_icI (x := (-2)) wn_2 (w_ri ?_))
        exact k0 (-2) h iv F (by omega) (by omega)
    · refine w_eqzt (by omega) (by omega) (by omega)  (w_run k_614450 (w_icI (x := (-2)) wn_2 (w_ri ?_)))
      exact k0 (-2) h iv F (by omega) (by omega)
  · refine w_il (fun _ => rfl) (w_icI (x := 0) rfl (w_icI (x := 999) rfl ?_))
    refine w_ca (fun _ => rfl) rfl (c_mIsIn (d := d) iv (n := v) (ln := 0) (mn := 999) (by omega) (by omega) (by omega) (by omega) (by omega) (by omega)   (fun b109 b110 => ⟨_, rfl, ?_⟩) (fun b111 => ⟨_, rfl, ?_⟩))
    · refine w_nezt (by omega) (by omega) (by omega)  (w_run k_614419 (w_al (fun _ => rfl) ?_))
      obtain ⟨_, m112, spr112, kee112, rul112, tpd112, nxt112, tok112, tka112, val112, opn112, hm112, row112, ksp112, kke112, kru112, rfl, l112_spr, u112_spr, l112_kee, u112_kee, l112_rul, u112_rul, l112_tpd, u112_tpd, l112_nxt, u112_nxt, l112_tok, u112_tok, l112_tka, u112_tka, l112_val, u112_val, l112_opn, u112_opn, l112_hm, u112_hm, l112_row, u112_row, l112_ksp, u112_ksp, l112_kke, u112_kke, l112_kru, u112_kru, f112_0, f112_1, f112_2, f112_3, f112_4, f112_5, f112_6, f112_7, f112_8, f112_9⟩ := iv_31 iv
      refine w_getf m112 rfl (fun _ => rfl) (w_is (fun _ => rfl) (w_al (fun _ => rfl) (w_il (fun _ => rfl) (w_putf [.inr (.inl (some 32)), .inr (.inl (some 33)), .inr (.inl (some 34)), .inr (.inl (some 35)), .inr (.inl (some 36)), .inl (w_i (g_mH g)), .inl (w_i (g_mC g)), .inl (w_i v), .inl (w_i kee112), .inl (w_i (g_mnp g)), .inl (w_i rul112), .inl (w_i (g_mhi g)), .inr (.inl (some 37)), .inr (.inl (some 50)), .inr (.inl (some 51)), .inr (.inl (some 52)), .inr (.inl (some 53)), .inr (.inl (some 54)), .inl (w_i tpd112), .inl (w_i (g_mnt g)), .inl (w_i nxt112), .inl (w_i tok112), .inl (w_i tka112), .inl (w_i val112), .inl (w_i opn112), .inl (w_i hm112), .inl (w_i row112), .inr (.inl (some 55)), .inr (.inl (some 56)), .inr (.inl (some 57)), .inr (.inl (some 58)), .inr (.inl (some 59)), .inr (.inl (some 60)), .inr (.inl (some 61)), .inr (.inl (some 62)), .inl (w_i ksp112), .inl (w_i kke112), .inl (w_i kru112), .inr (.inl (some 63)), .inr (.inl (some 64)), .inr (.inl (some 65)), .inr (.inl (some 66))] m112 rfl rfl rfl (fun _ => rfl) (fun h114 s113 => ?_)))))
      have iv115 := is_31 iv s113 ⟨_, _, _, _, _, _, _, _, _, _, _, _, _, _, rfl, by omega, by omega, by omega, by omega, by omega, by omega, by omega, by omega, by omega, by omega, by omega, by omega, by omega, by omega, by omega, by omega, by omega, by omega, by omega, by omega, by omega, by omega, by omega, by omega, by omega, by omega, by omega, by omega, by omega, by omega, by omega, by omega, by omega, by omega, by omega, by omega, by omega, by omega⟩
      have F116 := fr_st F s113 (by rw [(ow_31 iv)]; rfl)
      refine w_il (fun _ => rfl) (w_ri ?_)
      exact k0 spr112 h114 iv115 F116 (by omega) (by omega)
    · refine w_nezf (by omega) (by omega) (by omega)  (w_icI (x := (-2)) wn_2 (w_ri ?_))
      exact k0 (-2) h iv F (by omega) (by omega)
theorem k_638976 : m_cg 638976 = g_156_0 := rfl
theorem k_639005 : m_cg 639005 = g_156_29 := rfl
theorem k_639010 : m_cg 639010 = g_156_34 := rfl
theorem k_638995 : m_cg 638995 = g_156_19 := rfl
theorem k_639009 : m_cg 639009 = g_156_33 := rfl
theorem c_mIsUnder {g : w_G} {o : w_O} {h : m_H} {d : Nat} {Q : Option m_V → m_H → Prop} (iv : w_Inv g o h) {kd : Int} {kk : Int} (kd_lo : -2147483648 ≤ kd) (kd_hi : kd ≤ 2147483647) (kk_lo : -2147483648 ≤ kk) (kk_hi : kk ≤ 2147483647) (k0 : Q (some (.inl (w_i 1))) h) (k1 : Q (some (.inl (w_i 0))) h) : wp d 638976 [.inl (w_i kd), .inl (w_i kk)] [] h Q := by
  have W := iv_wm iv
  refine w_run k_638976 (w_il (fun _ => rfl) (w_il (fun _ => rfl) ?_))
  refine w_eq2 (by omega) (by omega) (by omega) (by omega)  (fun c1 => ?_) (fun c1 => ?_)
  · refine w_run k_639005 (w_icI (x := 1) rfl (w_go (w_run k_639010 (w_rz (by decide) ?_))))
    exact k0 
  · refine w_il (fun _ => rfl) ?_
    refine w_eqz2 (by omega) (by omega)  (fun c2 => ?_) (fun c2 => ?_)
    · refine w_run k_639005 (w_icI (x := 1) rfl (w_go (w_run k_639010 (w_rz (by decide) ?_))))
      exact k0 
    · refine w_il (fun _ => rfl) (w_icI (x := 1) rfl ?_)
      refine w_ne2 (by omega) (by omega) (by omega) (by omega)  (fun c3 => ?_) (fun c3 => ?_)
      · refine w_run k_638995 (w_il (fun _ => rfl) (w_icI (x := 2) rfl ?_))
        refine w_ne2 (by omega) (by omega) (by omega) (by omega)  (fun c4 => ?_) (fun c4 => ?_)
        · refine w_run k_639009 (w_icI (x := 0) rfl (w_rz (by decide) ?_))
          exact k1 
        · refine w_il (fun _ => rfl) (w_icI (x := 3) rfl ?_)
          refine w_le2 (by omega) (by omega) (by omega) (by omega)  (fun c5 => ?_) (fun c5 => ?_)
          · refine w_run k_639009 (w_icI (x := 0) rfl (w_rz (by decide) ?_))
            exact k1 
          · refine w_icI (x := 1) rfl (w_go (w_run k_639010 (w_rz (by decide) ?_)))
            exact k0 
      · refine w_il (fun _ => rfl) (w_icI (x := 3) rfl ?_)
        refine w_eq2 (by omega) (by omega) (by omega) (by omega)  (fun c6 => ?_) (fun c6 => ?_)
        · refine w_run k_639005 (w_icI (x := 1) rfl (w_go (w_run k_639010 (w_rz (by decide) ?_))))
          exact k0 
        · refine w_il (fun _ => rfl) (w_icI (x := 2) rfl (w_net (by omega) (by omega) (by omega) (by omega) (by omega)  (w_run k_639009 (w_icI (x := 0) rfl (w_rz (by decide) ?_)))))
          exact k1 
theorem k_643072 : m_cg 643072 = g_157_0 := rfl
theorem k_643084 : m_cg 643084 = g_157_12 := rfl
theorem k_643101 : m_cg 643101 = g_157_29 := rfl
theorem k_643125 : m_cg 643125 = g_157_53 := rfl
theorem k_643123 : m_cg 643123 = g_157_51 := rfl
theorem c_mTaken {g : w_G} {o : w_O} {h : m_H} {d : Nat} {Q : Option m_V → m_H → Prop} (iv : w_Inv g o h) {pa : Int} {kk : Int} (pa_lo : -2147483648 ≤ pa) (pa_hi : pa ≤ 2147483647) (kk_lo : -2147483648 ≤ kk) (kk_hi : kk ≤ 2147483647) (k0 : ∀ (x : Int), -2147483648 ≤ x → x ≤ 2147483647 → Q (some (.inl (w_i x))) h) : wp (d + 1) 643072 [.inr (.inl (some 31)), .inl (w_i pa), .inl (w_i kk)] [] h Q := by
  have W := iv_wm iv
  refine w_run k_643072 (w_il (fun _ => rfl) (w_icI (x := 0) rfl (w_icI (x := 5) rfl ?_)))
  refine w_ca (fun _ => rfl) rfl (c_mIsIn (d := d) iv (n := kk) (ln := 0) (mn := 5) (by omega) (by omega) (by omega) (by omega) (by omega) (by omega)   (fun b1 b2 => ⟨_, rfl, ?_⟩) (fun b3 => ⟨_, rfl, ?_⟩))
  · refine w_nezt (by omega) (by omega) (by omega)  (w_run k_643084 (w_il (fun _ => rfl) (w_icI (x := 0) rfl (w_al (fun _ => rfl) ?_))))
    obtain ⟨_, m4, spr4, kee4, rul4, tpd4, nxt4, tok4, tka4, val4, opn4, hm4, row4, ksp4, kke4, kru4, rfl, l4_spr, u4_spr, l4_kee, u4_kee, l4_rul, u4_rul, l4_tpd, u4_tpd, l4_nxt, u4_nxt, l4_tok, u4_tok, l4_tka, u4_tka, l4_val, u4_val, l4_opn, u4_opn, l4_hm, u4_hm, l4_row, u4_row, l4_ksp, u4_ksp, l4_kke, u4_kke, l4_kru, u4_kru, f4_0, f4_1, f4_2, f4_3, f4_4, f4_5, f4_6, f4_7, f4_8, f4_9⟩ := iv_31 iv
    refine w_getf m4 rfl (fun _ => rfl) (w_icI (x := 1) rfl (w_op (c := w_i (g_mnp g - 1)) (i_sub (g_mnp g) 1) ?_))
    refine w_ca (fun _ => rfl) rfl (c_mIsIn (d := d) iv (n := pa) (ln := 0) (mn := (g_mnp g - 1)) (by omega) (by omega) (by omega) (by omega) (by omega) (by omega)   (fun b5 b6 => ⟨_, rfl, ?_⟩) (fun b7 => ⟨_, rfl, ?_⟩))
    · refine w_nezt (by omega) (by omega) (by omega)  (w_run k_643101 (w_al (fun _ => rfl) (w_getf m4 rfl (fun _ => rfl) (w_il (fun _ => rfl) ?_))))
      obtain ⟨_, m8, A8, rfl, e8⟩ := iv_35 iv
      refine w_aldI m8 (by omega) (by omega) (by omega) ?_
      obtain ⟨b9, b10⟩ := ag_rg A8 pa
      have e11 := e8 pa (by omega) (by omega)
      refine w_il (fun _ => rfl) ?_
      refine w_ca (fun _ => rfl) rfl (c_mIsUnder (d := d) iv (kd := (a_g A8 pa)) (kk := kk) (by omega) (by omega) (by omega) (by omega)   ⟨_, rfl, ?_⟩ ⟨_, rfl, ?_⟩)
      · refine w_eqzf (by omega) (by omega) (by omega)  (w_al (fun _ => rfl) (w_getf m4 rfl (fun _ => rfl) (w_il (fun _ => rfl) ?_)))
        obtain ⟨_, m12, A12, rfl, e12⟩ := iv_36 iv
        refine w_aldI m12 (by omega) (by omega) (by omega) ?_
        obtain ⟨b13, b14⟩ := ag_rg A12 pa
        have e15 := e12 pa (by omega) (by omega)
        refine w_go (w_run k_643125 (w_ri ?_))
        exact k0 (a_g A12 pa) (by omega) (by omega)
      · refine w_eqzt (by omega) (by omega) (by omega)  (w_run k_643123 (w_icI (x := (-13)) wn_13 (w_ri ?_)))
        exact k0 (-13) (by omega) (by omega)
    · refine w_nezf (by omega) (by omega) (by omega)  (w_icI (x := (-11)) wn_11 (w_ri ?_))
      exact k0 (-11) (by omega) (by omega)
  · refine w_nezf (by omega) (by omega) (by omega)  (w_icI (x := (-2)) wn_2 (w_ri ?_))
    exact k0 (-2) (by omega) (by omega)
theorem k_655360 : m_cg 655360 = g_160_0 := rfl
theorem k_655374 : m_cg 655374 = g_160_14 := rfl
theorem k_655387 : m_cg 655387 = g_160_27 := rfl
theorem c_mFeed {g : w_G} {o : w_O} {h : m_H} {d : Nat} {Q : Option m_V → m_H → Prop} (iv : w_Inv g o h) {le : Int} (le_lo : -2147483648 ≤ le) (le_hi : le ≤ 2147483647) (k0 : ∀ (x : Int), ∀ h2 : m_H, w_Inv g o h2 → w_fr o [31, 50] h h2 → -2147483648 ≤ x → x ≤ 2147483647 → Q (some (.inl (w_i x))) h2) : wp (d + 1) 655360 [.inr (.inl (some 31)), .inl (w_i le)] [] h Q := by
  have F := fr_rf (o := o) (h := h) (W := [31, 50])
  have W := iv_wm iv
  refine w_run k_655360 (w_il (fun _ => rfl) (w_icI (x := 0) rfl (w_icI (x := 255) rfl ?_)))
  refine w_ca (fun _ => rfl) rfl (c_mIsIn (d := d) iv (n := le) (ln := 0) (mn := 255) (by omega) (by omega) (by omega) (by omega) (by omega) (by omega)   (fun b1 b2 => ⟨_, rfl, ?_⟩) (fun b3 => ⟨_, rfl, ?_⟩))
  · refine w_nezt (by omega) (by omega) (by omega)  (w_run k_655374 (w_al (fun _ => rfl) ?_))
    obtain ⟨_, m4, spr4, kee4, rul4, tpd4, nxt4, tok4, tka4, val4, opn4, hm4, row4, ksp4, kke4, kru4, rfl, l4_spr, u4_spr, l4_kee, u4_kee, l4_rul, u4_rul, l4_tpd, u4_tpd, l4_nxt, u4_nxt, l4_tok, u4_tok, l4_tka, u4_tka, l4_val, u4_val, l4_opn, u4_opn, l4_hm, u4_hm, l4_row, u4_row, l4_ksp, u4_ksp, l4_kke, u4_kke, l4_kru, u4_kru, f4_0, f4_1, f4_2, f4_3, f4_4, f4_5, f4_6, f4_7, f4_8, f4_9⟩ := iv_31 iv
    refine w_getf m4 rfl (fun _ => rfl) (w_icI (x := 160) rfl ?_)
    refine w_ne2 (by omega) (by omega) (by omega) (by omega)  (fun c5 => ?_) (fun c5 => ?_)
    · refine w_run k_655387 (w_al (fun _ => rfl) (w_getf m4 rfl (fun _ => rfl) (w_al (fun _ => rfl) (w_getf m4 rfl (fun _ => rfl) (w_il (fun _ => rfl) ?_)))))
      obtain ⟨_, m6, A6, rfl⟩ := iv_50 iv
      refine w_astI m6 (by omega) (by omega) (by omega) (by omega) (by omega) (fun A10 h8 w11 s7 => ?_)
      have iv9 := is_50 iv s7 ⟨_, rfl⟩
      have F12 := fr_st F s7 (by rw [(ow_50 iv)]; rfl)
      refine w_al (fun _ => rfl) (w_dup (fun _ => rfl) ?_)
      have m13 := st_fr s7 m4 (by decide)
      refine w_getf m13 rfl (fun _ => rfl) (w_icI (x := 1) rfl (w_op (c := w_i (tpd4 + 1)) (i_add tpd4 1) (w_putf [.inr (.inl (some 32)), .inr (.inl (some 33)), .inr (.inl (some 34)), .inr (.inl (some 35)), .inr (.inl (some 36)), .inl (w_i (g_mH g)), .inl (w_i (g_mC g)), .inl (w_i spr4), .inl (w_i kee4), .inl (w_i (g_mnp g)), .inl (w_i rul4), .inl (w_i (g_mhi g)), .inr (.inl (some 37)), .inr (.inl (some 50)), .inr (.inl (some 51)), .inr (.inl (some 52)), .inr (.inl (some 53)), .inr (.inl (some 54)), .inl (w_i (tpd4 + 1)), .inl (w_i (g_mnt g)), .inl (w_i nxt4), .inl (w_i tok4), .inl (w_i tka4), .inl (w_i val4), .inl (w_i opn4), .inl (w_i hm4), .inl (w_i row4), .inr (.inl (some 55)), .inr (.inl (some 56)), .inr (.inl (some 57)), .inr (.inl (some 58)), .inr (.inl (some 59)), .inr (.inl (some 60)), .inr (.inl (some 61)), .inr (.inl (some 62)), .inl (w_i ksp4), .inl (w_i kke4), .inl (w_i kru4), .inr (.inl (some 63)), .inr (.inl (some 64)), .inr (.inl (some 65)), .inr (.inl (some 66))] m13 rfl rfl rfl (fun _ => rfl) (fun h15 s14 => ?_))))
      have iv16 := is_31 iv9 s14 ⟨_, _, _, _, _, _, _, _, _, _, _, _, _, _, rfl, by omega, by omega, by omega, by omega, by omega, by omega, by omega, by omega, by omega, by omega, by omega, by omega, by omega, by omega, by omega, by omega, by omega, by omega, by omega, by omega, by omega, by omega, by omega, by omega, by omega, by omega, by omega, by omega, by omega, by omega, by omega, by omega, by omega, by omega, by omega, by omega, by omega, by omega⟩
      have F17 := fr_st F12 s14 (by rw [(ow_31 iv9)]; rfl)
      refine w_al (fun _ => rfl) (w_getf s14.2.2.1 rfl (fun _ => rfl) (w_ri ?_))
      exact k0 (tpd4 + 1) h15 iv16 F17 (by omega) (by omega)
    · refine w_icI (x := (-4)) wn_4 (w_ri ?_)
      exact k0 (-4) h iv F (by omega) (by omega)
  · refine w_nezf (by omega) (by omega) (by omega)  (w_icI (x := (-2)) wn_2 (w_ri ?_))
    exact k0 (-2) h iv F (by omega) (by omega)
theorem k_663552 : m_cg 663552 = g_162_0 := rfl
theorem k_663600 : m_cg 663600 = g_162_48 := rfl
theorem k_663605 : m_cg 663605 = g_162_53 := rfl
theorem k_663604 : m_cg 663604 = g_162_52 := rfl
theorem c_mIsSign {g : w_G} {o : w_O} {h : m_H} {d : Nat} {Q : Option m_V → m_H → Prop} (iv : w_Inv g o h) {n : Int} (n_lo : -2147483648 ≤ n) (n_hi : n ≤ 2147483647) (k0 : Q (some (.inl (w_i 1))) h) (k1 : Q (some (.inl (w_i 0))) h) : wp d 663552 [.inl (w_i n)] [] h Q := by
  have W := iv_wm iv
  refine w_run k_663552 (w_il (fun _ => rfl) (w_icI (x := 40) rfl ?_))
  refine w_eq2 (by omega) (by omega) (by omega) (by omega)  (fun c1 => ?_) (fun c1 => ?_)
  · refine w_run k_663600 (w_icI (x := 1) rfl (w_go (w_run k_663605 (w_rz (by decide) ?_))))
    exact k0 
  · refine w_il (fun _ => rfl) (w_icI (x := 41) rfl ?_)
    refine w_eq2 (by omega) (by omega) (by omega) (by omega)  (fun c2 => ?_) (fun c2 => ?_)
    · refine w_run k_663600 (w_icI (x := 1) rfl (w_go (w_run k_663605 (w_rz (by decide) ?_))))
      exact k0 
    · refine w_il (fun _ => rfl) (w_icI (x := 59) rfl ?_)
      refine w_eq2 (by omega) (by omega) (by omega) (by omega)  (fun c3 => ?_) (fun c3 => ?_)
      · refine w_run k_663600 (w_icI (x := 1) rfl (w_go (w_run k_663605 (w_rz (by decide) ?_))))
        exact k0 
      · refine w_il (fun _ => rfl) (w_icI (x := 43) rfl ?_)
        refine w_eq2 (by omega) (by omega) (by omega) (by omega)  (fun c4 => ?_) (fun c4 => ?_)
        · refine w_run k_663600 (w_icI (x := 1) rfl (w_go (w_run k_663605 (w_rz (by decide) ?_))))
          exact k0 
        · refine w_il (fun _ => rfl) (w_icI (x := 45) rfl ?_)
          refine w_eq2 (by omega) (by omega) (by omega) (by omega)  (fun c5 => ?_) (fun c5 => ?_)
          · refine w_run k_663600 (w_icI (x := 1) rfl (w_go (w_run k_663605 (w_rz (by decide) ?_))))
            exact k0 
          · refine w_il (fun _ => rfl) (w_icI (x := 42) rfl ?_)
            refine w_eq2 (by omega) (by omega) (by omega) (by omega)  (fun c6 => ?_) (fun c6 => ?_)
            · refine w_run k_663600 (w_icI (x := 1) rfl (w_go (w_run k_663605 (w_rz (by decide) ?_))))
              exact k0 
            · refine w_il (fun _ => rfl) (w_icI (x := 60) rfl ?_)
              refine w_eq2 (by omega) (by omega) (by omega) (by omega)  (fun c7 => ?_) (fun c7 => ?_)
              · refine w_run k_663600 (w_icI (x := 1) rfl (w_go (w_run k_663605 (w_rz (by decide) ?_))))
                exact k0 
              · refine w_il (fun _ => rfl) (w_icI (x := 61) rfl ?_)
                refine w_ne2 (by omega) (by omega) (by omega) (by omega)  (fun c8 => ?_) (fun c8 => ?_)
                · refine w_run k_663604 (w_icI (x := 0) rfl (w_rz (by decide) ?_))
                  exact k1 
                · refine w_icI (x := 1) rfl (w_go (w_run k_663605 (w_rz (by decide) ?_)))
                  exact k0 
theorem k_692224 : m_cg 692224 = g_169_0 := rfl
theorem k_692284 : m_cg 692284 = g_169_60 := rfl
theorem k_692286 : m_cg 692286 = g_169_62 := rfl
theorem k_692282 : m_cg 692282 = g_169_58 := rfl
theorem k_692278 : m_cg 692278 = g_169_54 := rfl
theorem k_692276 : m_cg 692276 = g_169_52 := rfl
theorem k_692280 : m_cg 692280 = g_169_56 := rfl
theorem k_692289 : m_cg 692289 = g_169_65 := rfl
theorem k_692292 : m_cg 692292 = g_169_68 := rfl
theorem c_mHeightOf {g : w_G} {o : w_O} {h : m_H} {d : Nat} {Q : Option m_V → m_H → Prop} (iv : w_Inv g o h) {n : Int} (n_lo : -2147483648 ≤ n) (n_hi : n ≤ 2147483647) (k0 : ∀ (x : Int), -2147483648 ≤ x → x ≤ 2147483647 → 0 ≤ x → x ≤ 7 → Q (some (.inl (w_i x))) h) : wp d 692224 [.inl (w_i n)] [] h Q := by
  have W := iv_wm iv
  refine w_run k_692224 (w_il (fun _ => rfl) ?_)
  by_cases c1 : n = 1
  · rw [show (n : Int) = 1 from c1]
    refine w_tsw (t := 692284) (fun _ => rfl) (w_run k_692284 (w_icI (x := 5) rfl (w_ri ?_)))
    exact k0 5 (by omega) (by omega) (by omega) (by omega)
  by_cases c2 : n = 2
  · rw [show (n : Int) = 2 from c2]
    refine w_tsw (t := 692284) (fun _ => rfl) (w_run k_692284 (w_icI (x := 5) rfl (w_ri ?_)))
    exact k0 5 (by omega) (by omega) (by omega) (by omega)
  by_cases c3 : n = 3
  · rw [show (n : Int) = 3 from c3]
    refine w_tsw (t := 692286) (fun _ => rfl) (w_run k_692286 (w_icI (x := 6) rfl (w_ri ?_)))
    exact k0 6 (by omega) (by omega) (by omega) (by omega)
  by_cases c4 : n = 4
  · rw [show (n : Int) = 4 from c4]
    refine w_tsw (t := 692282) (fun _ => rfl) (w_run k_692282 (w_icI (x := 4) rfl (w_ri ?_)))
    exact k0 4 (by omega) (by omega) (by omega) (by omega)
  by_cases c5 : n = 5
  · rw [show (n : Int) = 5 from c5]
    refine w_tsw (t := 692282) (fun _ => rfl) (w_run k_692282 (w_icI (x := 4) rfl (w_ri ?_)))
    exact k0 4 (by omega) (by omega) (by omega) (by omega)
  by_cases c6 : n = 6
  · rw [show (n : Int) = 6 from c6]
    refine w_tsw (t := 692278) (fun _ => rfl) (w_run k_692278 (w_icI (x := 2) rfl (w_ri ?_)))
    exact k0 2 (by omega) (by omega) (by omega) (by omega)
  by_cases c7 : n = 7
  · rw [show (n : Int) = 7 from c7]
    refine w_tsw (t := 692276) (fun _ => rfl) (w_run k_692276 (w_icI (x := 1) rfl (w_ri ?_)))
    exact k0 1 (by omega) (by omega) (by omega) (by omega)
  by_cases c8 : n = 8
  · rw [show (n : Int) = 8 from c8]
    refine w_tsw (t := 692280) (fun _ => rfl) (w_run k_692280 (w_icI (x := 3) rfl (w_ri ?_)))
    exact k0 3 (by omega) (by omega) (by omega) (by omega)
  by_cases c9 : n = 9
  · rw [show (n : Int) = 9 from c9]
    refine w_tsw (t := 692289) (fun _ => rfl) (w_run k_692289 (w_icI (x := 7) rfl (w_ri ?_)))
    exact k0 7 (by omega) (by omega) (by omega) (by omega)
  refine w_tswL (by omega) (by omega) (by show _ < ((1 : Nat) : Int) ∨ ((10 : Nat) : Int) ≤ _; omega) (by decide) (w_run k_692292 (w_icI (x := 0) rfl (w_ri ?_)))
  exact k0 0 (by omega) (by omega) (by omega) (by omega)
theorem k_704512 : m_cg 704512 = g_172_0 := rfl
theorem k_704522 : m_cg 704522 = g_172_10 := rfl
theorem k_704532 : m_cg 704532 = g_172_20 := rfl
theorem k_704542 : m_cg 704542 = g_172_30 := rfl
theorem k_704552 : m_cg 704552 = g_172_40 := rfl
theorem k_704562 : m_cg 704562 = g_172_50 := rfl
theorem k_704563 : m_cg 704563 = g_172_51 := rfl
theorem c_mDeedOf {g : w_G} {o : w_O} {h : m_H} {d : Nat} {Q : Option m_V → m_H → Prop} (iv : w_Inv g o h) {n : Int} (n_lo : -2147483648 ≤ n) (n_hi : n ≤ 2147483647) (k0 : ∀ (x : Int), -2147483648 ≤ x → x ≤ 2147483647 → 0 ≤ x → x ≤ 5 → Q (some (.inl (w_i x))) h) : wp d 704512 [.inl (w_i n)] [] h Q := by
  have W := iv_wm iv
  refine w_run k_704512 (w_il (fun _ => rfl) (w_icI (x := 43) rfl ?_))
  refine w_ne2 (by omega) (by omega) (by omega) (by omega)  (fun c1 => ?_) (fun c1 => ?_)
  · refine w_run k_704522 (w_il (fun _ => rfl) (w_icI (x := 45) rfl ?_))
    refine w_ne2 (by omega) (by omega) (by omega) (by omega)  (fun c2 => ?_) (fun c2 => ?_)
    · refine w_run k_704532 (w_il (fun _ => rfl) (w_icI (x := 42) rfl ?_))
      refine w_ne2 (by omega) (by omega) (by omega) (by omega)  (fun c3 => ?_) (fun c3 => ?_)
      · refine w_run k_704542 (w_il (fun _ => rfl) (w_icI (x := 60) rfl ?_))
        refine w_ne2 (by omega) (by omega) (by omega) (by omega)  (fun c4 => ?_) (fun c4 => ?_)
        · refine w_run k_704552 (w_il (fun _ => rfl) (w_icI (x := 61) rfl ?_))
          refine w_ne2 (by omega) (by omega) (by omega) (by omega)  (fun c5 => ?_) (fun c5 => ?_)
          · refine w_run k_704562 (w_icI (x := 0) rfl (w_ri ?_))
            exact k0 0 (by omega) (by omega) (by omega) (by omega)
          · refine w_icI (x := 5) rfl (w_go (w_run k_704563 (w_ri ?_)))
            exact k0 5 (by omega) (by omega) (by omega) (by omega)
        · refine w_icI (x := 4) rfl (w_go (w_run k_704563 (w_ri ?_)))
          exact k0 4 (by omega) (by omega) (by omega) (by omega)
      · refine w_icI (x := 3) rfl (w_go (w_run k_704563 (w_ri ?_)))
        exact k0 3 (by omega) (by omega) (by omega) (by omega)
    · refine w_icI (x := 2) rfl (w_go (w_run k_704563 (w_ri ?_)))
      exact k0 2 (by omega) (by omega) (by omega) (by omega)
  · refine w_icI (x := 1) rfl (w_go (w_run k_704563 (w_ri ?_)))
    exact k0 1 (by omega) (by omega) (by omega) (by omega)
theorem k_720896 : m_cg 720896 = g_176_0 := rfl
theorem k_720913 : m_cg 720913 = g_176_17 := rfl
theorem c_mForce {g : w_G} {o : w_O} {h : m_H} {d : Nat} {Q : Option m_V → m_H → Prop} (iv : w_Inv g o h) {te : Int} (te_lo : -2147483648 ≤ te) (te_hi : te ≤ 2147483647) (k0 : ∀ (x : Int), ∀ h2 : m_H, w_Inv g o h2 → w_fr o [31] h h2 → -2147483648 ≤ x → x ≤ 2147483647 → Q (some (.inl (w_i x))) h2) : wp (d + 1) 720896 [.inr (.inl (some 31)), .inl (w_i te), .inr (.inr (.inl 0))] [] h Q := by
  have F := fr_rf (o := o) (h := h) (W := [31])
  have W := iv_wm iv
  refine w_run k_720896 (w_il (fun _ => rfl) (w_icI (x := 0) rfl (w_al (fun _ => rfl) ?_)))
  obtain ⟨_, m1, spr1, kee1, rul1, tpd1, nxt1, tok1, tka1, val1, opn1, hm1, row1, ksp1, kke1, kru1, rfl, l1_spr, u1_spr, l1_kee, u1_kee, l1_rul, u1_rul, l1_tpd, u1_tpd, l1_nxt, u1_nxt, l1_tok, u1_tok, l1_tka, u1_tka, l1_val, u1_val, l1_opn, u1_opn, l1_hm, u1_hm, l1_row, u1_row, l1_ksp, u1_ksp, l1_kke, u1_kke, l1_kru, u1_kru, f1_0, f1_1, f1_2, f1_3, f1_4, f1_5, f1_6, f1_7, f1_8, f1_9⟩ := iv_31 iv
  refine w_getf m1 rfl (fun _ => rfl) (w_icI (x := 1) rfl (w_op (c := w_i (g_mnt g - 1)) (i_sub (g_mnt g) 1) ?_))
  refine w_ca (fun _ => rfl) rfl (c_mIsIn (d := d) iv (n := te) (ln := 0) (mn := (g_mnt g - 1)) (by omega) (by omega) (by omega) (by omega) (by omega) (by omega)   (fun b2 b3 => ⟨_, rfl, ?_⟩) (fun b4 => ⟨_, rfl, ?_⟩))
  · refine w_nezt (by omega) (by omega) (by omega)  (w_run k_720913 (w_al (fun _ => rfl) (w_getf m1 rfl (fun _ => rfl) (w_is (fun _ => rfl) (w_al (fun _ => rfl) (w_il (fun _ => rfl) (w_putf [.inr (.inl (some 32)), .inr (.inl (some 33)), .inr (.inl (some 34)), .inr (.inl (some 35)), .inr (.inl (some 36)), .inl (w_i (g_mH g)), .inl (w_i (g_mC g)), .inl (w_i spr1), .inl (w_i kee1), .inl (w_i (g_mnp g)), .inl (w_i te), .inl (w_i (g_mhi g)), .inr (.inl (some 37)), .inr (.inl (some 50)), .inr (.inl (some 51)), .inr (.inl (some 52)), .inr (.inl (some 53)), .inr (.inl (some 54)), .inl (w_i tpd1), .inl (w_i (g_mnt g)), .inl (w_i nxt1), .inl (w_i tok1), .inl (w_i tka1), .inl (w_i val1), .inl (w_i opn1), .inl (w_i hm1), .inl (w_i row1), .inr (.inl (some 55)), .inr (.inl (some 56)), .inr (.inl (some 57)), .inr (.inl (some 58)), .inr (.inl (some 59)), .inr (.inl (some 60)), .inr (.inl (some 61)), .inr (.inl (some 62)), .inl (w_i ksp1), .inl (w_i kke1), .inl (w_i kru1), .inr (.inl (some 63)), .inr (.inl (some 64)), .inr (.inl (some 65)), .inr (.inl (some 66))] m1 rfl rfl rfl (fun _ => rfl) (fun h6 s5 => ?_))))))))
    have iv7 := is_31 iv s5 ⟨_, _, _, _, _, _, _, _, _, _, _, _, _, _, rfl, by omega, by omega, by omega, by omega, by omega, by omega, by omega, by omega, by omega, by omega, by omega, by omega, by omega, by omega, by omega, by omega, by omega, by omega, by omega, by omega, by omega, by omega, by omega, by omega, by omega, by omega, by omega, by omega, by omega, by omega, by omega, by omega, by omega, by omega, by omega, by omega, by omega, by omega⟩
    have F8 := fr_st F s5 (by rw [(ow_31 iv)]; rfl)
    refine w_il (fun _ => rfl) (w_ri ?_)
    exact k0 rul1 h6 iv7 F8 (by omega) (by omega)
  · refine w_nezf (by omega) (by omega) (by omega)  (w_icI (x := (-2)) wn_2 (w_ri ?_))
    exact k0 (-2) h iv F (by omega) (by omega)
theorem k_724996 : m_cg 724996 = g_177_4 := rfl
theorem k_725016 : m_cg 725016 = g_177_24 := rfl
theorem l_mBits_4 {g : w_G} {o : w_O} {h : m_H} {d : Nat} {Q : Option m_V → m_H → Prop} (iv : w_Inv g o h) {n : Int} (n_lo : -2147483648 ≤ n) (n_hi : n ≤ 2147483647) (k0 : ∀ (x : Int), -2147483648 ≤ x → x ≤ 2147483647 → Q (some (.inl (w_i x))) h) : ∀ (k : Nat) (num i : Int) (num_lo : -2147483648 ≤ num) (num_hi : num ≤ 2147483647) (i_lo : -2147483648 ≤ i) (i_hi : i ≤ 2147483647) (i0 : 0 ≤ i) (i1 : i ≤ 31), 31 - i < (k : Int) → wp d 724996 [.inl (w_i n), .inl (w_i num), .inl (w_i i)] [] h Q := by
  intro k
  induction k with
  | zero => intro num i num_lo num_hi i_lo i_hi i0 i1 hk; exact absurd hk (by omega)
  | succ k ih =>
    intro num i num_lo num_hi i_lo i_hi i0 i1 hk
    have W := iv_wm iv
    refine w_run k_724996 (w_il (fun _ => rfl) (w_icI (x := 31) rfl ?_))
    refine w_ge2 (by omega) (by omega) (by omega) (by omega)  (fun c1 => ?_) (fun c1 => ?_)
    · refine w_run k_725016 (w_il (fun _ => rfl) (w_ri ?_))
      exact k0 num (by omega) (by omega)
    · refine w_il (fun _ => rfl) (w_il (fun _ => rfl) (w_il (fun _ => rfl) (w_opR shr_lt (fun x2 x20 x21 x2e => ?_))))
      refine w_icI (x := 1) rfl (w_op01 and_1 (fun x3 x30 x31 x3e => ?_))
      refine w_opR add_lt (fun x4 x40 x41 x4e => ?_)
      refine w_is (fun _ => rfl) (w_inc (c := w_i (i + 1)) (fun _ => rfl) (i_addL (y := 1) rfl i) (fun _ => rfl) (w_go ?_))
      exact ih x4 (i + 1) (by omega) (by omega) (by omega) (by omega)  (by omega) (by omega) (by omega)
theorem k_724992 : m_cg 724992 = g_177_0 := rfl
theorem c_mBits {g : w_G} {o : w_O} {h : m_H} {d : Nat} {Q : Option m_V → m_H → Prop} (iv : w_Inv g o h) {n : Int} (n_lo : -2147483648 ≤ n) (n_hi : n ≤ 2147483647) (k0 : ∀ (x : Int), -2147483648 ≤ x → x ≤ 2147483647 → Q (some (.inl (w_i x))) h) : wp d 724992 [.inl (w_i n), .inr (.inr (.inl 0)), .inr (.inr (.inl 0))] [] h Q := by
  have W := iv_wm iv
  refine w_run k_724992 (w_icI (x := 0) rfl (w_is (fun _ => rfl) (w_icI (x := 0) rfl (w_is (fun _ => rfl) (w_nur k_724996 ?_)))))
  exact l_mBits_4 iv    n_lo n_hi     k0 (31 - 0 + 1 : Int).toNat 0 0 (by omega) (by omega) (by omega) (by omega)  (by omega) (by omega) (by omega)
theorem k_626688 : m_cg 626688 = g_153_0 := rfl
theorem k_626744 : m_cg 626744 = g_153_56 := rfl
theorem k_626803 : m_cg 626803 = g_153_115 := rfl
theorem k_626812 : m_cg 626812 = g_153_124 := rfl
theorem k_626755 : m_cg 626755 = g_153_67 := rfl
theorem k_626764 : m_cg 626764 = g_153_76 := rfl
theorem k_626814 : m_cg 626814 = g_153_126 := rfl
theorem k_626781 : m_cg 626781 = g_153_93 := rfl
theorem k_626792 : m_cg 626792 = g_153_104 := rfl
theorem c_mCostsOf {g : w_G} {o : w_O} {h : m_H} {d : Nat} {Q : Option m_V → m_H → Prop} (iv : w_Inv g o h) {pa : Int} {ho : Int} {fr : Int} {t : Int} (pa_lo : -2147483648 ≤ pa) (pa_hi : pa ≤ 2147483647) (ho_lo : -2147483648 ≤ ho) (ho_hi : ho ≤ 2147483647) (fr_lo : -2147483648 ≤ fr) (fr_hi : fr ≤ 2147483647) (t_lo : -2147483648 ≤ t) (t_hi : t ≤ 2147483647) (p0 : 0 ≤ pa) (p1 : pa < g_mnp g) (h0_ : 0 ≤ ho) (h1_ : ho ≤ 5) (f0_ : 0 ≤ fr) (f1_ : fr ≤ 4) (t0_ : 0 ≤ t) (t1_ : t ≤ 4) (k0 : ∀ (x : Int), -2147483648 ≤ x → x ≤ 2147483647 → 0 ≤ x → x ≤ 100 → Q (some (.inl (w_i x))) h) : wp d 626688 [.inr (.inl (some 31)), .inl (w_i pa), .inl (w_i ho), .inl (w_i fr), .inl (w_i t), .inr (.inr (.inl 0)), .inr (.inr (.inl 0))] [] h Q := by
  have W := iv_wm iv
  refine w_run k_626688 (w_al (fun _ => rfl) ?_)
  obtain ⟨_, m1, spr1, kee1, rul1, tpd1, nxt1, tok1, tka1, val1, opn1, hm1, row1, ksp1, kke1, kru1, rfl, l1_spr, u1_spr, l1_kee, u1_kee, l1_rul, u1_rul, l1_tpd, u1_tpd, l1_nxt, u1_nxt, l1_tok, u1_tok, l1_tka, u1_tka, l1_val, u1_val, l1_opn, u1_opn, l1_hm, u1_hm, l1_row, u1_row, l1_ksp, u1_ksp, l1_kke, u1_kke, l1_kru, u1_kru, f1_0, f1_1, f1_2, f1_3, f1_4, f1_5, f1_6, f1_7, f1_8, f1_9⟩ := iv_31 iv
  refine w_getf m1 rfl (fun _ => rfl) (w_il (fun _ => rfl) ?_)
  obtain ⟨_, m2, A2, rfl, e2⟩ := iv_36 iv
  refine w_aldI m2 (by omega) (by omega) (by omega) ?_
  obtain ⟨b3, b4⟩ := ag_rg A2 pa
  have e5 := e2 pa (by omega) (by omega)
  refine w_is (fun _ => rfl) (w_icI (x := 1) rfl (w_il (fun _ => rfl) ?_))
  have hP := iv_mP iv pa (by omega) (by omega)
  refine w_op (c := w_i (1 + (a_g A2 pa))) (i_add 1 (a_g A2 pa)) (w_is (fun _ => rfl) (w_al (fun _ => rfl) (w_getf m1 rfl (fun _ => rfl) (w_il (fun _ => rfl) ?_))))
  obtain ⟨_, m6, A6, rfl, e6⟩ := iv_35 iv
  refine w_aldI m6 (by omega) (by omega) (by omega) ?_
  obtain ⟨b7, b8⟩ := ag_rg A6 pa
  have e9 := e6 pa (by omega) (by omega)
  by_cases c10 : (a_g A6 pa) = 1
  · rw [show ((a_g A6 pa) : Int) = 1 from c10]
    refine w_tsw (t := 626744) (fun _ => rfl) (w_run k_626744 (w_il (fun _ => rfl) (w_il (fun _ => rfl) (w_icI (x := 1) rfl (w_op (c := w_i (ho + 1)) (i_add ho 1) ?_)))))
    have hm := mul_rg (a := (1 + (a_g A2 pa))) (b := (ho + 1)) (x := 10) (y := 6) (by omega) (by omega) (by omega) (by omega)
    refine w_op (c := w_i ((1 + (a_g A2 pa)) * (ho + 1))) (i_mul (1 + (a_g A2 pa)) (ho + 1)) (w_is (fun _ => rfl) (w_go (w_run k_626803 (w_il (fun _ => rfl) (w_gezt (by omega) (by omega) (by omega)  (w_run k_626812 (w_il (fun _ => rfl) (w_ri ?_))))))))
    exact k0 ((1 + (a_g A2 pa)) * (ho + 1)) (by omega) (by omega) (by omega) (by omega)
  by_cases c11 : (a_g A6 pa) = 2
  · rw [show ((a_g A6 pa) : Int) = 2 from c11]
    refine w_tsw (t := 626755) (fun _ => rfl) (w_run k_626755 (w_il (fun _ => rfl) (w_icI (x := 3) rfl (w_op (c := w_i ((1 + (a_g A2 pa)) + 3)) (i_add (1 + (a_g A2 pa)) 3) (w_is (fun _ => rfl) (w_go (w_run k_626803 (w_il (fun _ => rfl) (w_gezt (by omega) (by omega) (by omega)  (w_run k_626812 (w_il (fun _ => rfl) (w_ri ?_))))))))))))
    exact k0 ((1 + (a_g A2 pa)) + 3) (by omega) (by omega) (by omega) (by omega)
  by_cases c12 : (a_g A6 pa) = 3
  · rw [show ((a_g A6 pa) : Int) = 3 from c12]
    refine w_tsw (t := 626764) (fun _ => rfl) (w_run k_626764 (w_il (fun _ => rfl) (w_il (fun _ => rfl) (w_icI (x := 1) rfl (w_op (c := w_i (ho + 1)) (i_add ho 1) ?_)))))
    have hm := mul_rg (a := (1 + (a_g A2 pa))) (b := (ho + 1)) (x := 10) (y := 6) (by omega) (by omega) (by omega) (by omega)
    refine w_op (c := w_i ((1 + (a_g A2 pa)) * (ho + 1))) (i_mul (1 + (a_g A2 pa)) (ho + 1)) (w_il (fun _ => rfl) (w_il (fun _ => rfl) ?_))
    have hm := mul_rg (a := t) (b := (a_g A2 pa)) (x := 4) (y := 9) (by omega) (by omega) (by omega) (by omega)
    refine w_op (c := w_i (t * (a_g A2 pa))) (i_mul t (a_g A2 pa)) (w_op (c := w_i (((1 + (a_g A2 pa)) * (ho + 1)) - (t * (a_g A2 pa)))) (i_sub ((1 + (a_g A2 pa)) * (ho + 1)) (t * (a_g A2 pa))) (w_is (fun _ => rfl) (w_go (w_run k_626803 (w_il (fun _ => rfl) ?_)))))
    refine w_gez2 (by omega) (by omega)  (fun c13 => ?_) (fun c13 => ?_)
    · refine w_run k_626812 (w_il (fun _ => rfl) (w_ri ?_))
      exact k0 (((1 + (a_g A2 pa)) * (ho + 1)) - (t * (a_g A2 pa))) (by omega) (by omega) (by omega) (by omega)
    · refine w_icI (x := 0) rfl (w_go (w_run k_626814 (w_ri ?_)))
      exact k0 0 (by omega) (by omega) (by omega) (by omega)
  by_cases c14 : (a_g A6 pa) = 4
  · rw [show ((a_g A6 pa) : Int) = 4 from c14]
    refine w_tsw (t := 626781) (fun _ => rfl) (w_run k_626781 (w_il (fun _ => rfl) (w_icI (x := 3) rfl (w_op (c := w_i ((1 + (a_g A2 pa)) + 3)) (i_add (1 + (a_g A2 pa)) 3) (w_icI (x := 2) rfl (w_opz (c := w_i (((1 + (a_g A2 pa)) + 3) / 2)) (beq0 (by omega) (by omega) (by omega)) (i_div (by omega) (by omega) (by omega) (by omega)) ?_))))))
    have b15 : 0 ≤ (((1 + (a_g A2 pa)) + 3) / 2) ∧ (((1 + (a_g A2 pa)) + 3) / 2) ≤ ((1 + (a_g A2 pa)) + 3) := ⟨Int.ediv_nonneg (by omega) (by omega), Int.ediv_le_self _ (by omega)⟩
    refine w_is (fun _ => rfl) (w_go (w_run k_626803 (w_il (fun _ => rfl) (w_gezt (by omega) (by omega) (by omega)  (w_run k_626812 (w_il (fun _ => rfl) (w_ri ?_)))))))
    exact k0 (((1 + (a_g A2 pa)) + 3) / 2) (by omega) (by omega) (by omega) (by omega)
  by_cases c16 : (a_g A6 pa) = 5
  · rw [show ((a_g A6 pa) : Int) = 5 from c16]
    refine w_tsw (t := 626792) (fun _ => rfl) (w_run k_626792 (w_il (fun _ => rfl) (w_icI (x := 3) rfl (w_op (c := w_i ((1 + (a_g A2 pa)) + 3)) (i_add (1 + (a_g A2 pa)) 3) (w_il (fun _ => rfl) (w_op (c := w_i (((1 + (a_g A2 pa)) + 3) + fr)) (i_add ((1 + (a_g A2 pa)) + 3) fr) (w_is (fun _ => rfl) (w_go (w_run k_626803 (w_il (fun _ => rfl) (w_gezt (by omega) (by omega) (by omega)  (w_run k_626812 (w_il (fun _ => rfl) (w_ri ?_))))))))))))))
    exact k0 (((1 + (a_g A2 pa)) + 3) + fr) (by omega) (by omega) (by omega) (by omega)
  refine w_tswL (by omega) (by omega) (by show _ < ((1 : Nat) : Int) ∨ ((6 : Nat) : Int) ≤ _; omega) (by decide) (w_run k_626803 (w_il (fun _ => rfl) (w_gezt (by omega) (by omega) (by omega)  (w_run k_626812 (w_il (fun _ => rfl) (w_ri ?_))))))
  exact k0 (1 + (a_g A2 pa)) (by omega) (by omega) (by omega) (by omega)
theorem k_630784 : m_cg 630784 = g_154_0 := rfl
theorem k_630828 : m_cg 630828 = g_154_44 := rfl
theorem k_630841 : m_cg 630841 = g_154_57 := rfl
theorem k_630842 : m_cg 630842 = g_154_58 := rfl
theorem k_630843 : m_cg 630843 = g_154_59 := rfl
theorem k_630856 : m_cg 630856 = g_154_72 := rfl
theorem k_630857 : m_cg 630857 = g_154_73 := rfl
theorem k_630858 : m_cg 630858 = g_154_74 := rfl
theorem k_630879 : m_cg 630879 = g_154_95 := rfl
theorem k_630880 : m_cg 630880 = g_154_96 := rfl
theorem k_630881 : m_cg 630881 = g_154_97 := rfl
theorem c_mIsWilling {g : w_G} {o : w_O} {h : m_H} {d : Nat} {Q : Option m_V → m_H → Prop} (iv : w_Inv g o h) {pa : Int} {ho : Int} {fr : Int} {t : Int} (pa_lo : -2147483648 ≤ pa) (pa_hi : pa ≤ 2147483647) (ho_lo : -2147483648 ≤ ho) (ho_hi : ho ≤ 2147483647) (fr_lo : -2147483648 ≤ fr) (fr_hi : fr ≤ 2147483647) (t_lo : -2147483648 ≤ t) (t_hi : t ≤ 2147483647) (p0 : 0 ≤ pa) (p1 : pa < g_mnp g) (k0 : Q (some (.inl (w_i 1))) h) (k1 : Q (some (.inl (w_i 0))) h) : wp d 630784 [.inr (.inl (some 31)), .inl (w_i pa), .inl (w_i ho), .inl (w_i fr), .inl (w_i t), .inr (.inr (.inl 0))] [] h Q := by
  have W := iv_wm iv
  refine w_run k_630784 (w_al (fun _ => rfl) ?_)
  obtain ⟨_, m1, spr1, kee1, rul1, tpd1, nxt1, tok1, tka1, val1, opn1, hm1, row1, ksp1, kke1, kru1, rfl, l1_spr, u1_spr, l1_kee, u1_kee, l1_rul, u1_rul, l1_tpd, u1_tpd, l1_nxt, u1_nxt, l1_tok, u1_tok, l1_tka, u1_tka, l1_val, u1_val, l1_opn, u1_opn, l1_hm, u1_hm, l1_row, u1_row, l1_ksp, u1_ksp, l1_kke, u1_kke, l1_kru, u1_kru, f1_0, f1_1, f1_2, f1_3, f1_4, f1_5, f1_6, f1_7, f1_8, f1_9⟩ := iv_31 iv
  refine w_getf m1 rfl (fun _ => rfl) (w_il (fun _ => rfl) ?_)
  obtain ⟨_, m2, A2, rfl, e2⟩ := iv_36 iv
  refine w_aldI m2 (by omega) (by omega) (by omega) ?_
  obtain ⟨b3, b4⟩ := ag_rg A2 pa
  have e5 := e2 pa (by omega) (by omega)
  refine w_is (fun _ => rfl) (w_al (fun _ => rfl) (w_getf m1 rfl (fun _ => rfl) (w_il (fun _ => rfl) ?_)))
  obtain ⟨_, m6, A6, rfl, e6⟩ := iv_35 iv
  refine w_aldI m6 (by omega) (by omega) (by omega) ?_
  obtain ⟨b7, b8⟩ := ag_rg A6 pa
  have e9 := e6 pa (by omega) (by omega)
  by_cases c10 : (a_g A6 pa) = 2
  · rw [show ((a_g A6 pa) : Int) = 2 from c10]
    refine w_tsw (t := 630828) (fun _ => rfl) (w_run k_630828 (w_il (fun _ => rfl) (w_il (fun _ => rfl) (w_icI (x := 6) rfl (w_opzR (beq0 (by omega) (by omega) (by omega)) rem_lt (fun x11 x110 x111 x11e => ?_))))))
    refine w_eq2 (by omega) (by omega) (by omega) (by omega)  (fun c12 => ?_) (fun c12 => ?_)
    · refine w_run k_630841 (w_icI (x := 0) rfl (w_rz (by decide) ?_))
      exact k1 
    · refine w_icI (x := 1) rfl (w_go (w_run k_630842 (w_rz (by decide) ?_)))
      exact k0 
  by_cases c13 : (a_g A6 pa) = 3
  · rw [show ((a_g A6 pa) : Int) = 3 from c13]
    refine w_tsw (t := 630843) (fun _ => rfl) (w_run k_630843 (w_il (fun _ => rfl) (w_il (fun _ => rfl) (w_icI (x := 5) rfl (w_opzR (beq0 (by omega) (by omega) (by omega)) rem_lt (fun x14 x140 x141 x14e => ?_))))))
    refine w_eq2 (by omega) (by omega) (by omega) (by omega)  (fun c15 => ?_) (fun c15 => ?_)
    · refine w_run k_630856 (w_icI (x := 0) rfl (w_rz (by decide) ?_))
      exact k1 
    · refine w_icI (x := 1) rfl (w_go (w_run k_630857 (w_rz (by decide) ?_)))
      exact k0 
  by_cases c16 : (a_g A6 pa) = 4
  · rw [show ((a_g A6 pa) : Int) = 4 from c16]
    refine w_tsw (t := 630828) (fun _ => rfl) (w_run k_630828 (w_il (fun _ => rfl) (w_il (fun _ => rfl) (w_icI (x := 6) rfl (w_opzR (beq0 (by omega) (by omega) (by omega)) rem_lt (fun x17 x170 x171 x17e => ?_))))))
    refine w_eq2 (by omega) (by omega) (by omega) (by omega)  (fun c18 => ?_) (fun c18 => ?_)
    · refine w_run k_630841 (w_icI (x := 0) rfl (w_rz (by decide) ?_))
      exact k1 
    · refine w_icI (x := 1) rfl (w_go (w_run k_630842 (w_rz (by decide) ?_)))
      exact k0 
  by_cases c19 : (a_g A6 pa) = 5
  · rw [show ((a_g A6 pa) : Int) = 5 from c19]
    refine w_tsw (t := 630858) (fun _ => rfl) (w_run k_630858 (w_il (fun _ => rfl) (w_il (fun _ => rfl) (w_icI (x := 6) rfl (w_opzR (beq0 (by omega) (by omega) (by omega)) rem_lt (fun x20 x200 x201 x20e => ?_))))))
    refine w_eq2 (by omega) (by omega) (by omega) (by omega)  (fun c21 => ?_) (fun c21 => ?_)
    · refine w_run k_630879 (w_icI (x := 0) rfl (w_rz (by decide) ?_))
      exact k1 
    · refine w_il (fun _ => rfl) (w_il (fun _ => rfl) (w_icI (x := 1) rfl (w_opR sub_lt (fun x22 x220 x221 x22e => ?_))))
      refine w_eq2 (by omega) (by omega) (by omega) (by omega)  (fun c23 => ?_) (fun c23 => ?_)
      · refine w_run k_630879 (w_icI (x := 0) rfl (w_rz (by decide) ?_))
        exact k1 
      · refine w_icI (x := 1) rfl (w_go (w_run k_630880 (w_rz (by decide) ?_)))
        exact k0 
  refine w_tswL (by omega) (by omega) (by show _ < ((2 : Nat) : Int) ∨ ((6 : Nat) : Int) ≤ _; omega) (by decide) (w_run k_630881 (w_icI (x := 1) rfl (w_rz (by decide) ?_)))
  exact k0 
theorem k_634880 : m_cg 634880 = g_155_0 := rfl
theorem k_634962 : m_cg 634962 = g_155_82 := rfl
theorem k_634965 : m_cg 634965 = g_155_85 := rfl
theorem k_634983 : m_cg 634983 = g_155_103 := rfl
theorem k_635002 : m_cg 635002 = g_155_122 := rfl
theorem k_635001 : m_cg 635001 = g_155_121 := rfl
theorem c_mAsks {g : w_G} {o : w_O} {h : m_H} {d : Nat} {Q : Option m_V → m_H → Prop} (iv : w_Inv g o h) {pa : Int} {st : Int} {what : Int} (pa_lo : -2147483648 ≤ pa) (pa_hi : pa ≤ 2147483647) (st_lo : -2147483648 ≤ st) (st_hi : st ≤ 2147483647) (what_lo : -2147483648 ≤ what) (what_hi : what ≤ 2147483647) (k0 : ∀ (x : Int), -2147483648 ≤ x → x ≤ 2147483647 → Q (some (.inl (w_i x))) h) : wp (d + 1) 634880 [.inr (.inl (some 31)), .inl (w_i pa), .inl (w_i st), .inl (w_i what), .inr (.inr (.inl 0)), .inr (.inr (.inl 0)), .inr (.inr (.inl 0))] [] h Q := by
  have W := iv_wm iv
  refine w_run k_634880 (w_il (fun _ => rfl) (w_icI (x := 100) rfl (w_opzR (beq0 (by omega) (by omega) (by omega)) div_lt (fun x1 x10 x11 x1e => ?_))))
  refine w_is (fun _ => rfl) (w_il (fun _ => rfl) (w_icI (x := 10) rfl (w_opzR (beq0 (by omega) (by omega) (by omega)) div_lt (fun x2 x20 x21 x2e => ?_))))
  refine w_icI (x := 10) rfl (w_opzR (beq0 (by omega) (by omega) (by omega)) rem_lt (fun x3 x30 x31 x3e => ?_))
  refine w_is (fun _ => rfl) (w_il (fun _ => rfl) (w_icI (x := 10) rfl (w_opzR (beq0 (by omega) (by omega) (by omega)) rem_lt (fun x4 x40 x41 x4e => ?_))))
  refine w_is (fun _ => rfl) (w_il (fun _ => rfl) (w_icI (x := 0) rfl (w_al (fun _ => rfl) ?_)))
  obtain ⟨_, m5, spr5, kee5, rul5, tpd5, nxt5, tok5, tka5, val5, opn5, hm5, row5, ksp5, kke5, kru5, rfl, l5_spr, u5_spr, l5_kee, u5_kee, l5_rul, u5_rul, l5_tpd, u5_tpd, l5_nxt, u5_nxt, l5_tok, u5_tok, l5_tka, u5_tka, l5_val, u5_val, l5_opn, u5_opn, l5_hm, u5_hm, l5_row, u5_row, l5_ksp, u5_ksp, l5_kke, u5_kke, l5_kru, u5_kru, f5_0, f5_1, f5_2, f5_3, f5_4, f5_5, f5_6, f5_7, f5_8, f5_9⟩ := iv_31 iv
  refine w_getf m5 rfl (fun _ => rfl) (w_icI (x := 1) rfl (w_op (c := w_i (g_mnp g - 1)) (i_sub (g_mnp g) 1) ?_))
  refine w_ca (fun _ => rfl) rfl (c_mIsIn (d := d) iv (n := pa) (ln := 0) (mn := (g_mnp g - 1)) (by omega) (by omega) (by omega) (by omega) (by omega) (by omega)   (fun b6 b7 => ⟨_, rfl, ?_⟩) (fun b8 => ⟨_, rfl, ?_⟩))
  · refine w_eqzf (by omega) (by omega) (by omega)  (w_il (fun _ => rfl) ?_)
    refine w_ltz2 (by omega) (by omega)  (fun c9 => ?_) (fun c9 => ?_)
    · refine w_run k_634962 (w_icI (x := (-2)) wn_2 (w_ri ?_))
      exact k0 (-2) (by omega) (by omega)
    · refine w_al (fun _ => rfl) (w_il (fun _ => rfl) (w_this (fun _ => rfl) m5 ?_))
      refine w_ca (fun _ => rfl) rfl (c_mIsHouse (d := d) iv (n := x1) (by omega) (by omega)   (fun b10 b11 => ⟨_, rfl, ?_⟩) (fun b12 => ⟨_, rfl, ?_⟩))
      · refine w_eqzf (by omega) (by omega) (by omega)  (w_al (fun _ => rfl) (w_il (fun _ => rfl) (w_this (fun _ => rfl) m5 ?_)))
        refine w_ca (fun _ => rfl) rfl (c_mIsColour (d := d) iv (n := x3) (by omega) (by omega)   (fun b13 b14 => ⟨_, rfl, ?_⟩) (fun b15 => ⟨_, rfl, ?_⟩))
        · refine w_eqzf (by omega) (by omega) (by omega)  (w_al (fun _ => rfl) (w_il (fun _ => rfl) (w_this (fun _ => rfl) m5 ?_)))
          refine w_ca (fun _ => rfl) rfl (c_mIsColour (d := d) iv (n := x4) (by omega) (by omega)   (fun b16 b17 => ⟨_, rfl, ?_⟩) (fun b18 => ⟨_, rfl, ?_⟩))
          · refine w_eqzf (by omega) (by omega) (by omega)  (w_il (fun _ => rfl) (w_il (fun _ => rfl) ?_))
            refine w_eq2 (by omega) (by omega) (by omega) (by omega)  (fun c19 => ?_) (fun c19 => ?_)
            · refine w_run k_634962 (w_icI (x := (-2)) wn_2 (w_ri ?_))
              exact k0 (-2) (by omega) (by omega)
            · refine w_il (fun _ => rfl) (w_icI (x := 0) rfl (w_icI (x := 1) rfl ?_))
              refine w_ca (fun _ => rfl) rfl (c_mIsIn (d := d) iv (n := what) (ln := 0) (mn := 1) (by omega) (by omega) (by omega) (by omega) (by omega) (by omega)   (fun b20 b21 => ⟨_, rfl, ?_⟩) (fun b22 => ⟨_, rfl, ?_⟩))
              · refine w_nezt (by omega) (by omega) (by omega)  (w_run k_634965 (w_il (fun _ => rfl) ?_))
                refine w_nez2 (by omega) (by omega)  (fun c23 => ?_) (fun c23 => ?_)
                · refine w_run k_634983 (w_al (fun _ => rfl) (w_il (fun _ => rfl) (w_il (fun _ => rfl) (w_il (fun _ => rfl) (w_il (fun _ => rfl) (w_this (fun _ => rfl) m5 ?_))))))
                  refine w_ca (fun _ => rfl) rfl (c_mIsWilling (d := d) iv (pa := pa) (ho := x1) (fr := x3) (t := x4) (by omega) (by omega) (by omega) (by omega) (by omega) (by omega) (by omega) (by omega) (by omega) (by omega)  ⟨_, rfl, ?_⟩ ⟨_, rfl, ?_⟩)
                  · refine w_eqzf (by omega) (by omega) (by omega)  (w_icI (x := 1) rfl (w_go (w_run k_635002 (w_ri ?_))))
                    exact k0 1 (by omega) (by omega)
                  · refine w_eqzt (by omega) (by omega) (by omega)  (w_run k_635001 (w_icI (x := 0) rfl (w_ri ?_)))
                    exact k0 0 (by omega) (by omega)
                · refine w_al (fun _ => rfl) (w_il (fun _ => rfl) (w_il (fun _ => rfl) (w_il (fun _ => rfl) (w_il (fun _ => rfl) (w_this (fun _ => rfl) m5 ?_)))))
                  refine w_ca (fun _ => rfl) rfl (c_mCostsOf (d := d) iv (pa := pa) (ho := x1) (fr := x3) (t := x4) (by omega) (by omega) (by omega) (by omega) (by omega) (by omega) (by omega) (by omega) (by omega) (by omega) (by omega) (by omega) (by omega) (by omega) (by omega) (by omega)  (fun y24 b25 b26 b27 b28 => ⟨_, rfl, ?_⟩))
                  refine w_go (w_run k_635002 (w_ri ?_))
                  exact k0 y24 (by omega) (by omega)
              · refine w_nezf (by omega) (by omega) (by omega)  (w_icI (x := (-2)) wn_2 (w_ri ?_))
                exact k0 (-2) (by omega) (by omega)
          · refine w_eqzt (by omega) (by omega) (by omega)  (w_run k_634962 (w_icI (x := (-2)) wn_2 (w_ri ?_)))
            exact k0 (-2) (by omega) (by omega)
        · refine w_eqzt (by omega) (by omega) (by omega)  (w_run k_634962 (w_icI (x := (-2)) wn_2 (w_ri ?_)))
          exact k0 (-2) (by omega) (by omega)
      · refine w_eqzt (by omega) (by omega) (by omega)  (w_run k_634962 (w_icI (x := (-2)) wn_2 (w_ri ?_)))
        exact k0 (-2) (by omega) (by omega)
  · refine w_eqzt (by omega) (by omega) (by omega)  (w_run k_634962 (w_icI (x := (-2)) wn_2 (w_ri ?_)))
    exact k0 (-2) (by omega) (by omega)
