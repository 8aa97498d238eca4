theorem k_495616 : m_cg 495616 = g_121_0 := rfl
theorem k_495629 : m_cg 495629 = g_121_13 := rfl
theorem k_495630 : m_cg 495630 = g_121_14 := rfl
theorem c_isWithin {g : w_G} {o : w_O} {h : m_H} {d : Nat} {Q : Option m_V → m_H → Prop} (iv : w_Inv g o h) {n : Int} {most : Int} (n_lo : -2147483648 ≤ n) (n_hi : n ≤ 2147483647) (most_lo : -2147483648 ≤ most) (most_hi : most ≤ 2147483647) (k0 : 0 ≤ n → n ≤ most → Q (some (.inl (w_i 1))) h) (k1 : (n < 0 ∨ most < n) → Q (some (.inl (w_i 0))) h) : wp d 495616 [.inl (w_i n), .inl (w_i most)] [] h Q := by
  have W := iv_wc iv
  refine w_run k_495616 (w_il (fun _ => rfl) ?_)
  refine w_ltz2 (by omega) (by omega)  (fun c1 => ?_) (fun c1 => ?_)
  · refine w_run k_495629 (w_icI (x := 0) rfl (w_rz (by decide) ?_))
    exact k1 (by omega)
  · refine w_il (fun _ => rfl) (w_il (fun _ => rfl) ?_)
    refine w_gt2 (by omega) (by omega) (by omega) (by omega)  (fun c2 => ?_) (fun c2 => ?_)
    · refine w_run k_495629 (w_icI (x := 0) rfl (w_rz (by decide) ?_))
      exact k1 (by omega)
    · refine w_icI (x := 1) rfl (w_go (w_run k_495630 (w_rz (by decide) ?_)))
      exact k0 (by omega) (by omega)
theorem k_499712 : m_cg 499712 = g_122_0 := rfl
theorem k_499721 : m_cg 499721 = g_122_9 := rfl
theorem k_499726 : m_cg 499726 = g_122_14 := rfl
theorem k_499725 : m_cg 499725 = g_122_13 := rfl
theorem c_isFlag {g : w_G} {o : w_O} {h : m_H} {d : Nat} {Q : Option m_V → m_H → Prop} (iv : w_Inv g o h) {n : Int} (n_lo : -2147483648 ≤ n) (n_hi : n ≤ 2147483647) (k0 : 0 ≤ n → n ≤ 1 → Q (some (.inl (w_i 1))) h) (k1 : (n < 0 ∨ 1 < n) → Q (some (.inl (w_i 0))) h) : wp d 499712 [.inl (w_i n)] [] h Q := by
  have W := iv_wc iv
  refine w_run k_499712 (w_il (fun _ => rfl) ?_)
  refine w_eqz2 (by omega) (by omega)  (fun c1 => ?_) (fun c1 => ?_)
  · refine w_run k_499721 (w_icI (x := 1) rfl (w_go (w_run k_499726 (w_rz (by decide) ?_))))
    exact k0 (by omega) (by omega)
  · refine w_il (fun _ => rfl) (w_icI (x := 1) rfl ?_)
    refine w_ne2 (by omega) (by omega) (by omega) (by omega)  (fun c2 => ?_) (fun c2 => ?_)
    · refine w_run k_499725 (w_icI (x := 0) rfl (w_rz (by decide) ?_))
      exact k1 (by omega)
    · refine w_icI (x := 1) rfl (w_go (w_run k_499726 (w_rz (by decide) ?_)))
      exact k0 (by omega) (by omega)
theorem k_503808 : m_cg 503808 = g_123_0 := rfl
theorem c_isSheet {g : w_G} {o : w_O} {h : m_H} {d : Nat} {Q : Option m_V → m_H → Prop} (iv : w_Inv g o h) {n : Int} (n_lo : -2147483648 ≤ n) (n_hi : n ≤ 2147483647) (k0 : 0 ≤ n → n ≤ 3 → Q (some (.inl (w_i 1))) h) (k1 : (n < 0 ∨ 3 < n) → Q (some (.inl (w_i 0))) h) : wp (d + 1) 503808 [.inl (w_i n)] [] h Q := by
  have W := iv_wc iv
  refine w_run k_503808 (w_il (fun _ => rfl) (w_icI (x := 3) rfl ?_))
  refine w_ca (fun _ => rfl) rfl (c_isWithin (d := d) iv (n := n) (most := 3) (by omega) (by omega) (by omega) (by omega)   (fun b1 b2 => ⟨_, rfl, ?_⟩) (fun b3 => ⟨_, rfl, ?_⟩))
  · refine w_rz (by decide) ?_
    exact k0 (by omega) (by omega)
  · refine w_rz (by decide) ?_
    exact k1 (by omega)
theorem k_557056 : m_cg 557056 = g_136_0 := rfl
theorem c_bounded {g : w_G} {o : w_O} {h : m_H} {d : Nat} {Q : Option m_V → m_H → Prop} (iv : w_Inv g o h) {n : Int} {most : Int} (n_lo : -2147483648 ≤ n) (n_hi : n ≤ 2147483647) (most_lo : -2147483648 ≤ most) (most_hi : most ≤ 2147483647) (k0 : ∀ (x : Int), -2147483648 ≤ x → x ≤ 2147483647 → 0 ≤ x → (x ≤ most ∨ x = 0) → Q (some (.inl (w_i x))) h) : wp d 557056 [.inl (w_i n), .inl (w_i most)] [] h Q := by
  have W := iv_wc iv
  refine w_run k_557056 (w_icI (x := 0) rfl (w_il (fun _ => rfl) (w_il (fun _ => rfl) (w_min (by omega) (by omega) (by omega) (by omega) rfl (fun x1 b2 => ?_)))))
  refine w_max (by omega) (by omega) (by omega) (by omega) rfl (fun x3 b4 => ?_)
  refine w_ri ?_
  exact k0 x3 (by omega) (by omega) (by omega) (by omega)
theorem k_512000 : m_cg 512000 = g_125_0 := rfl
theorem k_512013 : m_cg 512013 = g_125_13 := rfl
theorem k_512040 : m_cg 512040 = g_125_40 := rfl
theorem k_512049 : m_cg 512049 = g_125_49 := rfl
theorem k_512065 : m_cg 512065 = g_125_65 := rfl
theorem k_512070 : m_cg 512070 = g_125_70 := rfl
theorem k_512069 : m_cg 512069 = g_125_69 := rfl
theorem k_512071 : m_cg 512071 = g_125_71 := rfl
theorem k_512076 : m_cg 512076 = g_125_76 := rfl
theorem c_isSettable {g : w_G} {o : w_O} {h : m_H} {d : Nat} {Q : Option m_V → m_H → Prop} (iv : w_Inv g o h) {what : Int} {of : Int} {v : Int} (what_lo : -2147483648 ≤ what) (what_hi : what ≤ 2147483647) (of_lo : -2147483648 ≤ of) (of_hi : of ≤ 2147483647) (v_lo : -2147483648 ≤ v) (v_hi : v ≤ 2147483647) (k0 : 0 ≤ of → of < g_H g → ((what = 0 ∧ 0 ≤ v ∧ v < g_C g) ∨ what = 1 ∨ (what = 2 ∧ 0 ≤ v ∧ v ≤ 1)) → Q (some (.inl (w_i 1))) h) (k1 : Q (some (.inl (w_i 0))) h) : wp (d + 1) 512000 [.inr (.inl (some 0)), .inl (w_i what), .inl (w_i of), .inl (w_i v)] [] h Q := by
  have W := iv_wc iv
  refine w_run k_512000 (w_al (fun _ => rfl) ?_)
  obtain ⟨_, m1, rfl⟩ := iv_0 iv
  refine w_getf m1 rfl (fun _ => rfl) (w_il (fun _ => rfl) ?_)
  obtain ⟨_, m2, kp2, sp2, rl2, rfl, l2_kp, u2_kp, l2_sp, u2_sp, l2_rl, u2_rl, f2_0, f2_1⟩ := iv_1 iv
  refine w_this (fun _ => rfl) m2 ?_
  refine w_ca (fun _ => rfl) rfl (c_isHouse (d := d) iv (n := of) (by omega) (by omega)   (fun b3 b4 => ⟨_, rfl, ?_⟩) (fun b5 => ⟨_, rfl, ?_⟩))
  · refine w_nezt (by omega) (by omega) (by omega)  (w_run k_512013 (w_il (fun _ => rfl) ?_))
    by_cases c6 : what = 0
    · rw [show (what : Int) = 0 from c6]
      refine w_tsw (t := 512040) (fun _ => rfl) (w_run k_512040 (w_al (fun _ => rfl) (w_getf m1 rfl (fun _ => rfl) (w_il (fun _ => rfl) (w_this (fun _ => rfl) m2 ?_)))))
      refine w_ca (fun _ => rfl) rfl (c_isColour (d := d) iv (n := v) (by omega) (by omega)   (fun b7 b8 => ⟨_, rfl, ?_⟩) (fun b9 => ⟨_, rfl, ?_⟩))
      · refine w_rz (by decide) ?_
        exact k0 (by omega) (by omega) (by omega)
      · refine w_rz (by decide) ?_
        exact k1 
    by_cases c10 : what = 1
    · rw [show (what : Int) = 1 from c10]
      refine w_tsw (t := 512049) (fun _ => rfl) (w_run k_512049 (w_il (fun _ => rfl) (w_icI (x := (-1)) wn_1 ?_)))
      refine w_eq2 (by omega) (by omega) (by omega) (by omega)  (fun c11 => ?_) (fun c11 => ?_)
      · refine w_run k_512065 (w_icI (x := 1) rfl (w_go (w_run k_512070 (w_rz (by decide) ?_))))
        exact k0 (by omega) (by omega) (by omega)
      · refine w_al (fun _ => rfl) (w_getf m1 rfl (fun _ => rfl) (w_il (fun _ => rfl) (w_this (fun _ => rfl) m2 ?_)))
        refine w_ca (fun _ => rfl) rfl (c_isColour (d := d) iv (n := v) (by omega) (by omega)   (fun b12 b13 => ⟨_, rfl, ?_⟩) (fun b14 => ⟨_, rfl, ?_⟩))
        · refine w_eqzf (by omega) (by omega) (by omega)  (w_icI (x := 1) rfl (w_go (w_run k_512070 (w_rz (by decide) ?_))))
          exact k0 (by omega) (by omega) (by omega)
        · refine w_eqzt (by omega) (by omega) (by omega)  (w_run k_512069 (w_icI (x := 0) rfl (w_rz (by decide) ?_)))
          exact k1 
    by_cases c15 : what = 2
    · rw [show (what : Int) = 2 from c15]
      refine w_tsw (t := 512071) (fun _ => rfl) (w_run k_512071 (w_il (fun _ => rfl) ?_))
      refine w_ca (fun _ => rfl) rfl (c_isFlag (d := d) iv (n := v) (by omega) (by omega)   (fun b16 b17 => ⟨_, rfl, ?_⟩) (fun b18 => ⟨_, rfl, ?_⟩))
      · refine w_rz (by decide) ?_
        exact k0 (by omega) (by omega) (by omega)
      · refine w_rz (by decide) ?_
        exact k1 
    refine w_tswD (by omega) (by omega) (by show _ ∨ ((3 : Nat) : Int) ≤ _; omega) (by decide) (w_run k_512076 (w_icI (x := 0) rfl (w_rz (by decide) ?_)))
    exact k1 
  · refine w_nezf (by omega) (by omega) (by omega)  (w_icI (x := 0) rfl (w_rz (by decide) ?_))
    exact k1 
theorem k_516096 : m_cg 516096 = g_126_0 := rfl
theorem k_516119 : m_cg 516119 = g_126_23 := rfl
theorem k_516118 : m_cg 516118 = g_126_22 := rfl
theorem c_painterOf {g : w_G} {o : w_O} {h : m_H} {d : Nat} {Q : Option m_V → m_H → Prop} (iv : w_Inv g o h) {n : Int} (n_lo : -2147483648 ≤ n) (n_hi : n ≤ 2147483647) (k0 : (n < 0 ∨ g_np g ≤ n) → Q (some (.inr (.inl none))) h) (k1 : ∀ (p : Nat), 0 ≤ n → n < g_np g → o p = (120, n.toNat) → Q (some (.inr (.inl (some p)))) h) : wp (d + 1) 516096 [.inr (.inl (some 0)), .inl (w_i n)] [] h Q := by
  have W := iv_wc iv
  refine w_run k_516096 (w_il (fun _ => rfl) (w_al (fun _ => rfl) ?_))
  obtain ⟨_, m1, rfl⟩ := iv_0 iv
  refine w_getf m1 rfl (fun _ => rfl) (w_icI (x := 1) rfl (w_op (c := w_i (g_np g - 1)) (i_sub (g_np g) 1) ?_))
  refine w_ca (fun _ => rfl) rfl (c_isWithin (d := d) iv (n := n) (most := (g_np g - 1)) (by omega) (by omega) (by omega) (by omega)   (fun b2 b3 => ⟨_, rfl, ?_⟩) (fun b4 => ⟨_, rfl, ?_⟩))
  · refine w_eqzf (by omega) (by omega) (by omega)  (w_al (fun _ => rfl) (w_getf m1 rfl (fun _ => rfl) (w_il (fun _ => rfl) ?_)))
    obtain ⟨_, m5, l5, rfl, ll5, lp5, ln5⟩ := iv_17 iv
    obtain ⟨p6, b7, b8⟩ := lp5 (n).toNat (by omega) (by omega)
    refine w_aaldI m5 (by omega) (by omega) (by decide) b7 (w_go (w_run k_516119 (w_ra ?_)))
    exact k1 _ (by omega) (by omega) b8
  · refine w_eqzt (by omega) (by omega) (by omega)  (w_run k_516118 (w_nul (w_ra ?_)))
    exact k0 (by omega)
theorem k_548864 : m_cg 548864 = g_134_0 := rfl
theorem k_548899 : m_cg 548899 = g_134_35 := rfl
theorem c_ruleNow {g : w_G} {o : w_O} {h : m_H} {d : Nat} {Q : Option m_V → m_H → Prop} (iv : w_Inv g o h) (k0 : ∀ (p : Nat), (o p).1 = 110 → Q (some (.inr (.inl (some p)))) h) : wp (d + 1) 548864 [.inr (.inl (some 0))] [] h Q := by
  have W := iv_wc iv
  refine w_run k_548864 (w_al (fun _ => rfl) ?_)
  obtain ⟨_, m1, rfl⟩ := iv_0 iv
  refine w_getf m1 rfl (fun _ => rfl) ?_
  obtain ⟨_, m2, kp2, sp2, rl2, rfl, l2_kp, u2_kp, l2_sp, u2_sp, l2_rl, u2_rl, f2_0, f2_1⟩ := iv_1 iv
  refine w_getf m2 rfl (fun _ => rfl) (w_al (fun _ => rfl) (w_getf m1 rfl (fun _ => rfl) (w_icI (x := 1) rfl (w_op (c := w_i (g_nt g - 1)) (i_sub (g_nt g) 1) ?_))))
  refine w_ca (fun _ => rfl) rfl (c_isWithin (d := d) iv (n := rl2) (most := (g_nt g - 1)) (by omega) (by omega) (by omega) (by omega)   (fun b3 b4 => ⟨_, rfl, ?_⟩) (fun b5 => ⟨_, rfl, ?_⟩))
  · refine w_eqzf (by omega) (by omega) (by omega)  (w_al (fun _ => rfl) (w_getf m1 rfl (fun _ => rfl) (w_al (fun _ => rfl) (w_getf m1 rfl (fun _ => rfl) (w_getf m2 rfl (fun _ => rfl) ?_)))))
    obtain ⟨_, m6, l6, rfl, ll6, lp6, ln6⟩ := iv_23 iv
    obtain ⟨p7, b8, b9⟩ := lp6 (rl2).toNat (by omega) (by omega)
    refine w_aaldI m6 (by omega) (by omega) (by decide) b8 (w_go (w_run k_548899 (w_ra ?_)))
    exact k0 _ b9
  · exfalso; omega
theorem k_552960 : m_cg 552960 = g_135_0 := rfl
theorem k_921600 : m_cg 921600 = g_225_0 := rfl
theorem c_tellNames {g : w_G} {o : w_O} {h : m_H} {d : Nat} {Q : Option m_V → m_H → Prop} (iv : w_Inv g o h) {house : Int} {f : Int} {t : Int} (house_lo : -2147483648 ≤ house) (house_hi : house ≤ 2147483647) (f_lo : -2147483648 ≤ f) (f_hi : f ≤ 2147483647) (t_lo : -2147483648 ≤ t) (t_hi : t ≤ 2147483647) (h0 : 0 ≤ house) (h1 : house < 6) (k0 : ∀ h2 : m_H, w_Inv g o h2 → w_fr o [25] h h2 → Q none h2) : wp (d + 1) 552960 [.inr (.inl (some 0)), .inl (w_i house), .inl (w_i f), .inl (w_i t)] [] h Q := by
  have F := fr_rf (o := o) (h := h) (W := [25])
  have W := iv_wc iv
  refine w_run k_552960 (w_al (fun _ => rfl) ?_)
  obtain ⟨_, m1, rfl⟩ := iv_0 iv
  refine w_getf m1 rfl (fun _ => rfl) (w_icI (x := 0) rfl (w_il (fun _ => rfl) ?_))
  obtain ⟨_, m2, A2, rfl⟩ := iv_25 iv
  refine w_astI m2 (by omega) (by omega) (by omega) (by omega) (by omega) (fun A6 h4 w7 s3 => ?_)
  have iv5 := is_25 iv s3 ⟨_, rfl⟩
  have F8 := fr_st F s3 (by rw [(ow_25 iv)]; rfl)
  refine w_al (fun _ => rfl) ?_
  have m9 := st_fr s3 m1 (by decide)
  refine w_getf m9 rfl (fun _ => rfl) (w_icI (x := 1) rfl (w_il (fun _ => rfl) (w_astI s3.2.2.1 (by omega) (by omega) (by omega) (by omega) (by omega) (fun A13 h11 w14 s10 => ?_))))
  have iv12 := is_25 iv5 s10 ⟨_, rfl⟩
  have F15 := fr_st F8 s10 (by rw [(ow_25 iv5)]; rfl)
  refine w_al (fun _ => rfl) ?_
  have m16 := st_fr s10 m9 (by decide)
  refine w_getf m16 rfl (fun _ => rfl) (w_icI (x := 2) rfl (w_al (fun _ => rfl) (w_getf m16 rfl (fun _ => rfl) ?_)))
  obtain ⟨_, m17, kp17, sp17, rl17, rfl, l17_kp, u17_kp, l17_sp, u17_sp, l17_rl, u17_rl, f17_0, f17_1⟩ := iv_1 iv12
  refine w_getf m17 rfl (fun _ => rfl) (w_il (fun _ => rfl) ?_)
  obtain ⟨_, m18, A18, rfl, e18⟩ := iv_2 iv12
  refine w_aldI m18 (by omega) (by omega) (by omega) ?_
  obtain ⟨b19, b20⟩ := ag_rg A18 house
  have e21 := e18 house (by omega) (by omega)
  refine w_ca (fun _ => rfl) rfl (w_run k_921600 (w_il (fun _ => rfl) (w_il (fun _ => rfl) (w_icI (x := 1) rfl (w_opP (ushr_p (by decide) (by decide)) (fun x22 x220 x221 x22e => ?_))))))
  refine w_icI (x := 1431655765) rfl (w_opR and_lt (fun x23 x230 x231 x23e => ?_))
  refine w_opR sub_lt (fun x24 x240 x241 x24e => ?_)
  refine w_is (fun _ => rfl) (w_il (fun _ => rfl) (w_icI (x := 858993459) rfl (w_opR and_lt (fun x25 x250 x251 x25e => ?_))))
  refine w_il (fun _ => rfl) (w_icI (x := 2) rfl (w_opP (ushr_p (by decide) (by decide)) (fun x26 x260 x261 x26e => ?_)))
  refine w_icI (x := 858993459) rfl (w_opR and_lt (fun x27 x270 x271 x27e => ?_))
  refine w_opR add_lt (fun x28 x280 x281 x28e => ?_)
  refine w_is (fun _ => rfl) (w_il (fun _ => rfl) (w_il (fun _ => rfl) (w_icI (x := 4) rfl (w_opP (ushr_p (by decide) (by decide)) (fun x29 x290 x291 x29e => ?_)))))
  refine w_opR add_lt (fun x30 x300 x301 x30e => ?_)
  refine w_icI (x := 252645135) rfl (w_opR and_lt (fun x31 x310 x311 x31e => ?_))
  refine w_is (fun _ => rfl) (w_il (fun _ => rfl) (w_il (fun _ => rfl) (w_icI (x := 8) rfl (w_opP (ushr_p (by decide) (by decide)) (fun x32 x320 x321 x32e => ?_)))))
  refine w_opR add_lt (fun x33 x330 x331 x33e => ?_)
  refine w_is (fun _ => rfl) (w_il (fun _ => rfl) (w_il (fun _ => rfl) (w_icI (x := 16) rfl (w_opP (ushr_p (by decide) (by decide)) (fun x34 x340 x341 x34e => ?_)))))
  refine w_opR add_lt (fun x35 x350 x351 x35e => ?_)
  refine w_is (fun _ => rfl) (w_il (fun _ => rfl) (w_icI (x := 63) rfl (w_opR and_lt (fun x36 x360 x361 x36e => ?_))))
  refine w_ri ⟨_, rfl, ?_⟩
  refine w_astI s10.2.2.1 (by omega) (by omega) (by omega) (by omega) (by omega) (fun A40 h38 w41 s37 => ?_)
  have iv39 := is_25 iv12 s37 ⟨_, rfl⟩
  have F42 := fr_st F15 s37 (by rw [(ow_25 iv12)]; rfl)
  refine w_al (fun _ => rfl) ?_
  have m43 := st_fr s37 m16 (by decide)
  refine w_getf m43 rfl (fun _ => rfl) (w_icI (x := 3) rfl (w_al (fun _ => rfl) (w_getf m43 rfl (fun _ => rfl) ?_)))
  have m44 := st_fr s37 m17 (by decide)
  refine w_getf m44 rfl (fun _ => rfl) (w_astI s37.2.2.1 (by omega) (by omega) (by omega) (by omega) (by omega) (fun A48 h46 w49 s45 => ?_))
  have iv47 := is_25 iv39 s45 ⟨_, rfl⟩
  have F50 := fr_st F42 s45 (by rw [(ow_25 iv39)]; rfl)
  refine w_al (fun _ => rfl) ?_
  have m51 := st_fr s45 m43 (by decide)
  refine w_getf m51 rfl (fun _ => rfl) (w_icI (x := 4) rfl (w_al (fun _ => rfl) (w_getf m51 rfl (fun _ => rfl) (w_il (fun _ => rfl) ?_))))
  have m52 := st_fr s45 m44 (by decide)
  refine w_this (fun _ => rfl) m52 ?_
  refine w_ca (fun _ => rfl) rfl (c_keepBit (d := d) iv47 (n := house) (by omega) (by omega)   (fun y53 b54 b55 b56 b57 => ⟨_, rfl, ?_⟩))
  refine w_astI s45.2.2.1 (by omega) (by omega) (by omega) (by omega) (by omega) (fun A61 h59 w62 s58 => ?_)
  have iv60 := is_25 iv47 s58 ⟨_, rfl⟩
  have F63 := fr_st F50 s58 (by rw [(ow_25 iv47)]; rfl)
  refine w_al (fun _ => rfl) ?_
  have m64 := st_fr s58 m51 (by decide)
  refine w_getf m64 rfl (fun _ => rfl) (w_icI (x := 5) rfl (w_il (fun _ => rfl) (w_astI s58.2.2.1 (by omega) (by omega) (by omega) (by omega) (by omega) (fun A68 h66 w69 s65 => ?_))))
  have iv67 := is_25 iv60 s65 ⟨_, rfl⟩
  have F70 := fr_st F63 s65 (by rw [(ow_25 iv60)]; rfl)
  refine w_rv ?_
  exact k0 h66 iv67 F70
