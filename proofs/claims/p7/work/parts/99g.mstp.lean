theorem c_mColourX {g : w_G} {o : w_O} {h : m_H} {d : Nat} {Q : Option m_V → m_H → Prop} (iv : w_Inv g o h) {tn : Int} {ii : Int} (tn_lo : -2147483648 ≤ tn) (tn_hi : tn ≤ 2147483647) (ii_lo : -2147483648 ≤ ii) (ii_hi : ii ≤ 2147483647) (t0_ : 0 ≤ tn) (i0_ : 0 ≤ ii) (i1_ : ii < g_mH g) (mu : w_mu g o h) (k0 : ∀ (x : Int), -2147483648 ≤ x → x ≤ 2147483647 → 0 ≤ x → x < g_mC g → x = tn / w_pw (g_mC g) ii % g_mC g → Q (some (.inl (w_i x))) h) : wp d 757760 [.inr (.inl (some 31)), .inl (w_i tn), .inl (w_i ii)] [] h Q := by
  have W := iv_wm iv
  obtain ⟨U, p56, hU⟩ := (id mu)
  refine w_run k_757760 (w_il (fun _ => rfl) (w_al (fun _ => rfl) ?_))
  obtain ⟨_, m1, spr1, kee1, rul1, tpd1, nxt1, tok1, tka1, val1, opn1, hm1, row1, ksp1, kke1, kru1, rfl, l1_spr, u1_spr, l1_kee, u1_kee, l1_rul, u1_rul, l1_tpd, u1_tpd, l1_nxt, u1_nxt, l1_tok, u1_tok, l1_tka, u1_tka, l1_val, u1_val, l1_opn, u1_opn, l1_hm, u1_hm, l1_row, u1_row, l1_ksp, u1_ksp, l1_kke, u1_kke, l1_kru, u1_kru, f1_0, f1_1, f1_2, f1_3, f1_4, f1_5, f1_6, f1_7, f1_8, f1_9⟩ := iv_31 iv
  refine w_getf m1 rfl (fun _ => rfl) (w_il (fun _ => rfl) (w_aldI p56 (by omega) (by omega) (by omega) ?_))
  obtain ⟨b2, b3⟩ := ag_rg U ii
  have e4 := hU ii (by omega) (by omega)
  have hq := pw_pos (c := g_mC g) (by omega) ii
  have hV := hU ii (by omega) (by omega) (by omega)
  refine w_opz (c := w_i (tn / (a_g U ii))) (beq0 (by omega) (by omega) (by omega)) (i_div (by omega) (by omega) (by omega) (by omega)) ?_
  have b5 : 0 ≤ (tn / (a_g U ii)) ∧ (tn / (a_g U ii)) ≤ tn := ⟨Int.ediv_nonneg (by omega) (by omega), Int.ediv_le_self _ (by omega)⟩
  refine w_al (fun _ => rfl) (w_getf m1 rfl (fun _ => rfl) (w_opz (c := w_i ((tn / (a_g U ii)) % g_mC g)) (beq0 (by omega) (by omega) (by omega)) (i_rem (by omega) (by omega) (by omega) (by omega)) ?_))
  have b6 : 0 ≤ ((tn / (a_g U ii)) % g_mC g) ∧ ((tn / (a_g U ii)) % g_mC g) < g_mC g := ⟨Int.emod_nonneg _ (by omega), Int.emod_lt_of_pos _ (by omega)⟩
  refine w_ri ?_
  exact k0 ((tn / (a_g U ii)) % g_mC g) (by omega) (by omega) (by omega) (by omega) (by rw [hV])
theorem k_765952 : m_cg 765952 = g_187_0 := rfl
theorem c_mBehindStep {g : w_G} {o : w_O} {h : m_H} {d : Nat} {Q : Option m_V → m_H → Prop} (iv : w_Inv g o h) {tn : Int} {ii : Int} {t : Int} (tn_lo : -2147483648 ≤ tn) (tn_hi : tn ≤ 2147483647) (ii_lo : -2147483648 ≤ ii) (ii_hi : ii ≤ 2147483647) (t_lo : -2147483648 ≤ t) (t_hi : t ≤ 2147483647) (t0_ : 0 ≤ tn) (t1_ : tn < g_mN g) (i0_ : 0 ≤ ii) (i1_ : ii < g_mH g) (c0_ : 0 ≤ t) (c1_ : t < g_mC g) (mu : w_mu g o h) (k0 : ∀ (x : Int), -2147483648 ≤ x → x ≤ 2147483647 → 0 ≤ x → x < g_mN g → x = w_bs g tn ii t → Q (some (.inl (w_i x))) h) : wp (d + 1) 765952 [.inr (.inl (some 31)), .inl (w_i tn), .inl (w_i ii), .inl (w_i t)] [] h Q := by
  have W := iv_wm iv
  obtain ⟨U, p56, hU⟩ := (id mu)
  refine w_run k_765952 (w_il (fun _ => rfl) (w_al (fun _ => rfl) ?_))
  obtain ⟨_, m1, spr1, kee1, rul1, tpd1, nxt1, tok1, tka1, val1, opn1, hm1, row1, ksp1, kke1, kru1, rfl, l1_spr, u1_spr, l1_kee, u1_kee, l1_rul, u1_rul, l1_tpd, u1_tpd, l1_nxt, u1_nxt, l1_tok, u1_tok, l1_tka, u1_tka, l1_val, u1_val, l1_opn, u1_opn, l1_hm, u1_hm, l1_row, u1_row, l1_ksp, u1_ksp, l1_kke, u1_kke, l1_kru, u1_kru, f1_0, f1_1, f1_2, f1_3, f1_4, f1_5, f1_6, f1_7, f1_8, f1_9⟩ := iv_31 iv
  refine w_getf m1 rfl (fun _ => rfl) (w_il (fun _ => rfl) (w_aldI p56 (by omega) (by omega) (by omega) ?_))
  obtain ⟨b2, b3⟩ := ag_rg U ii
  have e4 := hU ii (by omega) (by omega)
  refine w_il (fun _ => rfl) (w_al (fun _ => rfl) (w_il (fun _ => rfl) (w_il (fun _ => rfl) (w_this (fun _ => rfl) m1 ?_))))
  refine w_ca (fun _ => rfl) rfl (c_mColourX (d := d) iv (tn := tn) (ii := ii) (by omega) (by omega) (by omega) (by omega) (by omega) (by omega) (by omega) mu (fun y5 b6 b7 b8 b9 b10 => ⟨_, rfl, ?_⟩))
  refine w_op (c := w_i (t - y5)) (i_sub t y5) ?_
  have hV := hU ii (by omega) (by omega) (by omega)
  have hD := dig_st (c := g_mC g) (i := ii) (n := g_mH g) (x := tn) (t := t) (by omega) (by omega) (by omega) (by omega) (by rw [← iv_mN iv]; omega) (by omega) (by omega)
  rw [← b10, ← hV, ← iv_mN iv] at hD
  refine w_op (c := w_i ((a_g U ii) * (t - y5))) (i_mul (a_g U ii) (t - y5)) (w_op (c := w_i (tn + ((a_g U ii) * (t - y5)))) (i_add tn ((a_g U ii) * (t - y5))) (w_ri ?_))
  exact k0 (tn + ((a_g U ii) * (t - y5))) (by omega) (by omega) (by omega) (by omega) (by unfold w_bs w_dg; rw [← b10, ← hV])
theorem k_811008 : m_cg 811008 = g_198_0 := rfl
theorem k_811043 : m_cg 811043 = g_198_35 := rfl
theorem k_811044 : m_cg 811044 = g_198_36 := rfl
theorem c_mIsBothWays {g : w_G} {o : w_O} {h : m_H} {d : Nat} {Q : Option m_V → m_H → Prop} (iv : w_Inv g o h) {tn : Int} {ii : Int} {t : Int} (tn_lo : -2147483648 ≤ tn) (tn_hi : tn ≤ 2147483647) (ii_lo : -2147483648 ≤ ii) (ii_hi : ii ≤ 2147483647) (t_lo : -2147483648 ≤ t) (t_hi : t ≤ 2147483647) (t0_ : 0 ≤ tn) (t1_ : tn < g_mN g) (i0_ : 0 ≤ ii) (i1_ : ii < g_mH g) (c0_ : 0 ≤ t) (c1_ : t < g_mC g) (mu : w_mu g o h) (k0 : Q (some (.inl (w_i 1))) h) (k1 : Q (some (.inl (w_i 0))) h) : wp (d + 2) 811008 [.inr (.inl (some 31)), .inl (w_i tn), .inl (w_i ii), .inl (w_i t)] [] h Q := by
  have W := iv_wm iv
  refine w_run k_811008 (w_al (fun _ => rfl) (w_il (fun _ => rfl) (w_il (fun _ => rfl) (w_il (fun _ => rfl) ?_))))
  obtain ⟨_, m1, spr1, kee1, rul1, tpd1, nxt1, tok1, tka1, val1, opn1, hm1, row1, ksp1, kke1, kru1, rfl, l1_spr, u1_spr, l1_kee, u1_kee, l1_rul, u1_rul, l1_tpd, u1_tpd, l1_nxt, u1_nxt, l1_tok, u1_tok, l1_tka, u1_tka, l1_val, u1_val, l1_opn, u1_opn, l1_hm, u1_hm, l1_row, u1_row, l1_ksp, u1_ksp, l1_kke, u1_kke, l1_kru, u1_kru, f1_0, f1_1, f1_2, f1_3, f1_4, f1_5, f1_6, f1_7, f1_8, f1_9⟩ := iv_31 iv
  refine w_this (fun _ => rfl) m1 ?_
  refine w_ca (fun _ => rfl) rfl (c_mCostIn (d := d) iv (tn := tn) (ii := ii) (t := t) (by omega) (by omega) (by omega) (by omega) (by omega) (by omega) (by omega) (by omega) (by omega) (by omega) (by omega) mu (fun y2 b3 b4 b5 => ⟨_, rfl, ?_⟩))
  refine w_ltz2 (by omega) (by omega)  (fun c6 => ?_) (fun c6 => ?_)
  · refine w_run k_811043 (w_icI (x := 0) rfl (w_rz (by decide) ?_))
    exact k1 
  · refine w_al (fun _ => rfl) (w_al (fun _ => rfl) (w_il (fun _ => rfl) (w_il (fun _ => rfl) (w_il (fun _ => rfl) (w_this (fun _ => rfl) m1 ?_)))))
    refine w_ca (fun _ => rfl) rfl (c_mBehindStep (d := d) iv (tn := tn) (ii := ii) (t := t) (by omega) (by omega) (by omega) (by omega) (by omega) (by omega) (by omega) (by omega) (by omega) (by omega) (by omega) (by omega) mu (fun y7 b8 b9 b10 b11 b12 => ⟨_, rfl, ?_⟩))
    refine w_il (fun _ => rfl) (w_al (fun _ => rfl) (w_il (fun _ => rfl) (w_il (fun _ => rfl) (w_this (fun _ => rfl) m1 ?_))))
    refine w_ca (fun _ => rfl) rfl (c_mColourX (d := (d + 1)) iv (tn := tn) (ii := ii) (by omega) (by omega) (by omega) (by omega) (by omega) (by omega) (by omega) mu (fun y13 b14 b15 b16 b17 b18 => ⟨_, rfl, ?_⟩))
    refine w_this (fun _ => rfl) m1 ?_
    refine w_ca (fun _ => rfl) rfl (c_mCostIn (d := d) iv (tn := y7) (ii := ii) (t := y13) (by omega) (by omega) (by omega) (by omega) (by omega) (by omega) (by omega) (by omega) (by omega) (by omega) (by omega) mu (fun y19 b20 b21 b22 => ⟨_, rfl, ?_⟩))
    refine w_ltz2 (by omega) (by omega)  (fun c23 => ?_) (fun c23 => ?_)
    · refine w_run k_811043 (w_icI (x := 0) rfl (w_rz (by decide) ?_))
      exact k1 
    · refine w_icI (x := 1) rfl (w_go (w_run k_811044 (w_rz (by decide) ?_)))
      exact k0 
