theorem l_mCostX_29 {g : w_G} {o : w_O} {h : m_H} {d : Nat} {Q : Option m_V → m_H → Prop} (iv : w_Inv g o h) {S : Nat} {tn : Int} {ii : Int} {t : Int} (tn_lo : -2147483648 ≤ tn) (tn_hi : tn ≤ 2147483647) (ii_lo : -2147483648 ≤ ii) (ii_hi : ii ≤ 2147483647) (t_lo : -2147483648 ≤ t) (t_hi : t ≤ 2147483647) (t0_ : 0 ≤ tn) (i0_ : 0 ≤ ii) (i1_ : ii < g_mH g) (c0_ : 0 ≤ t) (c1_ : t < g_mC g) (k0 : ∀ (x : Int), -2147483648 ≤ x → x ≤ 2147483647 → x = w_cip g S tn ii t → Q (some (.inl (w_i x))) h) : ∀ (k : Nat) (f va j : Int) (mu : w_mu g o h) (sx : w_sx g o h S) (f_lo : -2147483648 ≤ f) (f_hi : f ≤ 2147483647) (va_lo : -2147483648 ≤ va) (va_hi : va ≤ 2147483647) (j_lo : -2147483648 ≤ j) (j_hi : j ≤ 2147483647) (j0 : 0 ≤ j) (j1 : j ≤ g_mH g) (ve : va = w_cil g S tn ii t j.toNat), g_mH g - j < (k : Int) → wp (d + 1) 761885 [.inr (.inl (some 31)), .inl (w_i tn), .inl (w_i ii), .inl (w_i t), .inl (w_i f), .inl (w_i va), .inl (w_i j)] [] h Q := by
  intro k
  induction k with
  | zero => intro f va j mu sx f_lo f_hi va_lo va_hi j_lo j_hi j0 j1 ve hk; exact absurd hk (by omega)
  | succ k ih =>
    intro f va j mu sx f_lo f_hi va_lo va_hi j_lo j_hi j0 j1 ve hk
    have W := iv_wm iv
    refine w_run k_761885 (w_il (fun _ => rfl) (w_al (fun _ => rfl) ?_))
    obtain ⟨_, m1, spr1, kee1, rul1, tpd1, nxt1, tok1, tka1, val1, opn1, hm1, row1, ksp1, kke1, kru1, rfl, l1_spr, u1_spr, l1_kee, u1_kee, l1_rul, u1_rul, l1_tpd, u1_tpd, l1_nxt, u1_nxt, l1_tok, u1_tok, l1_tka, u1_tka, l1_val, u1_val, l1_opn, u1_opn, l1_hm, u1_hm, l1_row, u1_row, l1_ksp, u1_ksp, l1_kke, u1_kke, l1_kru, u1_kru, f1_0, f1_1, f1_2, f1_3, f1_4, f1_5, f1_6, f1_7, f1_8, f1_9⟩ := iv_31 iv
    refine w_getf m1 rfl (fun _ => rfl) ?_
    refine w_ge2 (by omega) (by omega) (by omega) (by omega)  (fun c2 => ?_) (fun c2 => ?_)
    · refine w_run k_761935 (w_il (fun _ => rfl) (w_ri ?_))
      exact k0 va (by omega) (by omega) (ci_end ve (by omega) (by omega) (by omega))
    · refine w_il (fun _ => rfl) ?_
      refine w_ltz2 (by omega) (by omega)  (fun c3 => ?_) (fun c3 => ?_)
      · refine w_run k_761935 (w_il (fun _ => rfl) (w_ri ?_))
        exact k0 va (by omega) (by omega) (ci_end ve (by omega) (by omega) (by omega))
      · refine w_al (fun _ => rfl) (w_getf m1 rfl (fun _ => rfl) (w_il (fun _ => rfl) ?_))
        obtain ⟨_, m4, A4, rfl, e4⟩ := iv_32 iv
        refine w_aldI m4 (by omega) (by omega) (by omega) ?_
        obtain ⟨b5, b6⟩ := ag_rg A4 ii
        have e7 := e4 ii (by omega) (by omega)
        refine w_il (fun _ => rfl) (w_opR shr_lt (fun x8 x80 x81 x8e => ?_))
        refine w_icI (x := 1) rfl ?_
        refine w_op01 and_1 (fun x9 x90 x91 x9e => ?_)
        have hbit : w_bit (g_mT g ii) j = x9 := bit_of (i := ii) (by assumption) x8e x9e (by omega) (by omega)
        refine w_icI (x := 1) rfl ?_
        refine w_ne2 (by omega) (by omega) (by omega) (by omega)  (fun c10 => ?_) (fun c10 => ?_)
        · refine w_run k_761929 (w_inc (c := w_i (j + 1)) (fun _ => rfl) (i_addL (y := 1) rfl j) (fun _ => rfl) (w_go ?_))
          exact ih f va (j + 1) mu sx (by omega) (by omega) (by omega) (by omega) (by omega) (by omega)  (by omega) (by omega) (by rw [ci_s (by omega)]; first | exact (if_pos ⟨by omega, by omega, by omega⟩).symm | exact ve.trans (if_neg (fun ⟨_, z1, z2⟩ => by omega)).symm) (by omega)
        · refine w_al (fun _ => rfl) (w_il (fun _ => rfl) (w_il (fun _ => rfl) (w_this (fun _ => rfl) m1 ?_)))
          refine w_ca (fun _ => rfl) rfl (c_mColourX (d := d) iv (tn := tn) (ii := j) (by omega) (by omega) (by omega) (by omega) (by omega) (by omega) (by omega) mu (fun y11 b12 b13 b14 b15 b16 => ⟨_, rfl, ?_⟩))
          have hdgb16 := b16
          rw [show tn / w_pw (g_mC g) j % g_mC g = w_dg g tn j from rfl] at hdgb16
          refine w_il (fun _ => rfl) ?_
          refine w_ne2 (by omega) (by omega) (by omega) (by omega)  (fun c17 => ?_) (fun c17 => ?_)
          · refine w_run k_761929 (w_inc (c := w_i (j + 1)) (fun _ => rfl) (i_addL (y := 1) rfl j) (fun _ => rfl) (w_go ?_))
            exact ih f va (j + 1) mu sx (by omega) (by omega) (by omega) (by omega) (by omega) (by omega)  (by omega) (by omega) (by rw [ci_s (by omega)]; first | exact (if_pos ⟨by omega, by omega, by omega⟩).symm | exact ve.trans (if_neg (fun ⟨_, z1, z2⟩ => by omega)).symm) (by omega)
          · refine w_icI (x := (-5)) wn_5 (w_is (fun _ => rfl) (w_inc (c := w_i (j + 1)) (fun _ => rfl) (i_addL (y := 1) rfl j) (fun _ => rfl) (w_go ?_)))
            exact ih f (-5) (j + 1) mu sx (by omega) (by omega) (by omega) (by omega) (by omega) (by omega)  (by omega) (by omega) (by rw [ci_s (by omega)]; first | exact (if_pos ⟨by omega, by omega, by omega⟩).symm | exact ve.trans (if_neg (fun ⟨_, z1, z2⟩ => by omega)).symm) (by omega)
theorem c_mCostX {g : w_G} {o : w_O} {h : m_H} {d : Nat} {Q : Option m_V → m_H → Prop} (iv : w_Inv g o h) {S : Nat} {tn : Int} {ii : Int} {t : Int} (tn_lo : -2147483648 ≤ tn) (tn_hi : tn ≤ 2147483647) (ii_lo : -2147483648 ≤ ii) (ii_hi : ii ≤ 2147483647) (t_lo : -2147483648 ≤ t) (t_hi : t ≤ 2147483647) (t0_ : 0 ≤ tn) (i0_ : 0 ≤ ii) (i1_ : ii < g_mH g) (c0_ : 0 ≤ t) (c1_ : t < g_mC g) (mu : w_mu g o h) (sx : w_sx g o h S) (k0 : ∀ (x : Int), -2147483648 ≤ x → x ≤ 2147483647 → x = w_cip g S tn ii t → Q (some (.inl (w_i x))) h) : wp (d + 1) 761856 [.inr (.inl (some 31)), .inl (w_i tn), .inl (w_i ii), .inl (w_i t), .inr (.inr (.inl 0)), .inr (.inr (.inl 0)), .inr (.inr (.inl 0))] [] h Q := by
  have W := iv_wm iv
  refine w_run k_761856 (w_al (fun _ => rfl) (w_il (fun _ => rfl) (w_il (fun _ => rfl) ?_)))
  obtain ⟨_, m1, spr1, kee1, rul1, tpd1, nxt1, tok1, tka1, val1, opn1, hm1, row1, ksp1, kke1, kru1, rfl, l1_spr, u1_spr, l1_kee, u1_kee, l1_rul, u1_rul, l1_tpd, u1_tpd, l1_nxt, u1_nxt, l1_tok, u1_tok, l1_tka, u1_tka, l1_val, u1_val, l1_opn, u1_opn, l1_hm, u1_hm, l1_row, u1_row, l1_ksp, u1_ksp, l1_kke, u1_kke, l1_kru, u1_kru, f1_0, f1_1, f1_2, f1_3, f1_4, f1_5, f1_6, f1_7, f1_8, f1_9⟩ := iv_31 iv
  refine w_this (fun _ => rfl) m1 ?_
  refine w_ca (fun _ => rfl) rfl (c_mColourX (d := d) iv (tn := tn) (ii := ii) (by omega) (by omega) (by omega) (by omega) (by omega) (by omega) (by omega) mu (fun y2 b3 b4 b5 b6 b7 => ⟨_, rfl, ?_⟩))
  have hdgb7 := b7
  rw [show tn / w_pw (g_mC g) ii % g_mC g = w_dg g tn ii from rfl] at hdgb7
  refine w_is (fun _ => rfl) (w_al (fun _ => rfl) (w_getf m1 rfl (fun _ => rfl) (w_icI (x := 25) rfl (w_il (fun _ => rfl) (w_op (c := w_i (25 * ii)) (i_mul 25 ii) (w_icI (x := 5) rfl (w_il (fun _ => rfl) (w_op (c := w_i (5 * y2)) (i_mul 5 y2) (w_op (c := w_i ((25 * ii) + (5 * y2))) (i_add (25 * ii) (5 * y2)) (w_il (fun _ => rfl) (w_op (c := w_i (((25 * ii) + (5 * y2)) + t)) (i_add ((25 * ii) + (5 * y2)) t) (w_aldI sx (by omega) (by omega) (by omega) ?_))))))))))))
  obtain ⟨b8, b9⟩ := ag_rg S (((25 * ii) + (5 * y2)) + t)
  refine w_is (fun _ => rfl) (w_icI (x := 0) rfl (w_is (fun _ => rfl) (w_nur k_761885 ?_)))
  exact l_mCostX_29 iv (S := S)   tn_lo tn_hi ii_lo ii_hi t_lo t_hi t0_ i0_ i1_ c0_ c1_    k0 (g_mH g - 0 + 1 : Int).toNat y2 (a_g S (((25 * ii) + (5 * y2)) + t)) 0 mu sx (by omega) (by omega) (by omega) (by omega) (by omega) (by omega)  (by omega) (by omega) (by show _ = a_g S (25 * ii + 5 * w_dg g tn ii + t); rw [← hdgb7]) (by omega)
theorem k_827446 : m_cg 827446 = g_202_54 := rfl
theorem k_827572 : m_cg 827572 = g_202_180 := rfl
theorem k_827541 : m_cg 827541 = g_202_149 := rfl
theorem l_mFindTo_54 {g : w_G} {o : w_O} {h0 : m_H} {d : Nat} {Q : Option m_V → m_H → Prop} {tn : Int} (tn_lo : -2147483648 ≤ tn) (tn_hi : tn ≤ 2147483647) (t0_ : 0 ≤ tn) (t1_ : tn < g_mN g) {k_ : Int} (k__lo : -2147483648 ≤ k_) (k__hi : k_ ≤ 2147483647) (k0_ : 0 ≤ k_) (k0 : ∀ h2 : m_H, w_Inv g o h2 → w_fr o [59, 60] h0 h2 → (∃ mny : Int, w_BT g o h2 mny) → w_mu g o h2 → Q none h2) (kx : ∀ (x5_ x6_ x7_ x8_ : m_V), ∀ (mny s_ : Int), ∀ h2 : m_H, w_Inv g o h2 → w_fr o [59, 60] h0 h2 → w_mu g o h2 → w_BT g o h2 mny → -2147483648 ≤ mny → mny ≤ 2147483647 → -2147483648 ≤ s_ → s_ ≤ 2147483647 → k_ < mny → mny ≤ 4096 → wp (d + 2) 827578 [.inr (.inl (some 31)), .inl (w_i tn), .inl (w_i mny), .inl (w_i k_), .inl (w_i s_), x5_, x6_, x7_, x8_] [] h2 Q) : ∀ (k : Nat) (h : m_H) (mny s_ : Int) (x5_ : m_V) (x6_ : m_V) (x7_ : m_V) (x8_ : m_V) (iv : w_Inv g o h) (F : w_fr o [59, 60] h0 h) (mu : w_mu g o h) (bt : w_BT g o h mny) (mny_lo : -2147483648 ≤ mny) (mny_hi : mny ≤ 2147483647) (s__lo : -2147483648 ≤ s_) (s__hi : s_ ≤ 2147483647) (s0_ : 0 ≤ s_) (s1_ : s_ ≤ 30) (k1_ : k_ < mny) (m5_ : mny ≤ 4096), 30 - s_ < (k : Int) → wp (d + 2) 827446 [.inr (.inl (some 31)), .inl (w_i tn), .inl (w_i mny), .inl (w_i k_), .inl (w_i s_), x5_, x6_, x7_, x8_] [] h Q := by
  intro k
  induction k with
  | zero => intro h mny s_ x5_ x6_ x7_ x8_ iv F mu bt mny_lo mny_hi s__lo s__hi s0_ s1_ k1_ m5_ hk; exact absurd hk (by omega)
  | succ k ih =>
    intro h mny s_ x5_ x6_ x7_ x8_ iv F mu bt mny_lo mny_hi s__lo s__hi s0_ s1_ k1_ m5_ hk
    have W := iv_wm iv
    obtain ⟨S, A, B, pS, p60, p59, q1, q5, q2, q3, q4, q6⟩ := (id bt)
    refine w_run k_827446 (w_il (fun _ => rfl) (w_al (fun _ => rfl) ?_))
    obtain ⟨_, m1, spr1, kee1, rul1, tpd1, nxt1, tok1, tka1, val1, opn1, hm1, row1, ksp1, kke1, kru1, rfl, l1_spr, u1_spr, l1_kee, u1_kee, l1_rul, u1_rul, l1_tpd, u1_tpd, l1_nxt, u1_nxt, l1_tok, u1_tok, l1_tka, u1_tka, l1_val, u1_val, l1_opn, u1_opn, l1_hm, u1_hm, l1_row, u1_row, l1_ksp, u1_ksp, l1_kke, u1_kke, l1_kru, u1_kru, f1_0, f1_1, f1_2, f1_3, f1_4, f1_5, f1_6, f1_7, f1_8, f1_9⟩ := iv_31 iv
    refine w_getf m1 rfl (fun _ => rfl) (w_al (fun _ => rfl) (w_getf m1 rfl (fun _ => rfl) ?_))
    have hm := mul_rg (a := g_mH g) (b := g_mC g) (x := 6) (y := 5) (by omega) (by omega) (by omega) (by omega)
    refine w_op (c := w_i (g_mH g * g_mC g)) (i_mul (g_mH g) (g_mC g)) ?_
    refine w_ge2 (by omega) (by omega) (by omega) (by omega)  (fun c2 => ?_) (fun c2 => ?_)
    · exact kx (x5_) (x6_) (x7_) (x8_) mny s_ h iv F mu bt (by omega) (by omega) (by omega) (by omega)  (by omega) (by omega) 
    · refine w_il (fun _ => rfl) (w_al (fun _ => rfl) (w_getf m1 rfl (fun _ => rfl) ?_))
      have hdv : s_ / g_mC g < g_mH g := Int.ediv_lt_of_lt_mul (by omega) (by omega)
      refine w_opz (c := w_i (s_ / g_mC g)) (beq0 (by omega) (by omega) (by omega)) (i_div (by omega) (by omega) (by omega) (by omega)) ?_
      have b3 : 0 ≤ (s_ / g_mC g) ∧ (s_ / g_mC g) ≤ s_ := ⟨Int.ediv_nonneg (by omega) (by omega), Int.ediv_le_self _ (by omega)⟩
      refine w_is (fun _ => rfl) (w_il (fun _ => rfl) (w_al (fun _ => rfl) (w_getf m1 rfl (fun _ => rfl) (w_opz (c := w_i (s_ % g_mC g)) (beq0 (by omega) (by omega) (by omega)) (i_rem (by omega) (by omega) (by omega) (by omega)) ?_))))
      have b4 : 0 ≤ (s_ % g_mC g) ∧ (s_ % g_mC g) < g_mC g := ⟨Int.emod_nonneg _ (by omega), Int.emod_lt_of_pos _ (by omega)⟩
      refine w_is (fun _ => rfl) (w_al (fun _ => rfl) (w_al (fun _ => rfl) (w_getf m1 rfl (fun _ => rfl) (w_il (fun _ => rfl) (w_aldI p59 (by omega) (by omega) (by omega) ?_)))))
      obtain ⟨b5, b6⟩ := ag_rg B k_
      have e7 := q4 k_ (by omega) (by omega)
      refine w_il (fun _ => rfl) (w_this (fun _ => rfl) m1 ?_)
      refine w_ca (fun _ => rfl) rfl (c_mColourX (d := (d + 1)) iv (tn := (a_g B k_)) (ii := (s_ / g_mC g)) (by omega) (by omega) (by omega) (by omega) (by omega) (by omega) (by omega) mu (fun y8 b9 b10 b11 b12 b13 => ⟨_, rfl, ?_⟩))
      refine w_is (fun _ => rfl) (w_al (fun _ => rfl) (w_al (fun _ => rfl) (w_getf m1 rfl (fun _ => rfl) (w_il (fun _ => rfl) (w_aldI p59 (by omega) (by omega) (by omega) ?_)))))
      obtain ⟨b14, b15⟩ := ag_rg B k_
      have e16 := q4 k_ (by omega) (by omega)
      refine w_il (fun _ => rfl) (w_il (fun _ => rfl) (w_this (fun _ => rfl) m1 ?_))
      refine w_ca (fun _ => rfl) rfl (c_mBehindStep (d := d) iv (tn := (a_g B k_)) (ii := (s_ / g_mC g)) (t := (s_ % g_mC g)) (by omega) (by omega) (by omega) (by omega) (by omega) (by omega) (by omega) (by omega) (by omega) (by omega) (by omega) (by omega) mu (fun y17 b18 b19 b20 b21 b22 => ⟨_, rfl, ?_⟩))
      refine w_is (fun _ => rfl) (w_il (fun _ => rfl) (w_il (fun _ => rfl) ?_))
      refine w_eq2 (by omega) (by omega) (by omega) (by omega)  (fun c23 => ?_) (fun c23 => ?_)
      · refine w_run k_827572 (w_inc (c := w_i (s_ + 1)) (fun _ => rfl) (i_addL (y := 1) rfl s_) (fun _ => rfl) (w_go ?_))
        exact ih h mny (s_ + 1) (.inl (w_i (s_ / g_mC g))) (.inl (w_i (s_ % g_mC g))) (.inl (w_i y8)) (.inl (w_i y17)) iv F mu bt (by omega) (by omega) (by omega) (by omega)  (by omega) (by omega) (by omega) (by omega) (by omega)
      · refine w_al (fun _ => rfl) (w_getf m1 rfl (fun _ => rfl) (w_il (fun _ => rfl) (w_aldI p60 (by omega) (by omega) (by omega) ?_)))
        obtain ⟨b24, b25⟩ := ag_rg A y17
        have e26 := q3 y17 (by omega) (by omega)
        refine w_gez2 (by omega) (by omega)  (fun c27 => ?_) (fun c27 => ?_)
        · refine w_run k_827572 (w_inc (c := w_i (s_ + 1)) (fun _ => rfl) (i_addL (y := 1) rfl s_) (fun _ => rfl) (w_go ?_))
          exact ih h mny (s_ + 1) (.inl (w_i (s_ / g_mC g))) (.inl (w_i (s_ % g_mC g))) (.inl (w_i y8)) (.inl (w_i y17)) iv F mu bt (by omega) (by omega) (by omega) (by omega)  (by omega) (by omega) (by omega) (by omega) (by omega)
        · refine w_al (fun _ => rfl) (w_il (fun _ => rfl) (w_il (fun _ => rfl) (w_il (fun _ => rfl) (w_this (fun _ => rfl) m1 ?_))))
          refine w_ca (fun _ => rfl) rfl (c_mCostX (d := d) iv (tn := y17) (ii := (s_ / g_mC g)) (t := y8) (by omega) (by omega) (by omega) (by omega) (by omega) (by omega) (by omega) (by omega) (by omega) (by omega) (by omega) mu pS (fun y28 b29 b30 b31 => ⟨_, rfl, ?_⟩))
          refine w_gez2 (by omega) (by omega)  (fun c32 => ?_) (fun c32 => ?_)
          · refine w_run k_827541 (w_al (fun _ => rfl) (w_getf m1 rfl (fun _ => rfl) (w_il (fun _ => rfl) (w_al (fun _ => rfl) (w_getf m1 rfl (fun _ => rfl) (w_al (fun _ => rfl) (w_getf m1 rfl (fun _ => rfl) (w_il (fun _ => rfl) (w_aldI p59 (by omega) (by omega) (by omega) ?_)))))))))
            obtain ⟨b33, b34⟩ := ag_rg B k_
            have e35 := q4 k_ (by omega) (by omega)
            refine w_aldI p60 (by omega) (by omega) (by omega) ?_
            obtain ⟨b36, b37⟩ := ag_rg A (a_g B k_)
            have e38 := q3 (a_g B k_) (by omega) (by omega)
            refine w_icI (x := 1) rfl (w_op (c := w_i ((a_g A (a_g B k_)) + 1)) (i_add (a_g A (a_g B k_)) 1) ?_)
            have hlt : w_cnt (-1) A (g_mN g).toNat < g_mN g := mf_lt (c := -1) (t := y17) (by omega) (by omega) (by omega) (by have := q3 y17 (by omega) (by omega); omega)
            refine w_astI p60 (by omega) (by omega) (by omega) (by omega) (by omega) (fun A42 h40 w43 s39 => ?_)
            have iv41 := is_60 iv s39 ⟨_, rfl⟩
            have F44 := fr_st F s39 (by rw [(ow_60 iv)]; rfl)
            refine w_al (fun _ => rfl) ?_
            have m45 := st_fr s39 m1 (by decide)
            refine w_getf m45 rfl (fun _ => rfl) (w_il (fun _ => rfl) (w_il (fun _ => rfl) ?_))
            have m46 := st_fr s39 p59 (by decide)
            refine w_astI m46 (by omega) (by omega) (by omega) (by omega) (by omega) (fun A50 h48 w51 s47 => ?_)
            have iv49 := is_59 iv41 s47 ⟨_, rfl⟩
            have F52 := fr_st F44 s47 (by rw [(ow_59 iv41)]; rfl)
            have m53 := st_fr s47 s39.2.2.1 (by decide)
            have sx54 := sx_fr iv pS (fr_st (W := [60]) fr_rf s39 (by rw [(ow_60 iv)]; rfl)) rfl
            have sx55 := sx_fr iv41 sx54 (fr_st (W := [59]) fr_rf s47 (by rw [(ow_59 iv41)]; rfl)) rfl
            have bt1 : w_BT g o h48 (mny + 1) := bt_s (q := a_g B k_) (f := (s_ % g_mC g)) (i := (s_ / g_mC g)) (by omega) (iv_mN iv49) (by omega) q1 q2 q3 q4 q6 (by omega) (by omega) (by omega) (by omega) (by omega) (by omega) b22 (by omega) b13 b31 (by omega) w43 w51 sx55 m53 s47.2.2.1
            refine w_inc (c := w_i (mny + 1)) (fun _ => rfl) (i_addL (y := 1) rfl mny) (fun _ => rfl) (w_inc (c := w_i (s_ + 1)) (fun _ => rfl) (i_addL (y := 1) rfl s_) (fun _ => rfl) (w_go ?_))
            have mu56 := mu_fr iv mu (fr_st (W := [60]) fr_rf s39 (by rw [(ow_60 iv)]; rfl)) rfl
            have mu57 := mu_fr iv41 mu56 (fr_st (W := [59]) fr_rf s47 (by rw [(ow_59 iv41)]; rfl)) rfl
            exact ih h48 (mny + 1) (s_ + 1) (.inl (w_i (s_ / g_mC g))) (.inl (w_i (s_ % g_mC g))) (.inl (w_i y8)) (.inl (w_i y17)) iv49 F52 mu57 bt1 (by omega) (by omega) (by omega) (by omega)  (by omega) (by omega) (by omega) (by omega) (by omega)
          · refine w_go (w_run k_827572 (w_inc (c := w_i (s_ + 1)) (fun _ => rfl) (i_addL (y := 1) rfl s_) (fun _ => rfl) (w_go ?_)))
            exact ih h mny (s_ + 1) (.inl (w_i (s_ / g_mC g))) (.inl (w_i (s_ % g_mC g))) (.inl (w_i y8)) (.inl (w_i y17)) iv F mu bt (by omega) (by omega) (by omega) (by omega)  (by omega) (by omega) (by omega) (by omega) (by omega)
theorem k_827438 : m_cg 827438 = g_202_46 := rfl
theorem k_827584 : m_cg 827584 = g_202_192 := rfl
theorem k_827578 : m_cg 827578 = g_202_186 := rfl
theorem l_mFindTo_46 {g : w_G} {o : w_O} {h0 : m_H} {d : Nat} {Q : Option m_V → m_H → Prop} {tn : Int} (tn_lo : -2147483648 ≤ tn) (tn_hi : tn ≤ 2147483647) (t0_ : 0 ≤ tn) (t1_ : tn < g_mN g) (k0 : ∀ h2 : m_H, w_Inv g o h2 → w_fr o [59, 60] h0 h2 → (∃ mny : Int, w_BT g o h2 mny) → w_mu g o h2 → Q none h2) : ∀ (k : Nat) (h : m_H) (mny k_ : Int) (x4_ : m_V) (x5_ : m_V) (x6_ : m_V) (x7_ : m_V) (x8_ : m_V) (iv : w_Inv g o h) (F : w_fr o [59, 60] h0 h) (mu : w_mu g o h) (bt : w_BT g o h mny) (mny_lo : -2147483648 ≤ mny) (mny_hi : mny ≤ 2147483647) (k__lo : -2147483648 ≤ k_) (k__hi : k_ ≤ 2147483647) (k0_ : 0 ≤ k_) (k1_ : k_ ≤ mny) (m5_ : mny ≤ 4096), 4096 - k_ < (k : Int) → wp (d + 2) 827438 [.inr (.inl (some 31)), .inl (w_i tn), .inl (w_i mny), .inl (w_i k_), x4_, x5_, x6_, x7_, x8_] [] h Q := by
  intro k
  induction k with
  | zero => intro h mny k_ x4_ x5_ x6_ x7_ x8_ iv F mu bt mny_lo mny_hi k__lo k__hi k0_ k1_ m5_ hk; exact absurd hk (by omega)
  | succ k ih =>
    intro h mny k_ x4_ x5_ x6_ x7_ x8_ iv F mu bt mny_lo mny_hi k__lo k__hi k0_ k1_ m5_ hk
    have W := iv_wm iv
    obtain ⟨S, A, B, pS, p60, p59, q1, q5, q2, q3, q4, q6⟩ := (id bt)
    refine w_run k_827438 (w_il (fun _ => rfl) (w_il (fun _ => rfl) ?_))
    refine w_ge2 (by omega) (by omega) (by omega) (by omega)  (fun c1 => ?_) (fun c1 => ?_)
    · refine w_run k_827584 (w_rv ?_)
      exact k0 h iv F ⟨_, bt⟩ mu
    · refine w_icI (x := 0) rfl (w_is (fun _ => rfl) (w_nur k_827446 ?_))
      refine l_mFindTo_54   (k_ := k_)  tn_lo tn_hi t0_ t1_  (by omega) (by omega) (by omega) k0 (fun z4 z5 z6 z7 mny2 s_3 h8 iv9 F10 mu11 bt12 b13 b14 b15 b16 b17 b18 => ?_) (30 - 0 + 1 : Int).toNat h mny 0 (x5_) (x6_) (x7_) (x8_) iv F mu bt (by omega) (by omega) (by omega) (by omega)  (by omega) (by omega) (by omega) (by omega) (by omega)
      refine w_run k_827578 (w_inc (c := w_i (k_ + 1)) (fun _ => rfl) (i_addL (y := 1) rfl k_) (fun _ => rfl) (w_go ?_))
      exact ih h8 mny2 (k_ + 1) (.inl (w_i s_3)) (z4) (z5) (z6) (z7) iv9 F10 mu11 bt12 (by omega) (by omega) (by omega) (by omega)  (by omega) (by omega) (by omega) (by omega)
theorem k_827394 : m_cg 827394 = g_202_2 := rfl
theorem k_827420 : m_cg 827420 = g_202_28 := rfl
theorem l_mFindTo_2 {g : w_G} {o : w_O} {h0 : m_H} {d : Nat} {Q : Option m_V → m_H → Prop} {tn : Int} (tn_lo : -2147483648 ≤ tn) (tn_hi : tn ≤ 2147483647) (t0_ : 0 ≤ tn) (t1_ : tn < g_mN g) (k0 : ∀ h2 : m_H, w_Inv g o h2 → w_fr o [59, 60] h0 h2 → (∃ mny : Int, w_BT g o h2 mny) → w_mu g o h2 → Q none h2) : ∀ (k : Nat) (h : m_H) (v : Int) (iv : w_Inv g o h) (F : w_fr o [59, 60] h0 h) (mu : w_mu g o h) (fn : w_fp g o h (-1) v) (v_lo : -2147483648 ≤ v) (v_hi : v ≤ 2147483647) (v0_ : 0 ≤ v) (v1_ : v ≤ g_mN g), g_mN g - v < (k : Int) → wp (d + 2) 827394 [.inr (.inl (some 31)), .inl (w_i tn), .inl (w_i v), .inr (.inr (.inl 0)), .inr (.inr (.inl 0)), .inr (.inr (.inl 0)), .inr (.inr (.inl 0)), .inr (.inr (.inl 0)), .inr (.inr (.inl 0))] [] h Q := by
  intro k
  induction k with
  | zero => intro h v iv F mu fn v_lo v_hi v0_ v1_ hk; exact absurd hk (by omega)
  | succ k ih =>
    intro h v iv F mu fn v_lo v_hi v0_ v1_ hk
    have W := iv_wm iv
    obtain ⟨U, p56, hU⟩ := (id mu)
    have hUN : a_g U (g_mH g) = g_mN g := (hU _ (by omega) (by omega) (by omega)).trans (iv_mN iv).symm
    obtain ⟨A, p60, hF⟩ := (id fn)
    refine w_run k_827394 (w_il (fun _ => rfl) (w_al (fun _ => rfl) ?_))
    obtain ⟨_, m1, spr1, kee1, rul1, tpd1, nxt1, tok1, tka1, val1, opn1, hm1, row1, ksp1, kke1, kru1, rfl, l1_spr, u1_spr, l1_kee, u1_kee, l1_rul, u1_rul, l1_tpd, u1_tpd, l1_nxt, u1_nxt, l1_tok, u1_tok, l1_tka, u1_tka, l1_val, u1_val, l1_opn, u1_opn, l1_hm, u1_hm, l1_row, u1_row, l1_ksp, u1_ksp, l1_kke, u1_kke, l1_kru, u1_kru, f1_0, f1_1, f1_2, f1_3, f1_4, f1_5, f1_6, f1_7, f1_8, f1_9⟩ := iv_31 iv
    refine w_getf m1 rfl (fun _ => rfl) (w_al (fun _ => rfl) (w_getf m1 rfl (fun _ => rfl) (w_aldI p56 (by omega) (by omega) (by omega) ?_)))
    obtain ⟨b2, b3⟩ := ag_rg U (g_mH g)
    have e4 := hU (g_mH g) (by omega) (by omega)
    refine w_ge2 (by omega) (by omega) (by omega) (by omega)  (fun c5 => ?_) (fun c5 => ?_)
    · refine w_run k_827420 (w_al (fun _ => rfl) (w_getf m1 rfl (fun _ => rfl) (w_il (fun _ => rfl) (w_icI (x := 0) rfl (w_astI p60 (by omega) (by omega) (by omega) (by omega) (by omega) (fun A9 h7 w10 s6 => ?_))))))
      have iv8 := is_60 iv s6 ⟨_, rfl⟩
      have F11 := fr_st F s6 (by rw [(ow_60 iv)]; rfl)
      refine w_al (fun _ => rfl) ?_
      have m12 := st_fr s6 m1 (by decide)
      refine w_getf m12 rfl (fun _ => rfl) (w_icI (x := 0) rfl (w_il (fun _ => rfl) ?_))
      obtain ⟨_, m13, A13, rfl⟩ := iv_59 iv8
      refine w_astI m13 (by omega) (by omega) (by omega) (by omega) (by omega) (fun A17 h15 w18 s14 => ?_)
      have iv16 := is_59 iv8 s14 ⟨_, rfl⟩
      have F19 := fr_st F11 s14 (by rw [(ow_59 iv8)]; rfl)
      have m20 := st_fr s14 s6.2.2.1 (by decide)
      obtain ⟨_, pS, S, rfl, hS⟩ := iv_55 iv16
      have bt0 : w_BT g o h15 1 := bt_0 (S := S) (A := A) (t := tn) (by omega) pS (fun j j0 j1 => hF j j0 (by omega)) (by omega) (by omega) w10 m20 s14.2.2.1 (by rw [w18 0 (by omega) (by omega)]; exact if_pos rfl)
      refine w_icI (x := 1) rfl (w_is (fun _ => rfl) (w_icI (x := 0) rfl (w_is (fun _ => rfl) (w_nur k_827438 ?_))))
      have mu21 := mu_fr iv mu (fr_st (W := [60]) fr_rf s6 (by rw [(ow_60 iv)]; rfl)) rfl
      have mu22 := mu_fr iv8 mu21 (fr_st (W := [59]) fr_rf s14 (by rw [(ow_59 iv8)]; rfl)) rfl
      exact l_mFindTo_46     tn_lo tn_hi t0_ t1_    k0 (4096 - 0 + 1 : Int).toNat h15 1 0 (.inr (.inr (.inl 0))) (.inr (.inr (.inl 0))) (.inr (.inr (.inl 0))) (.inr (.inr (.inl 0))) (.inr (.inr (.inl 0))) iv16 F19 mu22 bt0 (by omega) (by omega) (by omega) (by omega)  (by omega) (by omega) (by omega) (by omega)
    · refine w_al (fun _ => rfl) (w_getf m1 rfl (fun _ => rfl) (w_il (fun _ => rfl) (w_icI (x := (-1)) wn_1 (w_astI p60 (by omega) (by omega) (by omega) (by omega) (by omega) (fun A26 h24 w27 s23 => ?_)))))
      have iv25 := is_60 iv s23 ⟨_, rfl⟩
      have F28 := fr_st F s23 (by rw [(ow_60 iv)]; rfl)
      have fn1 : w_fp g o h24 (-1) (v + 1) := ⟨_, s23.2.2.1, fun j j0 j1 => by rw [w27 j j0 (by omega)]; exact (if hj : j = v then if_pos hj else (if_neg hj).trans (hF j j0 (by omega)))⟩
      refine w_inc (c := w_i (v + 1)) (fun _ => rfl) (i_addL (y := 1) rfl v) (fun _ => rfl) (w_go ?_)
      have mu29 := mu_fr iv mu (fr_st (W := [60]) fr_rf s23 (by rw [(ow_60 iv)]; rfl)) rfl
      exact ih h24 (v + 1) iv25 F28 mu29 fn1 (by omega) (by omega)  (by omega) (by omega) (by omega)
theorem k_827392 : m_cg 827392 = g_202_0 := rfl
theorem c_mFindTo {g : w_G} {o : w_O} {h : m_H} {d : Nat} {Q : Option m_V → m_H → Prop} (iv : w_Inv g o h) {tn : Int} (tn_lo : -2147483648 ≤ tn) (tn_hi : tn ≤ 2147483647) (t0_ : 0 ≤ tn) (t1_ : tn < g_mN g) (mu : w_mu g o h) (k0 : ∀ h2 : m_H, w_Inv g o h2 → w_fr o [59, 60] h h2 → (∃ mny : Int, w_BT g o h2 mny) → w_mu g o h2 → Q none h2) : wp (d + 2) 827392 [.inr (.inl (some 31)), .inl (w_i tn), .inr (.inr (.inl 0)), .inr (.inr (.inl 0)), .inr (.inr (.inl 0)), .inr (.inr (.inl 0)), .inr (.inr (.inl 0)), .inr (.inr (.inl 0)), .inr (.inr (.inl 0))] [] h Q := by
  have F := fr_rf (o := o) (h := h) (W := [59, 60])
  have W := iv_wm iv
  have fn0 : w_fp g o h (-1) 0 := by obtain ⟨_, p60, A, rfl⟩ := iv_60 iv; exact ⟨A, p60, fun j j0 j1 => absurd j1 (by omega)⟩
  refine w_run k_827392 (w_icI (x := 0) rfl (w_is (fun _ => rfl) (w_nur k_827394 ?_)))
  exact l_mFindTo_2     tn_lo tn_hi t0_ t1_    k0 (g_mN g - 0 + 1 : Int).toNat h 0 iv F mu fn0 (by omega) (by omega)  (by omega) (by omega) (by omega)
theorem k_831544 : m_cg 831544 = g_203_56 := rfl
theorem k_831600 : m_cg 831600 = g_203_112 := rfl
theorem l_mFirst_56 {g : w_G} {o : w_O} {h0 : m_H} {d : Nat} {Q : Option m_V → m_H → Prop} {tn : Int} {i_ : Int} (tn_lo : -2147483648 ≤ tn) (tn_hi : tn ≤ 2147483647) (i__lo : -2147483648 ≤ i_) (i__hi : i_ ≤ 2147483647) {at_ : Int} {fo : Int} {n : Int} (at__lo : -2147483648 ≤ at_) (at__hi : at_ ≤ 2147483647) (fo_lo : -2147483648 ≤ fo) (fo_hi : fo ≤ 2147483647) (n_lo : -2147483648 ≤ n) (n_hi : n ≤ 2147483647) (n0_ : 0 ≤ n) (n1_ : n ≤ i_) (a0_ : 0 ≤ at_) (a1_ : at_ < g_mN g) (k0 : ∀ (x : Int), ∀ h2 : m_H, w_Inv g o h2 → w_fr o [54, 55, 56, 59, 60] h0 h2 → -2147483648 ≤ x → x ≤ 2147483647 → Q (some (.inl (w_i x))) h2) (kx : ∀ (s_ : Int), ∀ h2 : m_H, w_Inv g o h2 → w_fr o [54, 55, 56, 59, 60] h0 h2 → w_mu g o h2 → w_BX g o h2 at_ (i_ - n) s_ → -2147483648 ≤ s_ → s_ ≤ 2147483647 → 0 ≤ s_ → s_ ≤ 30 → wp (d + 6) 831606 [.inr (.inl (some 31)), .inl (w_i tn), .inl (w_i i_), .inl (w_i at_), .inl (w_i fo), .inl (w_i n), .inl (w_i s_)] [] h2 Q) : ∀ (k : Nat) (h : m_H) (s_ : Int) (iv : w_Inv g o h) (F : w_fr o [54, 55, 56, 59, 60] h0 h) (mu : w_mu g o h) (bw : w_BW g o h at_ (i_ - n + 1) s_) (s__lo : -2147483648 ≤ s_) (s__hi : s_ ≤ 2147483647) (s0_ : 0 ≤ s_) (s1_ : s_ ≤ 30), 30 - s_ < (k : Int) → wp (d + 6) 831544 [.inr (.inl (some 31)), .inl (w_i tn), .inl (w_i i_), .inl (w_i at_), .inl (w_i fo), .inl (w_i n), .inl (w_i s_)] [] h Q := by
  intro k
  induction k with
  | zero => intro h s_ iv F mu bw s__lo s__hi s0_ s1_ hk; exact absurd hk (by omega)
  | succ k ih =>
    intro h s_ iv F mu bw s__lo s__hi s0_ s1_ hk
    have W := iv_wm iv
    obtain ⟨S, A, wi, wt, pS, p60, nr, x0_, x1_, hx, wi0, wi1, wt0, wt1, hc, ha, hs0, hs1⟩ := (id bw)
    refine w_run k_831544 (w_il (fun _ => rfl) (w_icI (x := 5) rfl (w_opz (c := w_i (s_ % 5)) (beq0 (by omega) (by omega) (by omega)) (i_rem (by omega) (by omega) (by omega) (by omega)) ?_)))
    have b1 : 0 ≤ (s_ % 5) ∧ (s_ % 5) < 5 := ⟨Int.emod_nonneg _ (by omega), Int.emod_lt_of_pos _ (by omega)⟩
    refine w_al (fun _ => rfl) ?_
    obtain ⟨_, m2, spr2, kee2, rul2, tpd2, nxt2, tok2, tka2, val2, opn2, hm2, row2, ksp2, kke2, kru2, rfl, l2_spr, u2_spr, l2_kee, u2_kee, l2_rul, u2_rul, l2_tpd, u2_tpd, l2_nxt, u2_nxt, l2_tok, u2_tok, l2_tka, u2_tka, l2_val, u2_val, l2_opn, u2_opn, l2_hm, u2_hm, l2_row, u2_row, l2_ksp, u2_ksp, l2_kke, u2_kke, l2_kru, u2_kru, f2_0, f2_1, f2_2, f2_3, f2_4, f2_5, f2_6, f2_7, f2_8, f2_9⟩ := iv_31 iv
    refine w_getf m2 rfl (fun _ => rfl) ?_
    refine w_ge2 (by omega) (by omega) (by omega) (by omega)  (fun c3 => ?_) (fun c3 => ?_)
    · refine w_run k_831600 ?_
      have hne : s_ ≠ 5 * wi + wt := by
        intro e
        obtain rfl : wi = s_ / 5 := by omega
        obtain rfl : wt = s_ % 5 := by omega
        omega
      have bw1 : w_BW g o h at_ (i_ - n + 1) (s_ + 1) := ⟨S, A, wi, wt, pS, p60, nr, x0_, x1_, hx, wi0, wi1, wt0, wt1, hc, ha, by omega, by omega⟩
      refine w_inc (c := w_i (s_ + 1)) (fun _ => rfl) (i_addL (y := 1) rfl s_) (fun _ => rfl) (w_go ?_)
      exact ih h (s_ + 1) iv F mu bw1 (by omega) (by omega)  (by omega) (by omega) (by omega)
    · refine w_al (fun _ => rfl) (w_il (fun _ => rfl) (w_il (fun _ => rfl) (w_icI (x := 5) rfl (w_opz (c := w_i (s_ / 5)) (beq0 (by omega) (by omega) (by omega)) (i_div (by omega) (by omega) (by omega) (by omega)) ?_))))
      have b4 : 0 ≤ (s_ / 5) ∧ (s_ / 5) ≤ s_ := ⟨Int.ediv_nonneg (by omega) (by omega), Int.ediv_le_self _ (by omega)⟩
      refine w_il (fun _ => rfl) (w_icI (x := 5) rfl (w_opz (c := w_i (s_ % 5)) (beq0 (by omega) (by omega) (by omega)) (i_rem (by omega) (by omega) (by omega) (by omega)) ?_))
      have b5 : 0 ≤ (s_ % 5) ∧ (s_ % 5) < 5 := ⟨Int.emod_nonneg _ (by omega), Int.emod_lt_of_pos _ (by omega)⟩
      refine w_this (fun _ => rfl) m2 ?_
      refine w_ca (fun _ => rfl) rfl (c_mCostX (d := (d + 4)) iv (tn := at_) (ii := (s_ / 5)) (t := (s_ % 5)) (by omega) (by omega) (by omega) (by omega) (by omega) (by omega) (by omega) (by omega) (by omega) (by omega) (by omega) mu pS (fun y6 b7 b8 b9 => ⟨_, rfl, ?_⟩))
      have hcy := b9
      refine w_ltz2 (by omega) (by omega)  (fun c10 => ?_) (fun c10 => ?_)
      · refine w_run k_831600 ?_
        have hne : s_ ≠ 5 * wi + wt := by
          intro e
          obtain rfl : wi = s_ / 5 := by omega
          obtain rfl : wt = s_ % 5 := by omega
          omega
        have bw1 : w_BW g o h at_ (i_ - n + 1) (s_ + 1) := ⟨S, A, wi, wt, pS, p60, nr, x0_, x1_, hx, wi0, wi1, wt0, wt1, hc, ha, by omega, by omega⟩
        refine w_inc (c := w_i (s_ + 1)) (fun _ => rfl) (i_addL (y := 1) rfl s_) (fun _ => rfl) (w_go ?_)
        exact ih h (s_ + 1) iv F mu bw1 (by omega) (by omega)  (by omega) (by omega) (by omega)
      · refine w_al (fun _ => rfl) (w_getf m2 rfl (fun _ => rfl) (w_al (fun _ => rfl) (w_il (fun _ => rfl) (w_il (fun _ => rfl) (w_icI (x := 5) rfl (w_opz (c := w_i (s_ / 5)) (beq0 (by omega) (by omega) (by omega)) (i_div (by omega) (by omega) (by omega) (by omega)) ?_))))))
        have b11 : 0 ≤ (s_ / 5) ∧ (s_ / 5) ≤ s_ := ⟨Int.ediv_nonneg (by omega) (by omega), Int.ediv_le_self _ (by omega)⟩
        refine w_il (fun _ => rfl) (w_icI (x := 5) rfl (w_opz (c := w_i (s_ % 5)) (beq0 (by omega) (by omega) (by omega)) (i_rem (by omega) (by omega) (by omega) (by omega)) ?_))
        have b12 : 0 ≤ (s_ % 5) ∧ (s_ % 5) < 5 := ⟨Int.emod_nonneg _ (by omega), Int.emod_lt_of_pos _ (by omega)⟩
        refine w_this (fun _ => rfl) m2 ?_
        refine w_ca (fun _ => rfl) rfl (c_mBehindStep (d := (d + 4)) iv (tn := at_) (ii := (s_ / 5)) (t := (s_ % 5)) (by omega) (by omega) (by omega) (by omega) (by omega) (by omega) (by omega) (by omega) (by omega) (by omega) (by omega) (by omega) mu (fun y13 b14 b15 b16 b17 b18 => ⟨_, rfl, ?_⟩))
        have hy : a_g A y13 = a_g A (w_bs g at_ (s_ / 5) (s_ % 5)) := congrArg (a_g A) b18
        refine w_aldI p60 (by omega) (by omega) (by omega) ?_
        obtain ⟨b19, b20⟩ := ag_rg A y13
        refine w_al (fun _ => rfl) (w_getf m2 rfl (fun _ => rfl) (w_il (fun _ => rfl) (w_aldI p60 (by omega) (by omega) (by omega) ?_)))
        obtain ⟨b21, b22⟩ := ag_rg A at_
        refine w_icI (x := 1) rfl (w_op (c := w_i ((a_g A at_) - 1)) (i_sub (a_g A at_) 1) ?_)
        have bxf : a_g A (w_bs g at_ (s_ / 5) (s_ % 5)) = a_g A at_ - 1 → w_BX g o h at_ (i_ - n) s_ := fun e => ⟨by omega, by omega, by omega, S, A, pS, p60, nr, by omega, by omega, by omega⟩
        refine w_eq2 (by omega) (by omega) (by omega) (by omega)  (fun c23 => ?_) (fun c23 => ?_)
        · exact kx s_ h iv F mu (bxf (by omega)) (by omega) (by omega)  (by omega) (by omega) 
        · have hne : s_ ≠ 5 * wi + wt := by
            intro e
            obtain rfl : wi = s_ / 5 := by omega
            obtain rfl : wt = s_ % 5 := by omega
            omega
          have bw1 : w_BW g o h at_ (i_ - n + 1) (s_ + 1) := ⟨S, A, wi, wt, pS, p60, nr, x0_, x1_, hx, wi0, wi1, wt0, wt1, hc, ha, by omega, by omega⟩
          refine w_inc (c := w_i (s_ + 1)) (fun _ => rfl) (i_addL (y := 1) rfl s_) (fun _ => rfl) (w_go ?_)
          exact ih h (s_ + 1) iv F mu bw1 (by omega) (by omega)  (by omega) (by omega) (by omega)
theorem k_831535 : m_cg 831535 = g_203_47 := rfl
theorem k_831630 : m_cg 831630 = g_203_142 := rfl
theorem k_831606 : m_cg 831606 = g_203_118 := rfl
theorem l_mFirst_47 {g : w_G} {o : w_O} {h0 : m_H} {d : Nat} {Q : Option m_V → m_H → Prop} {tn : Int} {i_ : Int} (tn_lo : -2147483648 ≤ tn) (tn_hi : tn ≤ 2147483647) (i__lo : -2147483648 ≤ i_) (i__hi : i_ ≤ 2147483647) (k0 : ∀ (x : Int), ∀ h2 : m_H, w_Inv g o h2 → w_fr o [54, 55, 56, 59, 60] h0 h2 → -2147483648 ≤ x → x ≤ 2147483647 → Q (some (.inl (w_i x))) h2) : ∀ (k : Nat) (h : m_H) (at_ fo n : Int) (x6_ : m_V) (iv : w_Inv g o h) (F : w_fr o [54, 55, 56, 59, 60] h0 h) (mu : w_mu g o h) (ba : w_BA g o h at_ (i_ - n + 1)) (at__lo : -2147483648 ≤ at_) (at__hi : at_ ≤ 2147483647) (fo_lo : -2147483648 ≤ fo) (fo_hi : fo ≤ 2147483647) (n_lo : -2147483648 ≤ n) (n_hi : n ≤ 2147483647) (n0_ : 0 ≤ n) (n1_ : n ≤ i_ + 1) (a0_ : 0 ≤ at_) (a1_ : at_ < g_mN g) (i9_ : i_ ≤ 4096), i_ + 1 - n < (k : Int) → wp (d + 6) 831535 [.inr (.inl (some 31)), .inl (w_i tn), .inl (w_i i_), .inl (w_i at_), .inl (w_i fo), .inl (w_i n), x6_] [] h Q := by
  intro k
  induction k with
  | zero => intro h at_ fo n x6_ iv F mu ba at__lo at__hi fo_lo fo_hi n_lo n_hi n0_ n1_ a0_ a1_ i9_ hk; exact absurd hk (by omega)
  | succ k ih =>
    intro h at_ fo n x6_ iv F mu ba at__lo at__hi fo_lo fo_hi n_lo n_hi n0_ n1_ a0_ a1_ i9_ hk
    have W := iv_wm iv
    refine w_run k_831535 (w_il (fun _ => rfl) (w_il (fun _ => rfl) ?_))
    refine w_gt2 (by omega) (by omega) (by omega) (by omega)  (fun c1 => ?_) (fun c1 => ?_)
    · refine w_run k_831630 (w_il (fun _ => rfl) (w_ri ?_))
      exact k0 fo h iv F (by omega) (by omega)
    · have bw0 := bw_of ba (by omega)
      refine w_icI (x := 0) rfl (w_is (fun _ => rfl) (w_nur k_831544 ?_))
      refine l_mFirst_56   (at_ := at_) (fo := fo) (n := n)  tn_lo tn_hi i__lo i__hi   (by omega) (by omega) (by omega) (by omega) (by omega) (by omega) (by omega) (by omega) (by omega) (by omega) k0 (fun s_2 h3 iv4 F5 mu6 bx7 b8 b9 b10 b11 => ?_) (30 - 0 + 1 : Int).toNat h 0 iv F mu bw0 (by omega) (by omega)  (by omega) (by omega) (by omega)
      refine w_run k_831606 ?_
      obtain ⟨bx0, bx1, bx2, bx3⟩ := (id bx7)
      refine w_il (fun _ => rfl) (w_is (fun _ => rfl) (w_al (fun _ => rfl) (w_il (fun _ => rfl) (w_il (fun _ => rfl) (w_icI (x := 5) rfl (w_opz (c := w_i (s_2 / 5)) (beq0 (by omega) (by omega) (by omega)) (i_div (by omega) (by omega) (by omega) (by omega)) ?_))))))
      have b12 : 0 ≤ (s_2 / 5) ∧ (s_2 / 5) ≤ s_2 := ⟨Int.ediv_nonneg (by omega) (by omega), Int.ediv_le_self _ (by omega)⟩
      refine w_il (fun _ => rfl) (w_icI (x := 5) rfl (w_opz (c := w_i (s_2 % 5)) (beq0 (by omega) (by omega) (by omega)) (i_rem (by omega) (by omega) (by omega) (by omega)) ?_))
      have b13 : 0 ≤ (s_2 % 5) ∧ (s_2 % 5) < 5 := ⟨Int.emod_nonneg _ (by omega), Int.emod_lt_of_pos _ (by omega)⟩
      obtain ⟨_, m14, spr14, kee14, rul14, tpd14, nxt14, tok14, tka14, val14, opn14, hm14, row14, ksp14, kke14, kru14, rfl, l14_spr, u14_spr, l14_kee, u14_kee, l14_rul, u14_rul, l14_tpd, u14_tpd, l14_nxt, u14_nxt, l14_tok, u14_tok, l14_tka, u14_tka, l14_val, u14_val, l14_opn, u14_opn, l14_hm, u14_hm, l14_row, u14_row, l14_ksp, u14_ksp, l14_kke, u14_kke, l14_kru, u14_kru, f14_0, f14_1, f14_2, f14_3, f14_4, f14_5, f14_6, f14_7, f14_8, f14_9⟩ := iv_31 iv4
      refine w_this (fun _ => rfl) m14 ?_
      refine w_ca (fun _ => rfl) rfl (c_mBehindStep (d := (d + 4)) iv4 (tn := at_) (ii := (s_2 / 5)) (t := (s_2 % 5)) (by omega) (by omega) (by omega) (by omega) (by omega) (by omega) (by omega) (by omega) (by omega) (by omega) (by omega) (by omega) mu6 (fun y15 b16 b17 b18 b19 b20 => ⟨_, rfl, ?_⟩))
      refine w_is (fun _ => rfl) ?_
      have ba1 : w_BA g o h3 y15 (i_ - (n + 1) + 1) := by rw [show i_ - (n + 1) + 1 = i_ - n from by omega, b20]; exact bx3
      refine w_inc (c := w_i (n + 1)) (fun _ => rfl) (i_addL (y := 1) rfl n) (fun _ => rfl) (w_go ?_)
      exact ih h3 y15 s_2 (n + 1) (.inl (w_i s_2)) iv4 F5 mu6 ba1 (by omega) (by omega) (by omega) (by omega) (by omega) (by omega)  (by omega) (by omega) (by omega) (by omega) (by omega) (by omega)
theorem k_831488 : m_cg 831488 = g_203_0 := rfl
theorem k_831499 : m_cg 831499 = g_203_11 := rfl
theorem k_831527 : m_cg 831527 = g_203_39 := rfl
theorem k_831529 : m_cg 831529 = g_203_41 := rfl
theorem c_mFirst {g : w_G} {o : w_O} {h : m_H} {d : Nat} {Q : Option m_V → m_H → Prop} (iv : w_Inv g o h) {tn : Int} {i_ : Int} (tn_lo : -2147483648 ≤ tn) (tn_hi : tn ≤ 2147483647) (i__lo : -2147483648 ≤ i_) (i__hi : i_ ≤ 2147483647) (k0 : ∀ (x : Int), ∀ h2 : m_H, w_Inv g o h2 → w_fr o [54, 55, 56, 59, 60] h h2 → -2147483648 ≤ x → x ≤ 2147483647 → Q (some (.inl (w_i x))) h2) : wp (d + 6) 831488 [.inr (.inl (some 31)), .inl (w_i tn), .inl (w_i i_), .inr (.inr (.inl 0)), .inr (.inr (.inl 0)), .inr (.inr (.inl 0)), .inr (.inr (.inl 0))] [] h Q := by
  have F := fr_rf (o := o) (h := h) (W := [54, 55, 56, 59, 60])
  have W := iv_wm iv
  refine w_run k_831488 (w_al (fun _ => rfl) (w_il (fun _ => rfl) ?_))
  obtain ⟨_, m1, spr1, kee1, rul1, tpd1, nxt1, tok1, tka1, val1, opn1, hm1, row1, ksp1, kke1, kru1, rfl, l1_spr, u1_spr, l1_kee, u1_kee, l1_rul, u1_rul, l1_tpd, u1_tpd, l1_nxt, u1_nxt, l1_tok, u1_tok, l1_tka, u1_tka, l1_val, u1_val, l1_opn, u1_opn, l1_hm, u1_hm, l1_row, u1_row, l1_ksp, u1_ksp, l1_kke, u1_kke, l1_kru, u1_kru, f1_0, f1_1, f1_2, f1_3, f1_4, f1_5, f1_6, f1_7, f1_8, f1_9⟩ := iv_31 iv
  refine w_this (fun _ => rfl) m1 ?_
  refine w_ca (fun _ => rfl) rfl (c_mIsTown (d := (d + 4)) iv (n := tn) (by omega) (by omega)   (fun b2 b3 => ⟨_, rfl, ?_⟩) (fun b4 => ⟨_, rfl, ?_⟩))
  · refine w_nezt (by omega) (by omega) (by omega)  (w_run k_831499 (w_al (fun _ => rfl) (w_this (fun _ => rfl) m1 ?_)))
    refine w_cv (fun _ => rfl) rfl (c_mFinds (d := d) iv     (fun h5 iv6 F7 b8 => ⟨rfl, ?_⟩))
    have F9 := fr_ca F F7 (fun t ht => by simp at ht ⊢; omega)
    refine w_al (fun _ => rfl) (w_il (fun _ => rfl) ?_)
    have m10 := fr_at F7 m1 iv (ow_31 iv) rfl rfl
    refine w_this (fun _ => rfl) m10 ?_
    refine w_cv (fun _ => rfl) rfl (c_mFindTo (d := (d + 3)) iv6 (tn := tn) (by omega) (by omega) (by omega) (by omega) b8 (fun h11 iv12 F13 b14 b15 => ⟨rfl, ?_⟩))
    have F16 := fr_ca F9 F13 (fun t ht => by simp at ht ⊢; omega)
    refine w_al (fun _ => rfl) ?_
    have m17 := fr_at F13 m10 iv6 (ow_31 iv6) rfl rfl
    refine w_this (fun _ => rfl) m17 ?_
    refine w_ca (fun _ => rfl) rfl (c_mTownNow (d := (d + 5)) iv12     (fun y18 b19 b20 b21 b22 => ⟨_, rfl, ?_⟩))
    refine w_is (fun _ => rfl) (w_il (fun _ => rfl) ?_)
    refine w_ltz2 (by omega) (by omega)  (fun c23 => ?_) (fun c23 => ?_)
    · refine w_run k_831527 (w_icI (x := (-1)) wn_1 (w_ri ?_))
      exact k0 (-1) h11 iv12 F16 (by omega) (by omega)
    · obtain ⟨mny, S, A, B, pS, p60, p59, q1, q5, q2, q3, q4, q6⟩ := (id b14)
      refine w_il (fun _ => rfl) (w_al (fun _ => rfl) (w_getf m17 rfl (fun _ => rfl) (w_il (fun _ => rfl) (w_aldI p60 (by omega) (by omega) (by omega) ?_))))
      obtain ⟨b24, b25⟩ := ag_rg A y18
      have e26 := q3 y18 (by omega) (by omega)
      refine w_lt2 (by omega) (by omega) (by omega) (by omega)  (fun c27 => ?_) (fun c27 => ?_)
      · refine w_run k_831529 ?_
        have ba0 : w_BA g o h11 y18 (i_ - 0 + 1) := ⟨S, A, pS, p60, q6, by omega, by omega, by omega⟩
        refine w_icI (x := (-1)) wn_1 (w_is (fun _ => rfl) (w_icI (x := 0) rfl (w_is (fun _ => rfl) (w_nur k_831535 ?_))))
        exact l_mFirst_47     tn_lo tn_hi i__lo i__hi     k0 (i_ + 1 - 0 + 1 : Int).toNat h11 y18 (-1) 0 (.inr (.inr (.inl 0))) iv12 F16 b15 ba0 (by omega) (by omega) (by omega) (by omega) (by omega) (by omega)  (by omega) (by omega) (by omega) (by omega) (by omega) (by omega)
      · refine w_icI (x := (-1)) wn_1 (w_ri ?_)
        exact k0 (-1) h11 iv12 F16 (by omega) (by omega)
  · refine w_nezf (by omega) (by omega) (by omega)  (w_icI (x := (-2)) wn_2 (w_ri ?_))
    exact k0 (-2) h iv F (by omega) (by omega)
