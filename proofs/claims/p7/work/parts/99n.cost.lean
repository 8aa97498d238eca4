theorem k_835704 : m_cg 835704 = g_204_120 := rfl
theorem k_835846 : m_cg 835846 = g_204_262 := rfl
theorem k_835790 : m_cg 835790 = g_204_206 := rfl
theorem k_835821 : m_cg 835821 = g_204_237 := rfl
theorem l_mFindCosts_120 {g : w_G} {o : w_O} {h0 : m_H} {d : Nat} {Q : Option m_V → m_H → Prop} {al : Int} {at_ : Int} {tn : Int} {ms : Int} (al_lo : -2147483648 ≤ al) (al_hi : al ≤ 2147483647) (at__lo : -2147483648 ≤ at_) (at__hi : at_ ≤ 2147483647) (tn_lo : -2147483648 ≤ tn) (tn_hi : tn ≤ 2147483647) (al_ : al = g_mN g) (t0_ : 0 ≤ tn) (t1_ : tn < g_mN g) (k0 : ∀ h2 : m_H, w_Inv g o h2 → w_fr o [54, 55, 56, 58, 59, 60] h0 h2 → w_mu g o h2 → Q none h2) (kx : ∀ (x6_ x7_ : m_V), ∀ (mny s_ : Int), ∀ h2 : m_H, w_Inv g o h2 → w_fr o [54, 55, 56, 58, 59, 60] h0 h2 → w_mu g o h2 → w_MC g o h2 at_ mny ms → -2147483648 ≤ mny → mny ≤ 2147483647 → -2147483648 ≤ s_ → s_ ≤ 2147483647 → 0 ≤ mny → mny ≤ 4096 → wp (d + 6) 835852 [.inr (.inl (some 31)), .inl (w_i al), .inl (w_i at_), .inl (w_i mny), .inl (w_i tn), .inl (w_i s_), x6_, x7_] [] h2 Q) : ∀ (k : Nat) (h : m_H) (mny s_ : Int) (x6_ : m_V) (x7_ : m_V) (iv : w_Inv g o h) (F : w_fr o [54, 55, 56, 58, 59, 60] h0 h) (mu : w_mu g o h) (mc : w_MC g o h at_ mny ms) (mny_lo : -2147483648 ≤ mny) (mny_hi : mny ≤ 2147483647) (s__lo : -2147483648 ≤ s_) (s__hi : s_ ≤ 2147483647) (s0_ : 0 ≤ s_) (s1_ : s_ ≤ 30) (m0_ : 0 ≤ mny) (m5_ : mny ≤ 4096), 30 - s_ < (k : Int) → wp (d + 6) 835704 [.inr (.inl (some 31)), .inl (w_i al), .inl (w_i at_), .inl (w_i mny), .inl (w_i tn), .inl (w_i s_), x6_, x7_] [] h Q := by
  intro k
  induction k with
  | zero => intro h mny s_ x6_ x7_ iv F mu mc mny_lo mny_hi s__lo s__hi s0_ s1_ m0_ m5_ hk; exact absurd hk (by omega)
  | succ k ih =>
    intro h mny s_ x6_ x7_ iv F mu mc mny_lo mny_hi s__lo s__hi s0_ s1_ m0_ m5_ hk
    have W := iv_wm iv
    obtain ⟨K, P, Q_, p58, p60, p59, a0, a1, q0, q1, q2, q3, q4, q5, q6, q7⟩ := (id mc)
    refine w_run k_835704 (w_il (fun _ => rfl) (w_al (fun _ => rfl) ?_))
    obtain ⟨_, m1, spr1, kee1, rul1, tpd1, nxt1, tok1, tka1, val1, opn1, hm1, row1, ksp1, kke1, kru1, rfl, l1_spr, u1_spr, l1_kee, u1_kee, l1_rul, u1_rul, l1_tpd, u1_tpd, l1_nxt, u1_nxt, l1_tok, u1_tok, l1_tka, u1_tka, l1_val, u1_val, l1_opn, u1_opn, l1_hm, u1_hm, l1_row, u1_row, l1_ksp, u1_ksp, l1_kke, u1_kke, l1_kru, u1_kru, f1_0, f1_1, f1_2, f1_3, f1_4, f1_5, f1_6, f1_7, f1_8, f1_9⟩ := iv_31 iv
    refine w_getf m1 rfl (fun _ => rfl) (w_al (fun _ => rfl) (w_getf m1 rfl (fun _ => rfl) ?_))
    have hm := mul_rg (a := g_mH g) (b := g_mC g) (x := 6) (y := 5) (by omega) (by omega) (by omega) (by omega)
    refine w_op (c := w_i (g_mH g * g_mC g)) (i_mul (g_mH g) (g_mC g)) ?_
    refine w_ge2 (by omega) (by omega) (by omega) (by omega)  (fun c2 => ?_) (fun c2 => ?_)
    · exact kx (x6_) (x7_) mny s_ h iv F mu mc (by omega) (by omega) (by omega) (by omega)  (by omega) (by omega) 
    · refine w_al (fun _ => rfl) (w_il (fun _ => rfl) (w_il (fun _ => rfl) (w_al (fun _ => rfl) (w_getf m1 rfl (fun _ => rfl) ?_))))
      have hdv : s_ / g_mC g < g_mH g := Int.ediv_lt_of_lt_mul (by omega) (by omega)
      refine w_opz (c := w_i (s_ / g_mC g)) (beq0 (by omega) (by omega) (by omega)) (i_div (by omega) (by omega) (by omega) (by omega)) ?_
      have b3 : 0 ≤ (s_ / g_mC g) ∧ (s_ / g_mC g) ≤ s_ := ⟨Int.ediv_nonneg (by omega) (by omega), Int.ediv_le_self _ (by omega)⟩
      refine w_il (fun _ => rfl) (w_al (fun _ => rfl) (w_getf m1 rfl (fun _ => rfl) (w_opz (c := w_i (s_ % g_mC g)) (beq0 (by omega) (by omega) (by omega)) (i_rem (by omega) (by omega) (by omega) (by omega)) ?_)))
      have b4 : 0 ≤ (s_ % g_mC g) ∧ (s_ % g_mC g) < g_mC g := ⟨Int.emod_nonneg _ (by omega), Int.emod_lt_of_pos _ (by omega)⟩
      refine w_this (fun _ => rfl) m1 ?_
      refine w_ca (fun _ => rfl) rfl (c_mCostIn (d := (d + 4)) iv (tn := tn) (ii := (s_ / g_mC g)) (t := (s_ % g_mC g)) (by omega) (by omega) (by omega) (by omega) (by omega) (by omega) (by omega) (by omega) (by omega) (by omega) (by omega) mu (fun y5 b6 b7 b8 => ⟨_, rfl, ?_⟩))
      refine w_is (fun _ => rfl) (w_al (fun _ => rfl) (w_il (fun _ => rfl) (w_il (fun _ => rfl) (w_al (fun _ => rfl) (w_getf m1 rfl (fun _ => rfl) ?_)))))
      have hdv : s_ / g_mC g < g_mH g := Int.ediv_lt_of_lt_mul (by omega) (by omega)
      refine w_opz (c := w_i (s_ / g_mC g)) (beq0 (by omega) (by omega) (by omega)) (i_div (by omega) (by omega) (by omega) (by omega)) ?_
      have b9 : 0 ≤ (s_ / g_mC g) ∧ (s_ / g_mC g) ≤ s_ := ⟨Int.ediv_nonneg (by omega) (by omega), Int.ediv_le_self _ (by omega)⟩
      refine w_il (fun _ => rfl) (w_al (fun _ => rfl) (w_getf m1 rfl (fun _ => rfl) (w_opz (c := w_i (s_ % g_mC g)) (beq0 (by omega) (by omega) (by omega)) (i_rem (by omega) (by omega) (by omega) (by omega)) ?_)))
      have b10 : 0 ≤ (s_ % g_mC g) ∧ (s_ % g_mC g) < g_mC g := ⟨Int.emod_nonneg _ (by omega), Int.emod_lt_of_pos _ (by omega)⟩
      refine w_this (fun _ => rfl) m1 ?_
      refine w_ca (fun _ => rfl) rfl (c_mBehindStep (d := (d + 4)) iv (tn := tn) (ii := (s_ / g_mC g)) (t := (s_ % g_mC g)) (by omega) (by omega) (by omega) (by omega) (by omega) (by omega) (by omega) (by omega) (by omega) (by omega) (by omega) (by omega) mu (fun y11 b12 b13 b14 b15 b16 => ⟨_, rfl, ?_⟩))
      refine w_is (fun _ => rfl) (w_il (fun _ => rfl) ?_)
      refine w_ltz2 (by omega) (by omega)  (fun c17 => ?_) (fun c17 => ?_)
      · refine w_run k_835846 (w_inc (c := w_i (s_ + 1)) (fun _ => rfl) (i_addL (y := 1) rfl s_) (fun _ => rfl) (w_go ?_))
        exact ih h mny (s_ + 1) (.inl (w_i y5)) (.inl (w_i y11)) iv F mu mc (by omega) (by omega) (by omega) (by omega)  (by omega) (by omega) (by omega) (by omega) (by omega)
      · refine w_al (fun _ => rfl) (w_getf m1 rfl (fun _ => rfl) (w_il (fun _ => rfl) (w_aldI p58 (by omega) (by omega) (by omega) ?_)))
        obtain ⟨b18, b19⟩ := ag_rg K tn
        have e20 := q3 tn (by omega) (by omega)
        refine w_il (fun _ => rfl) (w_op (c := w_i ((a_g K tn) + y5)) (i_add (a_g K tn) y5) (w_al (fun _ => rfl) (w_getf m1 rfl (fun _ => rfl) (w_il (fun _ => rfl) (w_aldI p58 (by omega) (by omega) (by omega) ?_)))))
        obtain ⟨b21, b22⟩ := ag_rg K y11
        have e23 := q3 y11 (by omega) (by omega)
        refine w_lt2 (by omega) (by omega) (by omega) (by omega)  (fun c24 => ?_) (fun c24 => ?_)
        · refine w_run k_835790 (w_al (fun _ => rfl) (w_getf m1 rfl (fun _ => rfl) (w_il (fun _ => rfl) (w_al (fun _ => rfl) (w_getf m1 rfl (fun _ => rfl) (w_il (fun _ => rfl) (w_aldI p58 (by omega) (by omega) (by omega) ?_)))))))
          obtain ⟨b25, b26⟩ := ag_rg K tn
          have e27 := q3 tn (by omega) (by omega)
          refine w_il (fun _ => rfl) (w_op (c := w_i ((a_g K tn) + y5)) (i_add (a_g K tn) y5) ?_)
          refine w_astI p58 (by omega) (by omega) (by omega) (by omega) (by omega) (fun A31 h29 w32 s28 => ?_)
          have iv30 := is_58 iv s28 ⟨_, rfl⟩
          have F33 := fr_st F s28 (by rw [(ow_58 iv)]; rfl)
          have m34 := st_fr s28 p60 (by decide)
          have m35 := st_fr s28 p59 (by decide)
          have mcx : w_MC g o h29 at_ mny (ms - 2) := mc_cst (t := y11) (s := ((a_g K tn) + y5)) (by omega) (by omega) (by omega) (by omega) (by omega) a0 a1 q0 q1 q2 q3 q4 q5 q6 w32 s28.2.2.1 m34 m35
          refine w_al (fun _ => rfl) ?_
          have m36 := st_fr s28 m1 (by decide)
          refine w_getf m36 rfl (fun _ => rfl) (w_il (fun _ => rfl) (w_aldI m34 (by omega) (by omega) (by omega) ?_))
          obtain ⟨b37, b38⟩ := ag_rg P y11
          have e39 := q4 y11 (by omega) (by omega)
          refine w_icI (x := 1) rfl ?_
          refine w_ne2 (by omega) (by omega) (by omega) (by omega)  (fun c40 => ?_) (fun c40 => ?_)
          · refine w_run k_835821 (w_al (fun _ => rfl) (w_getf m36 rfl (fun _ => rfl) (w_il (fun _ => rfl) (w_icI (x := 1) rfl (w_astI m34 (by omega) (by omega) (by omega) (by omega) (by omega) (fun A44 h42 w45 s41 => ?_))))))
            have iv43 := is_60 iv30 s41 ⟨_, rfl⟩
            have F46 := fr_st F33 s41 (by rw [(ow_60 iv30)]; rfl)
            refine w_al (fun _ => rfl) ?_
            have m47 := st_fr s41 m36 (by decide)
            refine w_getf m47 rfl (fun _ => rfl) (w_il (fun _ => rfl) (w_il (fun _ => rfl) (w_op (c := w_i (at_ + mny)) (i_add at_ mny) (w_il (fun _ => rfl) (w_icI (x := 1) rfl (w_op (c := w_i (al + 1)) (i_add al 1) (w_opz (c := w_i ((at_ + mny) % (al + 1))) (beq0 (by omega) (by omega) (by omega)) (i_rem (by omega) (by omega) (by omega) (by omega)) ?_)))))))
            have b48 : 0 ≤ ((at_ + mny) % (al + 1)) ∧ ((at_ + mny) % (al + 1)) < (al + 1) := ⟨Int.emod_nonneg _ (by omega), Int.emod_lt_of_pos _ (by omega)⟩
            refine w_il (fun _ => rfl) ?_
            have hlt : w_cnt 0 P (g_mN g).toNat < g_mN g := mf_lt (A := P) (c := 0) (t := y11) (by omega) (by omega) (by omega) (by have := q4 y11 (by omega) (by omega); omega)
            have m49 := st_fr s41 m35 (by decide)
            refine w_astI m49 (by omega) (by omega) (by omega) (by omega) (by omega) (fun A53 h51 w54 s50 => ?_)
            have iv52 := is_59 iv43 s50 ⟨_, rfl⟩
            have F55 := fr_st F46 s50 (by rw [(ow_59 iv43)]; rfl)
            have m56 := st_fr s41 s28.2.2.1 (by decide)
            have m57 := st_fr s50 m56 (by decide)
            have m58 := st_fr s50 s41.2.2.1 (by decide)
            have mc1 : w_MC g o h51 at_ (mny + 1) ms := mc_le (mc_push (t := y11) (x := ((at_ + mny) % (al + 1))) (by omega) (by omega) (by omega) (by rw [show al = g_mN g from by omega]) (by omega) (by omega) mcx s28.2.2.1 m34 m35 w45 w54 m57 m58 s50.2.2.1) (by omega)
            refine w_inc (c := w_i (mny + 1)) (fun _ => rfl) (i_addL (y := 1) rfl mny) (fun _ => rfl) (w_inc (c := w_i (s_ + 1)) (fun _ => rfl) (i_addL (y := 1) rfl s_) (fun _ => rfl) (w_go ?_))
            have mu59 := mu_fr iv mu (fr_st (W := [58]) fr_rf s28 (by rw [(ow_58 iv)]; rfl)) rfl
            have mu60 := mu_fr iv30 mu59 (fr_st (W := [60]) fr_rf s41 (by rw [(ow_60 iv30)]; rfl)) rfl
            have mu61 := mu_fr iv43 mu60 (fr_st (W := [59]) fr_rf s50 (by rw [(ow_59 iv43)]; rfl)) rfl
            exact ih h51 (mny + 1) (s_ + 1) (.inl (w_i y5)) (.inl (w_i y11)) iv52 F55 mu61 mc1 (by omega) (by omega) (by omega) (by omega)  (by omega) (by omega) (by omega) (by omega) (by omega)
          · have mc1 : w_MC g o h29 at_ mny ms := mc_le mcx (by omega)
            refine w_go (w_run k_835846 (w_inc (c := w_i (s_ + 1)) (fun _ => rfl) (i_addL (y := 1) rfl s_) (fun _ => rfl) (w_go ?_)))
            have mu62 := mu_fr iv mu (fr_st (W := [58]) fr_rf s28 (by rw [(ow_58 iv)]; rfl)) rfl
            exact ih h29 mny (s_ + 1) (.inl (w_i y5)) (.inl (w_i y11)) iv30 F33 mu62 mc1 (by omega) (by omega) (by omega) (by omega)  (by omega) (by omega) (by omega) (by omega) (by omega)
        · refine w_go (w_run k_835846 (w_inc (c := w_i (s_ + 1)) (fun _ => rfl) (i_addL (y := 1) rfl s_) (fun _ => rfl) (w_go ?_)))
          exact ih h mny (s_ + 1) (.inl (w_i y5)) (.inl (w_i y11)) iv F mu mc (by omega) (by omega) (by omega) (by omega)  (by omega) (by omega) (by omega) (by omega) (by omega)
theorem k_835665 : m_cg 835665 = g_204_81 := rfl
theorem k_835855 : m_cg 835855 = g_204_271 := rfl
theorem k_835686 : m_cg 835686 = g_204_102 := rfl
theorem k_835852 : m_cg 835852 = g_204_268 := rfl
theorem k_835689 : m_cg 835689 = g_204_105 := rfl
theorem l_mFindCosts_81 {g : w_G} {o : w_O} {h0 : m_H} {d : Nat} {Q : Option m_V → m_H → Prop} {al : Int} (al_lo : -2147483648 ≤ al) (al_hi : al ≤ 2147483647) (al_ : al = g_mN g) (k0 : ∀ h2 : m_H, w_Inv g o h2 → w_fr o [54, 55, 56, 58, 59, 60] h0 h2 → w_mu g o h2 → Q none h2) : ∀ (k : Nat) (h : m_H) (at_ mny ms : Int) (x4_ : m_V) (x5_ : m_V) (x6_ : m_V) (x7_ : m_V) (iv : w_Inv g o h) (F : w_fr o [54, 55, 56, 58, 59, 60] h0 h) (mu : w_mu g o h) (mc : w_MC g o h at_ mny ms) (at__lo : -2147483648 ≤ at_) (at__hi : at_ ≤ 2147483647) (mny_lo : -2147483648 ≤ mny) (mny_hi : mny ≤ 2147483647) (a0_ : 0 ≤ at_) (a1_ : at_ ≤ g_mN g) (m0_ : 0 ≤ mny) (m5_ : mny ≤ 4096) (z0_ : 0 ≤ ms), ms < (k : Int) → wp (d + 6) 835665 [.inr (.inl (some 31)), .inl (w_i al), .inl (w_i at_), .inl (w_i mny), x4_, x5_, x6_, x7_] [] h Q := by
  intro k
  induction k with
  | zero => intro h at_ mny ms x4_ x5_ x6_ x7_ iv F mu mc at__lo at__hi mny_lo mny_hi a0_ a1_ m0_ m5_ z0_ hk; exact absurd hk (by omega)
  | succ k ih =>
    intro h at_ mny ms x4_ x5_ x6_ x7_ iv F mu mc at__lo at__hi mny_lo mny_hi a0_ a1_ m0_ m5_ z0_ hk
    have W := iv_wm iv
    obtain ⟨K, P, Q_, p58, p60, p59, a0, a1, q0, q1, q2, q3, q4, q5, q6, q7⟩ := (id mc)
    refine w_run k_835665 (w_il (fun _ => rfl) ?_)
    refine w_lez2 (by omega) (by omega)  (fun c1 => ?_) (fun c1 => ?_)
    · refine w_run k_835855 (w_rv ?_)
      exact k0 h iv F mu
    · refine w_al (fun _ => rfl) ?_
      obtain ⟨_, m2, spr2, kee2, rul2, tpd2, nxt2, tok2, tka2, val2, opn2, hm2, row2, ksp2, kke2, kru2, rfl, l2_spr, u2_spr, l2_kee, u2_kee, l2_rul, u2_rul, l2_tpd, u2_tpd, l2_nxt, u2_nxt, l2_tok, u2_tok, l2_tka, u2_tka, l2_val, u2_val, l2_opn, u2_opn, l2_hm, u2_hm, l2_row, u2_row, l2_ksp, u2_ksp, l2_kke, u2_kke, l2_kru, u2_kru, f2_0, f2_1, f2_2, f2_3, f2_4, f2_5, f2_6, f2_7, f2_8, f2_9⟩ := iv_31 iv
      refine w_getf m2 rfl (fun _ => rfl) (w_il (fun _ => rfl) (w_aldI p59 (by omega) (by omega) (by omega) ?_))
      obtain ⟨b3, b4⟩ := ag_rg Q_ at_
      have hqt := mc_at (by omega) a0 a1 q5
      refine w_is (fun _ => rfl) (w_il (fun _ => rfl) (w_il (fun _ => rfl) ?_))
      refine w_ne2 (by omega) (by omega) (by omega) (by omega)  (fun c5 => ?_) (fun c5 => ?_)
      · refine w_run k_835686 (w_il (fun _ => rfl) (w_icI (x := 1) rfl (w_op (c := w_i (at_ + 1)) (i_add at_ 1) (w_is (fun _ => rfl) (w_inc (c := w_i (mny + (-1))) (fun _ => rfl) (i_addL (y := (-1)) wn_1 mny) (fun _ => rfl) (w_al (fun _ => rfl) (w_getf m2 rfl (fun _ => rfl) (w_il (fun _ => rfl) (w_icI (x := 0) rfl (w_astI p60 (by omega) (by omega) (by omega) (by omega) (by omega) (fun A9 h7 w10 s6 => ?_)))))))))))
        have iv8 := is_60 iv s6 ⟨_, rfl⟩
        have F11 := fr_st F s6 (by rw [(ow_60 iv)]; rfl)
        have m12 := st_fr s6 p58 (by decide)
        have m13 := st_fr s6 p59 (by decide)
        have mc1 : w_MC g o h7 (at_ + 1) (mny - 1) (ms - 1) := mc_pop (t := (a_g Q_ at_)) (by rw [if_neg (by omega)]) (by omega) (by omega) (by omega) (by omega) (by omega) a0 a1 q1 q2 q3 q4 q5 q6 w10 m12 s6.2.2.1 m13
        have ms1 : 0 ≤ ms - 1 := by obtain ⟨_, _, _, _, _, _, _, _, _, _, _, _, _, _, _, z⟩ := mc1; exact z
        rw [show mny - 1 = (mny + (-1)) from by omega] at mc1
        refine w_icI (x := 0) rfl (w_is (fun _ => rfl) (w_nur k_835704 ?_))
        have mu14 := mu_fr iv mu (fr_st (W := [60]) fr_rf s6 (by rw [(ow_60 iv)]; rfl)) rfl
        refine l_mFindCosts_120   (al := al) (at_ := (at_ + 1)) (tn := (a_g Q_ at_)) (ms := (ms - 1))     (by omega) (by omega) (by omega) (by omega) (by omega) (by omega) (by omega) (by omega) (by omega) k0 (fun z17 z18 mny15 s_16 h19 iv20 F21 mu22 mc23 b24 b25 b26 b27 b28 b29 => ?_) (30 - 0 + 1 : Int).toNat h7 (mny + (-1)) 0 (x6_) (x7_) iv8 F11 mu14 mc1 (by omega) (by omega) (by omega) (by omega)  (by omega) (by omega) (by omega) (by omega) (by omega)
        refine w_run k_835852 (w_go ?_)
        exact ih h19 (at_ + 1) mny15 (ms - 1) (.inl (w_i (a_g Q_ at_))) (.inl (w_i s_16)) (z17) (z18) iv20 F21 mu22 mc23 (by omega) (by omega) (by omega) (by omega)  (by omega) (by omega) (by omega) (by omega) (by omega) (by omega)
      · refine w_icI (x := 0) rfl (w_go (w_run k_835689 (w_is (fun _ => rfl) (w_inc (c := w_i (mny + (-1))) (fun _ => rfl) (i_addL (y := (-1)) wn_1 mny) (fun _ => rfl) (w_al (fun _ => rfl) (w_getf m2 rfl (fun _ => rfl) (w_il (fun _ => rfl) (w_icI (x := 0) rfl (w_astI p60 (by omega) (by omega) (by omega) (by omega) (by omega) (fun A33 h31 w34 s30 => ?_))))))))))
        have iv32 := is_60 iv s30 ⟨_, rfl⟩
        have F35 := fr_st F s30 (by rw [(ow_60 iv)]; rfl)
        have m36 := st_fr s30 p58 (by decide)
        have m37 := st_fr s30 p59 (by decide)
        have mc1 : w_MC g o h31 0 (mny - 1) (ms - 1) := mc_pop (t := (a_g Q_ at_)) (by rw [if_pos (by omega)]) (by omega) (by omega) (by omega) (by omega) (by omega) a0 a1 q1 q2 q3 q4 q5 q6 w34 m36 s30.2.2.1 m37
        have ms1 : 0 ≤ ms - 1 := by obtain ⟨_, _, _, _, _, _, _, _, _, _, _, _, _, _, _, z⟩ := mc1; exact z
        rw [show mny - 1 = (mny + (-1)) from by omega] at mc1
        refine w_icI (x := 0) rfl (w_is (fun _ => rfl) (w_nur k_835704 ?_))
        have mu38 := mu_fr iv mu (fr_st (W := [60]) fr_rf s30 (by rw [(ow_60 iv)]; rfl)) rfl
        refine l_mFindCosts_120   (al := al) (at_ := 0) (tn := (a_g Q_ at_)) (ms := (ms - 1))     (by omega) (by omega) (by omega) (by omega) (by omega) (by omega) (by omega) (by omega) (by omega) k0 (fun z41 z42 mny39 s_40 h43 iv44 F45 mu46 mc47 b48 b49 b50 b51 b52 b53 => ?_) (30 - 0 + 1 : Int).toNat h31 (mny + (-1)) 0 (x6_) (x7_) iv32 F35 mu38 mc1 (by omega) (by omega) (by omega) (by omega)  (by omega) (by omega) (by omega) (by omega) (by omega)
        refine w_run k_835852 (w_go ?_)
        exact ih h43 0 mny39 (ms - 1) (.inl (w_i (a_g Q_ at_))) (.inl (w_i s_40)) (z41) (z42) iv44 F45 mu46 mc47 (by omega) (by omega) (by omega) (by omega)  (by omega) (by omega) (by omega) (by omega) (by omega) (by omega)
theorem k_835600 : m_cg 835600 = g_204_16 := rfl
theorem k_835627 : m_cg 835627 = g_204_43 := rfl
theorem l_mFindCosts_16 {g : w_G} {o : w_O} {h0 : m_H} {d : Nat} {Q : Option m_V → m_H → Prop} {al : Int} (al_lo : -2147483648 ≤ al) (al_hi : al ≤ 2147483647) (al_ : al = g_mN g) (k0 : ∀ h2 : m_H, w_Inv g o h2 → w_fr o [54, 55, 56, 58, 59, 60] h0 h2 → w_mu g o h2 → Q none h2) : ∀ (k : Nat) (h : m_H) (v : Int) (iv : w_Inv g o h) (F : w_fr o [54, 55, 56, 58, 59, 60] h0 h) (mu : w_mu g o h) (fk : w_fk g o h v) (v_lo : -2147483648 ≤ v) (v_hi : v ≤ 2147483647) (v0_ : 0 ≤ v) (v1_ : v ≤ g_mN g), g_mN g - v < (k : Int) → wp (d + 6) 835600 [.inr (.inl (some 31)), .inl (w_i al), .inl (w_i v), .inr (.inr (.inl 0)), .inr (.inr (.inl 0)), .inr (.inr (.inl 0)), .inr (.inr (.inl 0)), .inr (.inr (.inl 0))] [] h Q := by
  intro k
  induction k with
  | zero => intro h v iv F mu fk v_lo v_hi v0_ v1_ hk; exact absurd hk (by omega)
  | succ k ih =>
    intro h v iv F mu fk v_lo v_hi v0_ v1_ hk
    have W := iv_wm iv
    obtain ⟨K, P, p58, p60, hF⟩ := (id fk)
    refine w_run k_835600 (w_il (fun _ => rfl) (w_il (fun _ => rfl) ?_))
    refine w_ge2 (by omega) (by omega) (by omega) (by omega)  (fun c1 => ?_) (fun c1 => ?_)
    · refine w_run k_835627 (w_icI (x := 0) rfl (w_is (fun _ => rfl) (w_icI (x := 1) rfl (w_is (fun _ => rfl) (w_al (fun _ => rfl) ?_)))))
      obtain ⟨_, m2, spr2, kee2, rul2, tpd2, nxt2, tok2, tka2, val2, opn2, hm2, row2, ksp2, kke2, kru2, rfl, l2_spr, u2_spr, l2_kee, u2_kee, l2_rul, u2_rul, l2_tpd, u2_tpd, l2_nxt, u2_nxt, l2_tok, u2_tok, l2_tka, u2_tka, l2_val, u2_val, l2_opn, u2_opn, l2_hm, u2_hm, l2_row, u2_row, l2_ksp, u2_ksp, l2_kke, u2_kke, l2_kru, u2_kru, f2_0, f2_1, f2_2, f2_3, f2_4, f2_5, f2_6, f2_7, f2_8, f2_9⟩ := iv_31 iv
      refine w_getf m2 rfl (fun _ => rfl) (w_icI (x := 0) rfl (w_al (fun _ => rfl) (w_this (fun _ => rfl) m2 ?_)))
      refine w_ca (fun _ => rfl) rfl (c_mTownNow (d := (d + 5)) iv     (fun y3 b4 b5 b6 b7 => ⟨_, rfl, ?_⟩))
      obtain ⟨_, m8, A8, rfl⟩ := iv_59 iv
      refine w_astI m8 (by omega) (by omega) (by omega) (by omega) (by omega) (fun A12 h10 w13 s9 => ?_)
      have iv11 := is_59 iv s9 ⟨_, rfl⟩
      have F14 := fr_st F s9 (by rw [(ow_59 iv)]; rfl)
      refine w_al (fun _ => rfl) ?_
      have m15 := st_fr s9 m2 (by decide)
      refine w_getf m15 rfl (fun _ => rfl) (w_al (fun _ => rfl) (w_getf m15 rfl (fun _ => rfl) (w_icI (x := 0) rfl (w_aldI s9.2.2.1 (by omega) (by omega) (by omega) ?_))))
      obtain ⟨b16, b17⟩ := ag_rg A12 0
      have hq18 : a_g A12 0 = y3 := by rw [w13 0 (by omega) (by omega)]; exact if_pos rfl
      refine w_icI (x := 0) rfl ?_
      have m19 := st_fr s9 p58 (by decide)
      refine w_astI m19 (by omega) (by omega) (by omega) (by omega) (by omega) (fun A23 h21 w24 s20 => ?_)
      have iv22 := is_58 iv11 s20 ⟨_, rfl⟩
      have F25 := fr_st F14 s20 (by rw [(ow_58 iv11)]; rfl)
      refine w_al (fun _ => rfl) ?_
      have m26 := st_fr s20 m15 (by decide)
      refine w_getf m26 rfl (fun _ => rfl) (w_al (fun _ => rfl) (w_getf m26 rfl (fun _ => rfl) (w_icI (x := 0) rfl ?_)))
      have m27 := st_fr s20 s9.2.2.1 (by decide)
      refine w_aldI m27 (by omega) (by omega) (by omega) ?_
      obtain ⟨b28, b29⟩ := ag_rg A12 0
      have hq30 : a_g A12 0 = y3 := by rw [w13 0 (by omega) (by omega)]; exact if_pos rfl
      refine w_icI (x := 1) rfl ?_
      have m31 := st_fr s9 p60 (by decide)
      have m32 := st_fr s20 m31 (by decide)
      refine w_astI m32 (by omega) (by omega) (by omega) (by omega) (by omega) (fun A36 h34 w37 s33 => ?_)
      have iv35 := is_60 iv22 s33 ⟨_, rfl⟩
      have F38 := fr_st F25 s33 (by rw [(ow_60 iv22)]; rfl)
      refine w_nur k_835665 ?_
      have m39 := st_fr s33 s20.2.2.1 (by decide)
      have m40 := st_fr s33 m27 (by decide)
      have hq0 : a_g A12 0 = y3 := by rw [w13 0 (by omega) (by omega)]; exact if_pos rfl
      have mc0 : w_MC g o h34 0 1 (2 * w_sm A23 (g_mN g).toNat + 1) := mc_0 (K := K) (P := P) (t := y3) (by omega) (fun j j0 j1 => hF j j0 (by omega)) (by omega) (by omega) (fun j j0 j1 => by rw [w24 j j0 j1, hq0]) (fun j j0 j1 => by rw [w37 j j0 j1, hq0]) hq0 m39 s33.2.2.1 m40
      have ms0 : 0 ≤ 2 * w_sm A23 (g_mN g).toNat + 1 := by obtain ⟨_, _, _, _, _, _, _, _, _, _, _, _, _, _, _, z⟩ := mc0; exact z
      have mu41 := mu_fr iv mu (fr_st (W := [59]) fr_rf s9 (by rw [(ow_59 iv)]; rfl)) rfl
      have mu42 := mu_fr iv11 mu41 (fr_st (W := [58]) fr_rf s20 (by rw [(ow_58 iv11)]; rfl)) rfl
      have mu43 := mu_fr iv22 mu42 (fr_st (W := [60]) fr_rf s33 (by rw [(ow_60 iv22)]; rfl)) rfl
      exact l_mFindCosts_81   (al := al)     (by omega) (by omega) (by omega) k0 ((2 * w_sm A23 (g_mN g).toNat + 1) + 1 : Int).toNat h34 0 1 (2 * w_sm A23 (g_mN g).toNat + 1) (.inr (.inr (.inl 0))) (.inr (.inr (.inl 0))) (.inr (.inr (.inl 0))) (.inr (.inr (.inl 0))) iv35 F38 mu43 mc0 (by omega) (by omega) (by omega) (by omega)  (by omega) (by omega) (by omega) (by omega) (by omega) (by omega)
    · refine w_al (fun _ => rfl) ?_
      obtain ⟨_, m44, spr44, kee44, rul44, tpd44, nxt44, tok44, tka44, val44, opn44, hm44, row44, ksp44, kke44, kru44, rfl, l44_spr, u44_spr, l44_kee, u44_kee, l44_rul, u44_rul, l44_tpd, u44_tpd, l44_nxt, u44_nxt, l44_tok, u44_tok, l44_tka, u44_tka, l44_val, u44_val, l44_opn, u44_opn, l44_hm, u44_hm, l44_row, u44_row, l44_ksp, u44_ksp, l44_kke, u44_kke, l44_kru, u44_kru, f44_0, f44_1, f44_2, f44_3, f44_4, f44_5, f44_6, f44_7, f44_8, f44_9⟩ := iv_31 iv
      refine w_getf m44 rfl (fun _ => rfl) (w_il (fun _ => rfl) (w_icI (x := 1000000000) rfl (w_astI p58 (by omega) (by omega) (by omega) (by omega) (by omega) (fun A48 h46 w49 s45 => ?_))))
      have iv47 := is_58 iv s45 ⟨_, rfl⟩
      have F50 := fr_st F s45 (by rw [(ow_58 iv)]; rfl)
      refine w_al (fun _ => rfl) ?_
      have m51 := st_fr s45 m44 (by decide)
      refine w_getf m51 rfl (fun _ => rfl) (w_il (fun _ => rfl) (w_icI (x := 0) rfl ?_))
      have m52 := st_fr s45 p60 (by decide)
      refine w_astI m52 (by omega) (by omega) (by omega) (by omega) (by omega) (fun A56 h54 w57 s53 => ?_)
      have iv55 := is_60 iv47 s53 ⟨_, rfl⟩
      have F58 := fr_st F50 s53 (by rw [(ow_60 iv47)]; rfl)
      have m59 := st_fr s53 s45.2.2.1 (by decide)
      have fk1 : w_fk g o h54 (v + 1) := ⟨_, _, m59, s53.2.2.1, fun j j0 j1 => by
        rw [w49 j j0 (by omega), w57 j j0 (by omega)]
        by_cases hj : j = v
        · rw [if_pos hj, if_pos hj]; exact ⟨rfl, rfl⟩
        · rw [if_neg hj, if_neg hj]; exact hF j j0 (by omega)⟩
      refine w_inc (c := w_i (v + 1)) (fun _ => rfl) (i_addL (y := 1) rfl v) (fun _ => rfl) (w_go ?_)
      have mu60 := mu_fr iv mu (fr_st (W := [58]) fr_rf s45 (by rw [(ow_58 iv)]; rfl)) rfl
      have mu61 := mu_fr iv47 mu60 (fr_st (W := [60]) fr_rf s53 (by rw [(ow_60 iv47)]; rfl)) rfl
      exact ih h54 (v + 1) iv55 F58 mu61 fk1 (by omega) (by omega)  (by omega) (by omega) (by omega)
theorem k_835584 : m_cg 835584 = g_204_0 := rfl
theorem c_mFindCosts {g : w_G} {o : w_O} {h : m_H} {d : Nat} {Q : Option m_V → m_H → Prop} (iv : w_Inv g o h) (k0 : ∀ h2 : m_H, w_Inv g o h2 → w_fr o [54, 55, 56, 58, 59, 60] h h2 → w_mu g o h2 → Q none h2) : wp (d + 6) 835584 [.inr (.inl (some 31)), .inr (.inr (.inl 0)), .inr (.inr (.inl 0)), .inr (.inr (.inl 0)), .inr (.inr (.inl 0)), .inr (.inr (.inl 0)), .inr (.inr (.inl 0)), .inr (.inr (.inl 0))] [] h Q := by
  have F := fr_rf (o := o) (h := h) (W := [54, 55, 56, 58, 59, 60])
  have W := iv_wm iv
  refine w_run k_835584 (w_al (fun _ => rfl) ?_)
  obtain ⟨_, m1, spr1, kee1, rul1, tpd1, nxt1, tok1, tka1, val1, opn1, hm1, row1, ksp1, kke1, kru1, rfl, l1_spr, u1_spr, l1_kee, u1_kee, l1_rul, u1_rul, l1_tpd, u1_tpd, l1_nxt, u1_nxt, l1_tok, u1_tok, l1_tka, u1_tka, l1_val, u1_val, l1_opn, u1_opn, l1_hm, u1_hm, l1_row, u1_row, l1_ksp, u1_ksp, l1_kke, u1_kke, l1_kru, u1_kru, f1_0, f1_1, f1_2, f1_3, f1_4, f1_5, f1_6, f1_7, f1_8, f1_9⟩ := iv_31 iv
  refine w_this (fun _ => rfl) m1 ?_
  refine w_cv (fun _ => rfl) rfl (c_mFinds (d := d) iv     (fun h2 iv3 F4 b5 => ⟨rfl, ?_⟩))
  have F6 := fr_ca F F4 (fun t ht => by simp at ht ⊢; omega)
  obtain ⟨U, p56, hU⟩ := (id b5)
  have hUN : a_g U (g_mH g) = g_mN g := (hU _ (by omega) (by omega) (by omega)).trans (iv_mN iv).symm
  refine w_al (fun _ => rfl) ?_
  have m7 := fr_at F4 m1 iv (ow_31 iv) rfl rfl
  refine w_getf m7 rfl (fun _ => rfl) (w_al (fun _ => rfl) (w_getf m7 rfl (fun _ => rfl) (w_aldI p56 (by omega) (by omega) (by omega) ?_)))
  obtain ⟨b8, b9⟩ := ag_rg U (g_mH g)
  have e10 := hU (g_mH g) (by omega) (by omega)
  refine w_is (fun _ => rfl) ?_
  have fk0 : w_fk g o h2 0 := by obtain ⟨_, p58, K, rfl⟩ := iv_58 iv3; obtain ⟨_, p60, P, rfl⟩ := iv_60 iv3; exact ⟨K, P, p58, p60, fun j j0 j1 => absurd j1 (by omega)⟩
  refine w_icI (x := 0) rfl (w_is (fun _ => rfl) (w_nur k_835600 ?_))
  exact l_mFindCosts_16   (al := (a_g U (g_mH g)))     (by omega) (by omega) (by omega) k0 (g_mN g - 0 + 1 : Int).toNat h2 0 iv3 F6 b5 fk0 (by omega) (by omega)  (by omega) (by omega) (by omega)
theorem k_839680 : m_cg 839680 = g_205_0 := rfl
theorem k_839691 : m_cg 839691 = g_205_11 := rfl
theorem k_839711 : m_cg 839711 = g_205_31 := rfl
theorem k_839717 : m_cg 839717 = g_205_37 := rfl
theorem c_mCheapest {g : w_G} {o : w_O} {h : m_H} {d : Nat} {Q : Option m_V → m_H → Prop} (iv : w_Inv g o h) {tn : Int} (tn_lo : -2147483648 ≤ tn) (tn_hi : tn ≤ 2147483647) (k0 : ∀ (x : Int), ∀ h2 : m_H, w_Inv g o h2 → w_fr o [54, 55, 56, 58, 59, 60] h h2 → -2147483648 ≤ x → x ≤ 2147483647 → Q (some (.inl (w_i x))) h2) : wp (d + 7) 839680 [.inr (.inl (some 31)), .inl (w_i tn)] [] h Q := by
  have F := fr_rf (o := o) (h := h) (W := [54, 55, 56, 58, 59, 60])
  have W := iv_wm iv
  refine w_run k_839680 (w_al (fun _ => rfl) (w_il (fun _ => rfl) ?_))
  obtain ⟨_, m1, spr1, kee1, rul1, tpd1, nxt1, tok1, tka1, val1, opn1, hm1, row1, ksp1, kke1, kru1, rfl, l1_spr, u1_spr, l1_kee, u1_kee, l1_rul, u1_rul, l1_tpd, u1_tpd, l1_nxt, u1_nxt, l1_tok, u1_tok, l1_tka, u1_tka, l1_val, u1_val, l1_opn, u1_opn, l1_hm, u1_hm, l1_row, u1_row, l1_ksp, u1_ksp, l1_kke, u1_kke, l1_kru, u1_kru, f1_0, f1_1, f1_2, f1_3, f1_4, f1_5, f1_6, f1_7, f1_8, f1_9⟩ := iv_31 iv
  refine w_this (fun _ => rfl) m1 ?_
  refine w_ca (fun _ => rfl) rfl (c_mIsTown (d := (d + 5)) iv (n := tn) (by omega) (by omega)   (fun b2 b3 => ⟨_, rfl, ?_⟩) (fun b4 => ⟨_, rfl, ?_⟩))
  · refine w_nezt (by omega) (by omega) (by omega)  (w_run k_839691 (w_al (fun _ => rfl) (w_this (fun _ => rfl) m1 ?_)))
    refine w_cv (fun _ => rfl) rfl (c_mFindCosts (d := d) iv     (fun h5 iv6 F7 b8 => ⟨rfl, ?_⟩))
    have F9 := fr_ca F F7 (fun t ht => by exact ht)
    refine w_al (fun _ => rfl) ?_
    have m10 := fr_at F7 m1 iv (ow_31 iv) rfl rfl
    refine w_getf m10 rfl (fun _ => rfl) (w_il (fun _ => rfl) ?_)
    obtain ⟨_, m11, A11, rfl⟩ := iv_58 iv6
    refine w_aldI m11 (by omega) (by omega) (by omega) ?_
    obtain ⟨b12, b13⟩ := ag_rg A11 tn
    refine w_icI (x := 1000000000) rfl ?_
    refine w_ne2 (by omega) (by omega) (by omega) (by omega)  (fun c14 => ?_) (fun c14 => ?_)
    · refine w_run k_839711 (w_al (fun _ => rfl) (w_getf m10 rfl (fun _ => rfl) (w_il (fun _ => rfl) (w_aldI m11 (by omega) (by omega) (by omega) ?_))))
      obtain ⟨b15, b16⟩ := ag_rg A11 tn
      refine w_ri ?_
      exact k0 (a_g A11 tn) h5 iv6 F9 (by omega) (by omega)
    · refine w_icI (x := (-1)) wn_1 (w_go (w_run k_839717 (w_ri ?_)))
      exact k0 (-1) h5 iv6 F9 (by omega) (by omega)
  · refine w_nezf (by omega) (by omega) (by omega)  (w_icI (x := (-2)) wn_2 (w_ri ?_))
    exact k0 (-2) h iv F (by omega) (by omega)
theorem k_872472 : m_cg 872472 = g_213_24 := rfl
theorem k_872543 : m_cg 872543 = g_213_95 := rfl
theorem k_872552 : m_cg 872552 = g_213_104 := rfl
theorem k_872554 : m_cg 872554 = g_213_106 := rfl
theorem k_872502 : m_cg 872502 = g_213_54 := rfl
theorem k_872531 : m_cg 872531 = g_213_83 := rfl
theorem k_872537 : m_cg 872537 = g_213_89 := rfl
theorem l_mWorth_24 {g : w_G} {o : w_O} {h0 : m_H} {d : Nat} {Q : Option m_V → m_H → Prop} {what : Int} (what_lo : -2147483648 ≤ what) (what_hi : what ≤ 2147483647) (k0 : ∀ (ll : Nat), ∀ h2 : m_H, w_Inv g o h2 → w_fr o [54, 55, 56, 58, 59, 60] h0 h2 → Q (some (.inr (.inr (.inl ll)))) h2) : ∀ (k : Nat) (h : m_H) (be mo v : Int) (x5_ : m_V) (iv : w_Inv g o h) (F : w_fr o [54, 55, 56, 58, 59, 60] h0 h) (mu : w_mu g o h) (be_lo : -2147483648 ≤ be) (be_hi : be ≤ 2147483647) (mo_lo : -2147483648 ≤ mo) (mo_hi : mo ≤ 2147483647) (v_lo : -2147483648 ≤ v) (v_hi : v ≤ 2147483647) (v0_ : 0 ≤ v) (v1_ : v ≤ g_mN g), g_mN g - v < (k : Int) → wp (d + 7) 872472 [.inr (.inl (some 31)), .inl (w_i what), .inl (w_i be), .inl (w_i mo), .inl (w_i v), x5_] [] h Q := by
  intro k
  induction k with
  | zero => intro h be mo v x5_ iv F mu be_lo be_hi mo_lo mo_hi v_lo v_hi v0_ v1_ hk; exact absurd hk (by omega)
  | succ k ih =>
    intro h be mo v x5_ iv F mu be_lo be_hi mo_lo mo_hi v_lo v_hi v0_ v1_ hk
    have W := iv_wm iv
    obtain ⟨U, p56, hU⟩ := (id mu)
    have hUN : a_g U (g_mH g) = g_mN g := (hU _ (by omega) (by omega) (by omega)).trans (iv_mN iv).symm
    refine w_run k_872472 (w_il (fun _ => rfl) (w_al (fun _ => rfl) ?_))
    obtain ⟨_, m1, spr1, kee1, rul1, tpd1, nxt1, tok1, tka1, val1, opn1, hm1, row1, ksp1, kke1, kru1, rfl, l1_spr, u1_spr, l1_kee, u1_kee, l1_rul, u1_rul, l1_tpd, u1_tpd, l1_nxt, u1_nxt, l1_tok, u1_tok, l1_tka, u1_tka, l1_val, u1_val, l1_opn, u1_opn, l1_hm, u1_hm, l1_row, u1_row, l1_ksp, u1_ksp, l1_kke, u1_kke, l1_kru, u1_kru, f1_0, f1_1, f1_2, f1_3, f1_4, f1_5, f1_6, f1_7, f1_8, f1_9⟩ := iv_31 iv
    refine w_getf m1 rfl (fun _ => rfl) (w_al (fun _ => rfl) (w_getf m1 rfl (fun _ => rfl) (w_aldI p56 (by omega) (by omega) (by omega) ?_)))
    obtain ⟨b2, b3⟩ := ag_rg U (g_mH g)
    have e4 := hU (g_mH g) (by omega) (by omega)
    refine w_ge2 (by omega) (by omega) (by omega) (by omega)  (fun c5 => ?_) (fun c5 => ?_)
    · refine w_run k_872543 (w_il (fun _ => rfl) ?_)
      refine w_nez2 (by omega) (by omega)  (fun c6 => ?_) (fun c6 => ?_)
      · refine w_run k_872552 (w_il (fun _ => rfl) (w_itl (w_rl ?_)))
        exact k0 _ h iv F
      · refine w_il (fun _ => rfl) (w_itl (w_go (w_run k_872554 (w_rl ?_))))
        exact k0 _ h iv F
    · refine w_al (fun _ => rfl) (w_getf m1 rfl (fun _ => rfl) (w_il (fun _ => rfl) ?_))
      obtain ⟨_, m7, A7, rfl⟩ := iv_58 iv
      refine w_aldI m7 (by omega) (by omega) (by omega) ?_
      obtain ⟨b8, b9⟩ := ag_rg A7 v
      refine w_icI (x := 1000000000) rfl ?_
      refine w_ne2 (by omega) (by omega) (by omega) (by omega)  (fun c10 => ?_) (fun c10 => ?_)
      · refine w_run k_872502 (w_al (fun _ => rfl) (w_il (fun _ => rfl) (w_this (fun _ => rfl) m1 ?_)))
        refine w_ca (fun _ => rfl) rfl (c_mJoyOf (d := (d + 3)) iv (tn := v) (by omega) (by omega) (by omega) mu (fun y11 h12 iv13 F14 b15 b16 => ⟨_, rfl, ?_⟩))
        have F17 := fr_ca F F14 (fun t ht => by simp at ht ⊢; omega)
        refine w_al (fun _ => rfl) ?_
        have m18 := fr_at F14 m1 iv (ow_31 iv) rfl rfl
        refine w_getf m18 rfl (fun _ => rfl) (w_il (fun _ => rfl) ?_)
        have m19 := fr_at F14 m7 iv (ow_58 iv) rfl rfl
        refine w_aldI m19 (by omega) (by omega) (by omega) ?_
        obtain ⟨b20, b21⟩ := ag_rg A7 v
        refine w_opR sub_lt (fun x22 x220 x221 x22e => ?_)
        refine w_is (fun _ => rfl) (w_il (fun _ => rfl) ?_)
        refine w_ltz2 (by omega) (by omega)  (fun c23 => ?_) (fun c23 => ?_)
        · refine w_run k_872531 (w_il (fun _ => rfl) (w_is (fun _ => rfl) (w_il (fun _ => rfl) (w_is (fun _ => rfl) (w_inc (c := w_i (v + 1)) (fun _ => rfl) (i_addL (y := 1) rfl v) (fun _ => rfl) (w_go ?_))))))
          have mu24 := mu_fr iv mu F14 rfl
          exact ih h12 v x22 (v + 1) (.inl (w_i x22)) iv13 F17 mu24 (by omega) (by omega) (by omega) (by omega) (by omega) (by omega)  (by omega) (by omega) (by omega)
        · refine w_il (fun _ => rfl) (w_il (fun _ => rfl) ?_)
          refine w_gt2 (by omega) (by omega) (by omega) (by omega)  (fun c25 => ?_) (fun c25 => ?_)
          · refine w_run k_872531 (w_il (fun _ => rfl) (w_is (fun _ => rfl) (w_il (fun _ => rfl) (w_is (fun _ => rfl) (w_inc (c := w_i (v + 1)) (fun _ => rfl) (i_addL (y := 1) rfl v) (fun _ => rfl) (w_go ?_))))))
            have mu26 := mu_fr iv mu F14 rfl
            exact ih h12 v x22 (v + 1) (.inl (w_i x22)) iv13 F17 mu26 (by omega) (by omega) (by omega) (by omega) (by omega) (by omega)  (by omega) (by omega) (by omega)
          · refine w_go (w_run k_872537 (w_inc (c := w_i (v + 1)) (fun _ => rfl) (i_addL (y := 1) rfl v) (fun _ => rfl) (w_go ?_)))
            have mu27 := mu_fr iv mu F14 rfl
            exact ih h12 be mo (v + 1) (.inl (w_i x22)) iv13 F17 mu27 (by omega) (by omega) (by omega) (by omega) (by omega) (by omega)  (by omega) (by omega) (by omega)
      · refine w_go (w_run k_872537 (w_inc (c := w_i (v + 1)) (fun _ => rfl) (i_addL (y := 1) rfl v) (fun _ => rfl) (w_go ?_)))
        exact ih h be mo (v + 1) (x5_) iv F mu (by omega) (by omega) (by omega) (by omega) (by omega) (by omega)  (by omega) (by omega) (by omega)
theorem k_872448 : m_cg 872448 = g_213_0 := rfl
theorem k_872461 : m_cg 872461 = g_213_13 := rfl
theorem c_mWorth {g : w_G} {o : w_O} {h : m_H} {d : Nat} {Q : Option m_V → m_H → Prop} (iv : w_Inv g o h) {what : Int} (what_lo : -2147483648 ≤ what) (what_hi : what ≤ 2147483647) (k0 : ∀ (ll : Nat), ∀ h2 : m_H, w_Inv g o h2 → w_fr o [54, 55, 56, 58, 59, 60] h h2 → Q (some (.inr (.inr (.inl ll)))) h2) : wp (d + 7) 872448 [.inr (.inl (some 31)), .inl (w_i what), .inr (.inr (.inl 0)), .inr (.inr (.inl 0)), .inr (.inr (.inl 0)), .inr (.inr (.inl 0))] [] h Q := by
  have F := fr_rf (o := o) (h := h) (W := [54, 55, 56, 58, 59, 60])
  have W := iv_wm iv
  refine w_run k_872448 (w_il (fun _ => rfl) (w_icI (x := 0) rfl (w_icI (x := 1) rfl ?_)))
  refine w_ca (fun _ => rfl) rfl (c_mIsIn (d := (d + 6)) iv (n := what) (ln := 0) (mn := 1) (by omega) (by omega) (by omega) (by omega) (by omega) (by omega)   (fun b1 b2 => ⟨_, rfl, ?_⟩) (fun b3 => ⟨_, rfl, ?_⟩))
  · refine w_nezt (by omega) (by omega) (by omega)  (w_run k_872461 (w_al (fun _ => rfl) ?_))
    obtain ⟨_, m4, spr4, kee4, rul4, tpd4, nxt4, tok4, tka4, val4, opn4, hm4, row4, ksp4, kke4, kru4, rfl, l4_spr, u4_spr, l4_kee, u4_kee, l4_rul, u4_rul, l4_tpd, u4_tpd, l4_nxt, u4_nxt, l4_tok, u4_tok, l4_tka, u4_tka, l4_val, u4_val, l4_opn, u4_opn, l4_hm, u4_hm, l4_row, u4_row, l4_ksp, u4_ksp, l4_kke, u4_kke, l4_kru, u4_kru, f4_0, f4_1, f4_2, f4_3, f4_4, f4_5, f4_6, f4_7, f4_8, f4_9⟩ := iv_31 iv
    refine w_this (fun _ => rfl) m4 ?_
    refine w_cv (fun _ => rfl) rfl (c_mFindCosts (d := d) iv     (fun h5 iv6 F7 b8 => ⟨rfl, ?_⟩))
    have F9 := fr_ca F F7 (fun t ht => by exact ht)
    refine w_icI (x := (-1)) wn_1 (w_is (fun _ => rfl) (w_icI (x := 0) rfl (w_is (fun _ => rfl) (w_icI (x := 0) rfl (w_is (fun _ => rfl) (w_nur k_872472 ?_))))))
    exact l_mWorth_24     what_lo what_hi     k0 (g_mN g - 0 + 1 : Int).toNat h5 (-1) 0 0 (.inr (.inr (.inl 0))) iv6 F9 b8 (by omega) (by omega) (by omega) (by omega) (by omega) (by omega)  (by omega) (by omega) (by omega)
  · refine w_nezf (by omega) (by omega) (by omega)  (w_lc (w_rl ?_))
    exact k0 _ h iv F
