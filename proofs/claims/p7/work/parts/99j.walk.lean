theorem k_798786 : m_cg 798786 = g_195_66 := rfl
theorem k_798815 : m_cg 798815 = g_195_95 := rfl
theorem k_798844 : m_cg 798844 = g_195_124 := rfl
theorem k_798875 : m_cg 798875 = g_195_155 := rfl
theorem l_mFindFrom_66 {g : w_G} {o : w_O} {h0 : m_H} {d : Nat} {Q : Option m_V → m_H → Prop} {tn : Int} (tn_lo : -2147483648 ≤ tn) (tn_hi : tn ≤ 2147483647) (t0_ : 0 ≤ tn) (t1_ : tn < g_mN g) {k_ : Int} {ii : Int} (k__lo : -2147483648 ≤ k_) (k__hi : k_ ≤ 2147483647) (ii_lo : -2147483648 ≤ ii) (ii_hi : ii ≤ 2147483647) (k0_ : 0 ≤ k_) (i0_ : 0 ≤ ii) (i1_ : ii < g_mH g) (k0 : ∀ (mny : Int), ∀ h2 : m_H, w_Inv g o h2 → w_fr o [57, 59] h0 h2 → -2147483648 ≤ mny → mny ≤ 2147483647 → 1 ≤ mny → mny ≤ g_mN g → w_MF g o h2 mny → w_mu g o h2 → Q (some (.inl (w_i mny))) h2) (kx : ∀ (x6_ : m_V), ∀ (mny t : Int), ∀ h2 : m_H, w_Inv g o h2 → w_fr o [57, 59] h0 h2 → w_mu g o h2 → w_MF g o h2 mny → -2147483648 ≤ mny → mny ≤ 2147483647 → -2147483648 ≤ t → t ≤ 2147483647 → k_ < mny → mny ≤ 4096 → wp (d + 2) 798881 [.inr (.inl (some 31)), .inl (w_i tn), .inl (w_i mny), .inl (w_i k_), .inl (w_i ii), .inl (w_i t), x6_] [] h2 Q) : ∀ (k : Nat) (h : m_H) (mny t : Int) (x6_ : m_V) (iv : w_Inv g o h) (F : w_fr o [57, 59] h0 h) (mu : w_mu g o h) (mf : w_MF g o h mny) (mny_lo : -2147483648 ≤ mny) (mny_hi : mny ≤ 2147483647) (t_lo : -2147483648 ≤ t) (t_hi : t ≤ 2147483647) (t0_ : 0 ≤ t) (t1_ : t ≤ g_mC g) (k1_ : k_ < mny) (m5_ : mny ≤ 4096), g_mC g - t < (k : Int) → wp (d + 2) 798786 [.inr (.inl (some 31)), .inl (w_i tn), .inl (w_i mny), .inl (w_i k_), .inl (w_i ii), .inl (w_i t), x6_] [] h Q := by
  intro k
  induction k with
  | zero => intro h mny t x6_ iv F mu mf mny_lo mny_hi t_lo t_hi t0_ t1_ k1_ m5_ hk; exact absurd hk (by omega)
  | succ k ih =>
    intro h mny t x6_ iv F mu mf mny_lo mny_hi t_lo t_hi t0_ t1_ k1_ m5_ hk
    have W := iv_wm iv
    obtain ⟨A, B, p57, p59, q1, q5, q2, q3, q4⟩ := (id mf)
    refine w_run k_798786 (w_il (fun _ => rfl) (w_al (fun _ => rfl) ?_))
    obtain ⟨_, m1, spr1, kee1, rul1, tpd1, nxt1, tok1, tka1, val1, opn1, hm1, row1, ksp1, kke1, kru1, rfl, l1_spr, u1_spr, l1_kee, u1_kee, l1_rul, u1_rul, l1_tpd, u1_tpd, l1_nxt, u1_nxt, l1_tok, u1_tok, l1_tka, u1_tka, l1_val, u1_val, l1_opn, u1_opn, l1_hm, u1_hm, l1_row, u1_row, l1_ksp, u1_ksp, l1_kke, u1_kke, l1_kru, u1_kru, f1_0, f1_1, f1_2, f1_3, f1_4, f1_5, f1_6, f1_7, f1_8, f1_9⟩ := iv_31 iv
    refine w_getf m1 rfl (fun _ => rfl) ?_
    refine w_ge2 (by omega) (by omega) (by omega) (by omega)  (fun c2 => ?_) (fun c2 => ?_)
    · exact kx (x6_) mny t h iv F mu mf (by omega) (by omega) (by omega) (by omega)  (by omega) (by omega) 
    · refine w_al (fun _ => rfl) (w_al (fun _ => rfl) (w_getf m1 rfl (fun _ => rfl) (w_il (fun _ => rfl) (w_aldI p59 (by omega) (by omega) (by omega) ?_))))
      obtain ⟨b3, b4⟩ := ag_rg B k_
      have e5 := q4 k_ (by omega) (by omega)
      refine w_il (fun _ => rfl) (w_il (fun _ => rfl) (w_this (fun _ => rfl) m1 ?_))
      refine w_ca (fun _ => rfl) rfl (c_mCostIn (d := d) iv (tn := (a_g B k_)) (ii := ii) (t := t) (by omega) (by omega) (by omega) (by omega) (by omega) (by omega) (by omega) (by omega) (by omega) (by omega) (by omega) mu (fun y6 b7 b8 b9 => ⟨_, rfl, ?_⟩))
      refine w_gez2 (by omega) (by omega)  (fun c10 => ?_) (fun c10 => ?_)
      · refine w_run k_798815 (w_al (fun _ => rfl) (w_al (fun _ => rfl) (w_getf m1 rfl (fun _ => rfl) (w_il (fun _ => rfl) (w_aldI p59 (by omega) (by omega) (by omega) ?_)))))
        obtain ⟨b11, b12⟩ := ag_rg B k_
        have e13 := q4 k_ (by omega) (by omega)
        refine w_il (fun _ => rfl) (w_il (fun _ => rfl) (w_this (fun _ => rfl) m1 ?_))
        refine w_ca (fun _ => rfl) rfl (c_mBehindStep (d := d) iv (tn := (a_g B k_)) (ii := ii) (t := t) (by omega) (by omega) (by omega) (by omega) (by omega) (by omega) (by omega) (by omega) (by omega) (by omega) (by omega) (by omega) mu (fun y14 b15 b16 b17 b18 b19 => ⟨_, rfl, ?_⟩))
        refine w_is (fun _ => rfl) (w_al (fun _ => rfl) (w_getf m1 rfl (fun _ => rfl) (w_il (fun _ => rfl) (w_aldI p57 (by omega) (by omega) (by omega) ?_))))
        obtain ⟨b20, b21⟩ := ag_rg A y14
        have e22 := q3 y14 (by omega) (by omega)
        refine w_ltz2 (by omega) (by omega)  (fun c23 => ?_) (fun c23 => ?_)
        · refine w_run k_798844 (w_al (fun _ => rfl) (w_getf m1 rfl (fun _ => rfl) (w_il (fun _ => rfl) (w_al (fun _ => rfl) (w_getf m1 rfl (fun _ => rfl) (w_al (fun _ => rfl) (w_getf m1 rfl (fun _ => rfl) (w_il (fun _ => rfl) (w_aldI p59 (by omega) (by omega) (by omega) ?_)))))))))
          obtain ⟨b24, b25⟩ := ag_rg B k_
          have e26 := q4 k_ (by omega) (by omega)
          refine w_aldI p57 (by omega) (by omega) (by omega) ?_
          obtain ⟨b27, b28⟩ := ag_rg A (a_g B k_)
          have e29 := q3 (a_g B k_) (by omega) (by omega)
          refine w_icI (x := 1) rfl (w_op (c := w_i ((a_g A (a_g B k_)) + 1)) (i_add (a_g A (a_g B k_)) 1) ?_)
          have hlt : w_cnt (-1) A (g_mN g).toNat < g_mN g := mf_lt (c := -1) (t := y14) (by omega) (by omega) (by omega) (by have := q3 y14 (by omega) (by omega); omega)
          refine w_astI p57 (by omega) (by omega) (by omega) (by omega) (by omega) (fun A33 h31 w34 s30 => ?_)
          have iv32 := is_57 iv s30 ⟨_, rfl⟩
          have F35 := fr_st F s30 (by rw [(ow_57 iv)]; rfl)
          refine w_al (fun _ => rfl) ?_
          have m36 := st_fr s30 m1 (by decide)
          refine w_getf m36 rfl (fun _ => rfl) (w_il (fun _ => rfl) (w_il (fun _ => rfl) ?_))
          have m37 := st_fr s30 p59 (by decide)
          refine w_astI m37 (by omega) (by omega) (by omega) (by omega) (by omega) (fun A41 h39 w42 s38 => ?_)
          have iv40 := is_59 iv32 s38 ⟨_, rfl⟩
          have F43 := fr_st F35 s38 (by rw [(ow_59 iv32)]; rfl)
          have m44 := st_fr s38 s30.2.2.1 (by decide)
          have mf1 : w_MF g o h39 (mny + 1) := mf_s (A := A) (B := B) (t := y14) (s := ((a_g A (a_g B k_)) + 1)) (by omega) q1 q2 q3 q4 (by omega) (by omega) (by omega) (by omega) (by omega) w34 w42 m44 s38.2.2.1
          refine w_inc (c := w_i (mny + 1)) (fun _ => rfl) (i_addL (y := 1) rfl mny) (fun _ => rfl) (w_inc (c := w_i (t + 1)) (fun _ => rfl) (i_addL (y := 1) rfl t) (fun _ => rfl) (w_go ?_))
          have mu45 := mu_fr iv mu (fr_st (W := [57]) fr_rf s30 (by rw [(ow_57 iv)]; rfl)) rfl
          have mu46 := mu_fr iv32 mu45 (fr_st (W := [59]) fr_rf s38 (by rw [(ow_59 iv32)]; rfl)) rfl
          exact ih h39 (mny + 1) (t + 1) (.inl (w_i y14)) iv40 F43 mu46 mf1 (by omega) (by omega) (by omega) (by omega)  (by omega) (by omega) (by omega) (by omega) (by omega)
        · refine w_go (w_run k_798875 (w_inc (c := w_i (t + 1)) (fun _ => rfl) (i_addL (y := 1) rfl t) (fun _ => rfl) (w_go ?_)))
          exact ih h mny (t + 1) (.inl (w_i y14)) iv F mu mf (by omega) (by omega) (by omega) (by omega)  (by omega) (by omega) (by omega) (by omega) (by omega)
      · refine w_go (w_run k_798875 (w_inc (c := w_i (t + 1)) (fun _ => rfl) (i_addL (y := 1) rfl t) (fun _ => rfl) (w_go ?_)))
        exact ih h mny (t + 1) (x6_) iv F mu mf (by omega) (by omega) (by omega) (by omega)  (by omega) (by omega) (by omega) (by omega) (by omega)
theorem k_798774 : m_cg 798774 = g_195_54 := rfl
theorem k_798881 : m_cg 798881 = g_195_161 := rfl
theorem l_mFindFrom_54 {g : w_G} {o : w_O} {h0 : m_H} {d : Nat} {Q : Option m_V → m_H → Prop} {tn : Int} (tn_lo : -2147483648 ≤ tn) (tn_hi : tn ≤ 2147483647) (t0_ : 0 ≤ tn) (t1_ : tn < g_mN g) {k_ : Int} (k__lo : -2147483648 ≤ k_) (k__hi : k_ ≤ 2147483647) (k0_ : 0 ≤ k_) (k0 : ∀ (mny : Int), ∀ h2 : m_H, w_Inv g o h2 → w_fr o [57, 59] h0 h2 → -2147483648 ≤ mny → mny ≤ 2147483647 → 1 ≤ mny → mny ≤ g_mN g → w_MF g o h2 mny → w_mu g o h2 → Q (some (.inl (w_i mny))) h2) (kx : ∀ (x5_ x6_ : m_V), ∀ (mny ii : Int), ∀ h2 : m_H, w_Inv g o h2 → w_fr o [57, 59] h0 h2 → w_mu g o h2 → w_MF g o h2 mny → -2147483648 ≤ mny → mny ≤ 2147483647 → -2147483648 ≤ ii → ii ≤ 2147483647 → k_ < mny → mny ≤ 4096 → wp (d + 2) 798887 [.inr (.inl (some 31)), .inl (w_i tn), .inl (w_i mny), .inl (w_i k_), .inl (w_i ii), x5_, x6_] [] h2 Q) : ∀ (k : Nat) (h : m_H) (mny ii : Int) (x5_ : m_V) (x6_ : m_V) (iv : w_Inv g o h) (F : w_fr o [57, 59] h0 h) (mu : w_mu g o h) (mf : w_MF g o h mny) (mny_lo : -2147483648 ≤ mny) (mny_hi : mny ≤ 2147483647) (ii_lo : -2147483648 ≤ ii) (ii_hi : ii ≤ 2147483647) (i0_ : 0 ≤ ii) (i1_ : ii ≤ g_mH g) (k1_ : k_ < mny) (m5_ : mny ≤ 4096), g_mH g - ii < (k : Int) → wp (d + 2) 798774 [.inr (.inl (some 31)), .inl (w_i tn), .inl (w_i mny), .inl (w_i k_), .inl (w_i ii), x5_, x6_] [] h Q := by
  intro k
  induction k with
  | zero => intro h mny ii x5_ x6_ iv F mu mf mny_lo mny_hi ii_lo ii_hi i0_ i1_ k1_ m5_ hk; exact absurd hk (by omega)
  | succ k ih =>
    intro h mny ii x5_ x6_ iv F mu mf mny_lo mny_hi ii_lo ii_hi i0_ i1_ k1_ m5_ hk
    have W := iv_wm iv
    refine w_run k_798774 (w_il (fun _ => rfl) (w_al (fun _ => rfl) ?_))
    obtain ⟨_, m1, spr1, kee1, rul1, tpd1, nxt1, tok1, tka1, val1, opn1, hm1, row1, ksp1, kke1, kru1, rfl, l1_spr, u1_spr, l1_kee, u1_kee, l1_rul, u1_rul, l1_tpd, u1_tpd, l1_nxt, u1_nxt, l1_tok, u1_tok, l1_tka, u1_tka, l1_val, u1_val, l1_opn, u1_opn, l1_hm, u1_hm, l1_row, u1_row, l1_ksp, u1_ksp, l1_kke, u1_kke, l1_kru, u1_kru, f1_0, f1_1, f1_2, f1_3, f1_4, f1_5, f1_6, f1_7, f1_8, f1_9⟩ := iv_31 iv
    refine w_getf m1 rfl (fun _ => rfl) ?_
    refine w_ge2 (by omega) (by omega) (by omega) (by omega)  (fun c2 => ?_) (fun c2 => ?_)
    · exact kx (x5_) (x6_) mny ii h iv F mu mf (by omega) (by omega) (by omega) (by omega)  (by omega) (by omega) 
    · refine w_icI (x := 0) rfl (w_is (fun _ => rfl) (w_nur k_798786 ?_))
      refine l_mFindFrom_66   (k_ := k_) (ii := ii)  tn_lo tn_hi t0_ t1_  (by omega) (by omega) (by omega) (by omega) (by omega) (by omega) (by omega) k0 (fun z5 mny3 t4 h6 iv7 F8 mu9 mf10 b11 b12 b13 b14 b15 b16 => ?_) (g_mC g - 0 + 1 : Int).toNat h mny 0 (x6_) iv F mu mf (by omega) (by omega) (by omega) (by omega)  (by omega) (by omega) (by omega) (by omega) (by omega)
      refine w_run k_798881 (w_inc (c := w_i (ii + 1)) (fun _ => rfl) (i_addL (y := 1) rfl ii) (fun _ => rfl) (w_go ?_))
      exact ih h6 mny3 (ii + 1) (.inl (w_i t4)) (z5) iv7 F8 mu9 mf10 (by omega) (by omega) (by omega) (by omega)  (by omega) (by omega) (by omega) (by omega) (by omega)
theorem k_798766 : m_cg 798766 = g_195_46 := rfl
theorem k_798893 : m_cg 798893 = g_195_173 := rfl
theorem k_798887 : m_cg 798887 = g_195_167 := rfl
theorem l_mFindFrom_46 {g : w_G} {o : w_O} {h0 : m_H} {d : Nat} {Q : Option m_V → m_H → Prop} {tn : Int} (tn_lo : -2147483648 ≤ tn) (tn_hi : tn ≤ 2147483647) (t0_ : 0 ≤ tn) (t1_ : tn < g_mN g) (k0 : ∀ (mny : Int), ∀ h2 : m_H, w_Inv g o h2 → w_fr o [57, 59] h0 h2 → -2147483648 ≤ mny → mny ≤ 2147483647 → 1 ≤ mny → mny ≤ g_mN g → w_MF g o h2 mny → w_mu g o h2 → Q (some (.inl (w_i mny))) h2) : ∀ (k : Nat) (h : m_H) (mny k_ : Int) (x4_ : m_V) (x5_ : m_V) (x6_ : m_V) (iv : w_Inv g o h) (F : w_fr o [57, 59] h0 h) (mu : w_mu g o h) (mf : w_MF g o h mny) (mny_lo : -2147483648 ≤ mny) (mny_hi : mny ≤ 2147483647) (k__lo : -2147483648 ≤ k_) (k__hi : k_ ≤ 2147483647) (k0_ : 0 ≤ k_) (k1_ : k_ ≤ mny) (m5_ : mny ≤ 4096), 4096 - k_ < (k : Int) → wp (d + 2) 798766 [.inr (.inl (some 31)), .inl (w_i tn), .inl (w_i mny), .inl (w_i k_), x4_, x5_, x6_] [] h Q := by
  intro k
  induction k with
  | zero => intro h mny k_ x4_ x5_ x6_ iv F mu mf mny_lo mny_hi k__lo k__hi k0_ k1_ m5_ hk; exact absurd hk (by omega)
  | succ k ih =>
    intro h mny k_ x4_ x5_ x6_ iv F mu mf mny_lo mny_hi k__lo k__hi k0_ k1_ m5_ hk
    have W := iv_wm iv
    obtain ⟨A, B, p57, p59, q1, q5, q2, q3, q4⟩ := (id mf)
    refine w_run k_798766 (w_il (fun _ => rfl) (w_il (fun _ => rfl) ?_))
    refine w_ge2 (by omega) (by omega) (by omega) (by omega)  (fun c1 => ?_) (fun c1 => ?_)
    · refine w_run k_798893 (w_il (fun _ => rfl) (w_ri ?_))
      exact k0 mny h iv F (by omega) (by omega) (by omega) (by omega) mf mu
    · refine w_icI (x := 0) rfl (w_is (fun _ => rfl) (w_nur k_798774 ?_))
      refine l_mFindFrom_54   (k_ := k_)  tn_lo tn_hi t0_ t1_  (by omega) (by omega) (by omega) k0 (fun z4 z5 mny2 ii3 h6 iv7 F8 mu9 mf10 b11 b12 b13 b14 b15 b16 => ?_) (g_mH g - 0 + 1 : Int).toNat h mny 0 (x5_) (x6_) iv F mu mf (by omega) (by omega) (by omega) (by omega)  (by omega) (by omega) (by omega) (by omega) (by omega)
      refine w_run k_798887 (w_inc (c := w_i (k_ + 1)) (fun _ => rfl) (i_addL (y := 1) rfl k_) (fun _ => rfl) (w_go ?_))
      exact ih h6 mny2 (k_ + 1) (.inl (w_i ii3)) (z4) (z5) iv7 F8 mu9 mf10 (by omega) (by omega) (by omega) (by omega)  (by omega) (by omega) (by omega) (by omega)
theorem k_798722 : m_cg 798722 = g_195_2 := rfl
theorem k_798748 : m_cg 798748 = g_195_28 := rfl
theorem l_mFindFrom_2 {g : w_G} {o : w_O} {h0 : m_H} {d : Nat} {Q : Option m_V → m_H → Prop} {tn : Int} (tn_lo : -2147483648 ≤ tn) (tn_hi : tn ≤ 2147483647) (t0_ : 0 ≤ tn) (t1_ : tn < g_mN g) (k0 : ∀ (mny : Int), ∀ h2 : m_H, w_Inv g o h2 → w_fr o [57, 59] h0 h2 → -2147483648 ≤ mny → mny ≤ 2147483647 → 1 ≤ mny → mny ≤ g_mN g → w_MF g o h2 mny → w_mu g o h2 → Q (some (.inl (w_i mny))) h2) : ∀ (k : Nat) (h : m_H) (v : Int) (iv : w_Inv g o h) (F : w_fr o [57, 59] h0 h) (mu : w_mu g o h) (ff : w_ff g o h v) (v_lo : -2147483648 ≤ v) (v_hi : v ≤ 2147483647) (v0_ : 0 ≤ v) (v1_ : v ≤ g_mN g), g_mN g - v < (k : Int) → wp (d + 2) 798722 [.inr (.inl (some 31)), .inl (w_i tn), .inl (w_i v), .inr (.inr (.inl 0)), .inr (.inr (.inl 0)), .inr (.inr (.inl 0)), .inr (.inr (.inl 0))] [] h Q := by
  intro k
  induction k with
  | zero => intro h v iv F mu ff v_lo v_hi v0_ v1_ hk; exact absurd hk (by omega)
  | succ k ih =>
    intro h v iv F mu ff v_lo v_hi v0_ v1_ hk
    have W := iv_wm iv
    obtain ⟨U, p56, hU⟩ := (id mu)
    have hUN : a_g U (g_mH g) = g_mN g := (hU _ (by omega) (by omega) (by omega)).trans (iv_mN iv).symm
    obtain ⟨A, p57, hF⟩ := (id ff)
    refine w_run k_798722 (w_il (fun _ => rfl) (w_al (fun _ => rfl) ?_))
    obtain ⟨_, m1, spr1, kee1, rul1, tpd1, nxt1, tok1, tka1, val1, opn1, hm1, row1, ksp1, kke1, kru1, rfl, l1_spr, u1_spr, l1_kee, u1_kee, l1_rul, u1_rul, l1_tpd, u1_tpd, l1_nxt, u1_nxt, l1_tok, u1_tok, l1_tka, u1_tka, l1_val, u1_val, l1_opn, u1_opn, l1_hm, u1_hm, l1_row, u1_row, l1_ksp, u1_ksp, l1_kke, u1_kke, l1_kru, u1_kru, f1_0, f1_1, f1_2, f1_3, f1_4, f1_5, f1_6, f1_7, f1_8, f1_9⟩ := iv_31 iv
    refine w_getf m1 rfl (fun _ => rfl) (w_al (fun _ => rfl) (w_getf m1 rfl (fun _ => rfl) (w_aldI p56 (by omega) (by omega) (by omega) ?_)))
    obtain ⟨b2, b3⟩ := ag_rg U (g_mH g)
    have e4 := hU (g_mH g) (by omega) (by omega)
    refine w_ge2 (by omega) (by omega) (by omega) (by omega)  (fun c5 => ?_) (fun c5 => ?_)
    · refine w_run k_798748 (w_al (fun _ => rfl) (w_getf m1 rfl (fun _ => rfl) (w_il (fun _ => rfl) (w_icI (x := 0) rfl (w_astI p57 (by omega) (by omega) (by omega) (by omega) (by omega) (fun A9 h7 w10 s6 => ?_))))))
      have iv8 := is_57 iv s6 ⟨_, rfl⟩
      have F11 := fr_st F s6 (by rw [(ow_57 iv)]; rfl)
      refine w_al (fun _ => rfl) ?_
      have m12 := st_fr s6 m1 (by decide)
      refine w_getf m12 rfl (fun _ => rfl) (w_icI (x := 0) rfl (w_il (fun _ => rfl) ?_))
      obtain ⟨_, m13, A13, rfl⟩ := iv_59 iv8
      refine w_astI m13 (by omega) (by omega) (by omega) (by omega) (by omega) (fun A17 h15 w18 s14 => ?_)
      have iv16 := is_59 iv8 s14 ⟨_, rfl⟩
      have F19 := fr_st F11 s14 (by rw [(ow_59 iv8)]; rfl)
      have m20 := st_fr s14 s6.2.2.1 (by decide)
      have mf0 : w_MF g o h15 1 := mf_0 (A := A) (t := tn) (by omega) (fun j j0 j1 => hF j j0 (by omega)) (by omega) (by omega) w10 m20 s14.2.2.1 (by rw [w18 0 (by omega) (by omega)]; exact if_pos rfl)
      refine w_icI (x := 1) rfl (w_is (fun _ => rfl) (w_icI (x := 0) rfl (w_is (fun _ => rfl) (w_nur k_798766 ?_))))
      have mu21 := mu_fr iv mu (fr_st (W := [57]) fr_rf s6 (by rw [(ow_57 iv)]; rfl)) rfl
      have mu22 := mu_fr iv8 mu21 (fr_st (W := [59]) fr_rf s14 (by rw [(ow_59 iv8)]; rfl)) rfl
      exact l_mFindFrom_46     tn_lo tn_hi t0_ t1_    k0 (4096 - 0 + 1 : Int).toNat h15 1 0 (.inr (.inr (.inl 0))) (.inr (.inr (.inl 0))) (.inr (.inr (.inl 0))) iv16 F19 mu22 mf0 (by omega) (by omega) (by omega) (by omega)  (by omega) (by omega) (by omega) (by omega)
    · refine w_al (fun _ => rfl) (w_getf m1 rfl (fun _ => rfl) (w_il (fun _ => rfl) (w_icI (x := (-1)) wn_1 (w_astI p57 (by omega) (by omega) (by omega) (by omega) (by omega) (fun A26 h24 w27 s23 => ?_)))))
      have iv25 := is_57 iv s23 ⟨_, rfl⟩
      have F28 := fr_st F s23 (by rw [(ow_57 iv)]; rfl)
      have ff1 : w_ff g o h24 (v + 1) := ⟨_, s23.2.2.1, fun j j0 j1 => by rw [w27 j j0 (by omega)]; exact (if hj : j = v then if_pos hj else (if_neg hj).trans (hF j j0 (by omega)))⟩
      refine w_inc (c := w_i (v + 1)) (fun _ => rfl) (i_addL (y := 1) rfl v) (fun _ => rfl) (w_go ?_)
      have mu29 := mu_fr iv mu (fr_st (W := [57]) fr_rf s23 (by rw [(ow_57 iv)]; rfl)) rfl
      exact ih h24 (v + 1) iv25 F28 mu29 ff1 (by omega) (by omega)  (by omega) (by omega) (by omega)
theorem k_798720 : m_cg 798720 = g_195_0 := rfl
theorem c_mFindFrom {g : w_G} {o : w_O} {h : m_H} {d : Nat} {Q : Option m_V → m_H → Prop} (iv : w_Inv g o h) {tn : Int} (tn_lo : -2147483648 ≤ tn) (tn_hi : tn ≤ 2147483647) (t0_ : 0 ≤ tn) (t1_ : tn < g_mN g) (mu : w_mu g o h) (k0 : ∀ (mny : Int), ∀ h2 : m_H, w_Inv g o h2 → w_fr o [57, 59] h h2 → -2147483648 ≤ mny → mny ≤ 2147483647 → 1 ≤ mny → mny ≤ g_mN g → w_MF g o h2 mny → w_mu g o h2 → Q (some (.inl (w_i mny))) h2) : wp (d + 2) 798720 [.inr (.inl (some 31)), .inl (w_i tn), .inr (.inr (.inl 0)), .inr (.inr (.inl 0)), .inr (.inr (.inl 0)), .inr (.inr (.inl 0)), .inr (.inr (.inl 0))] [] h Q := by
  have F := fr_rf (o := o) (h := h) (W := [57, 59])
  have W := iv_wm iv
  have ff0 : w_ff g o h 0 := by obtain ⟨_, p57, A, rfl⟩ := iv_57 iv; exact ⟨A, p57, fun j j0 j1 => absurd j1 (by omega)⟩
  refine w_run k_798720 (w_icI (x := 0) rfl (w_is (fun _ => rfl) (w_nur k_798722 ?_)))
  exact l_mFindFrom_2     tn_lo tn_hi t0_ t1_    k0 (g_mN g - 0 + 1 : Int).toNat h 0 iv F mu ff0 (by omega) (by omega)  (by omega) (by omega) (by omega)
theorem k_802816 : m_cg 802816 = g_196_0 := rfl
theorem c_mFindNow {g : w_G} {o : w_O} {h : m_H} {d : Nat} {Q : Option m_V → m_H → Prop} (iv : w_Inv g o h) (k0 : ∀ (mny : Int), ∀ h2 : m_H, w_Inv g o h2 → w_fr o [54, 55, 56, 57, 59] h h2 → -2147483648 ≤ mny → mny ≤ 2147483647 → 1 ≤ mny → mny ≤ g_mN g → w_MF g o h2 mny → w_mu g o h2 → Q (some (.inl (w_i mny))) h2) : wp (d + 6) 802816 [.inr (.inl (some 31))] [] h Q := by
  have F := fr_rf (o := o) (h := h) (W := [54, 55, 56, 57, 59])
  have W := iv_wm iv
  refine w_run k_802816 (w_al (fun _ => rfl) ?_)
  obtain ⟨_, m1, spr1, kee1, rul1, tpd1, nxt1, tok1, tka1, val1, opn1, hm1, row1, ksp1, kke1, kru1, rfl, l1_spr, u1_spr, l1_kee, u1_kee, l1_rul, u1_rul, l1_tpd, u1_tpd, l1_nxt, u1_nxt, l1_tok, u1_tok, l1_tka, u1_tka, l1_val, u1_val, l1_opn, u1_opn, l1_hm, u1_hm, l1_row, u1_row, l1_ksp, u1_ksp, l1_kke, u1_kke, l1_kru, u1_kru, f1_0, f1_1, f1_2, f1_3, f1_4, f1_5, f1_6, f1_7, f1_8, f1_9⟩ := iv_31 iv
  refine w_this (fun _ => rfl) m1 ?_
  refine w_cv (fun _ => rfl) rfl (c_mFinds (d := d) iv     (fun h2 iv3 F4 b5 => ⟨rfl, ?_⟩))
  have F6 := fr_ca F F4 (fun t ht => by simp at ht ⊢; omega)
  refine w_al (fun _ => rfl) (w_al (fun _ => rfl) ?_)
  have m7 := fr_at F4 m1 iv (ow_31 iv) rfl rfl
  refine w_this (fun _ => rfl) m7 ?_
  refine w_ca (fun _ => rfl) rfl (c_mTownNow (d := (d + 5)) iv3     (fun y8 b9 b10 b11 b12 => ⟨_, rfl, ?_⟩))
  refine w_this (fun _ => rfl) m7 ?_
  refine w_ca (fun _ => rfl) rfl (c_mFindFrom (d := (d + 3)) iv3 (tn := y8) (by omega) (by omega) (by omega) (by omega) b5 (fun y13 h14 iv15 F16 b17 b18 b19 b20 b21 b22 => ⟨_, rfl, ?_⟩))
  have F23 := fr_ca F6 F16 (fun t ht => by simp at ht ⊢; omega)
  refine w_ri ?_
  exact k0 y13 h14 iv15 F23 (by omega) (by omega) (by omega) (by omega) b21 b22
theorem k_806930 : m_cg 806930 = g_197_18 := rfl
theorem k_806966 : m_cg 806966 = g_197_54 := rfl
theorem k_806967 : m_cg 806967 = g_197_55 := rfl
theorem l_mFrozen_18 {g : w_G} {o : w_O} {h : m_H} {d : Nat} {Q : Option m_V → m_H → Prop} (iv : w_Inv g o h) {mny : Int} (mny_lo : -2147483648 ≤ mny) (mny_hi : mny ≤ 2147483647) {st : Int} {ho : Int} (st_lo : -2147483648 ≤ st) (st_hi : st ≤ 2147483647) (ho_lo : -2147483648 ≤ ho) (ho_hi : ho ≤ 2147483647) (h0_ : 0 ≤ ho) (h1_ : ho < g_mH g) (k0 : ∀ (x : Int), -2147483648 ≤ x → x ≤ 2147483647 → Q (some (.inl (w_i x))) h) (kx : ∀ (is_ k_ : Int), w_mu g o h → w_MF g o h mny → -2147483648 ≤ is_ → is_ ≤ 2147483647 → -2147483648 ≤ k_ → k_ ≤ 2147483647 → wp (d + 1) 806975 [.inr (.inl (some 31)), .inl (w_i mny), .inl (w_i st), .inl (w_i ho), .inl (w_i is_), .inl (w_i k_)] [] h Q) : ∀ (k : Nat) (is_ k_ : Int) (mu : w_mu g o h) (mf : w_MF g o h mny) (is__lo : -2147483648 ≤ is_) (is__hi : is_ ≤ 2147483647) (k__lo : -2147483648 ≤ k_) (k__hi : k_ ≤ 2147483647) (k0_ : 0 ≤ k_) (k1_ : k_ ≤ mny) (m5_ : mny ≤ 4096), mny - k_ < (k : Int) → wp (d + 1) 806930 [.inr (.inl (some 31)), .inl (w_i mny), .inl (w_i st), .inl (w_i ho), .inl (w_i is_), .inl (w_i k_)] [] h Q := by
  intro k
  induction k with
  | zero => intro is_ k_ mu mf is__lo is__hi k__lo k__hi k0_ k1_ m5_ hk; exact absurd hk (by omega)
  | succ k ih =>
    intro is_ k_ mu mf is__lo is__hi k__lo k__hi k0_ k1_ m5_ hk
    have W := iv_wm iv
    obtain ⟨A, B, p57, p59, q1, q5, q2, q3, q4⟩ := (id mf)
    refine w_run k_806930 (w_il (fun _ => rfl) (w_il (fun _ => rfl) ?_))
    refine w_ge2 (by omega) (by omega) (by omega) (by omega)  (fun c1 => ?_) (fun c1 => ?_)
    · exact kx is_ k_ mu mf (by omega) (by omega) (by omega) (by omega)  
    · refine w_il (fun _ => rfl) ?_
      refine w_eqz2 (by omega) (by omega)  (fun c2 => ?_) (fun c2 => ?_)
      · refine w_run k_806966 (w_icI (x := 0) rfl (w_is (fun _ => rfl) (w_inc (c := w_i (k_ + 1)) (fun _ => rfl) (i_addL (y := 1) rfl k_) (fun _ => rfl) (w_go ?_))))
        exact ih 0 (k_ + 1) mu mf (by omega) (by omega) (by omega) (by omega)  (by omega) (by omega) (by omega) (by omega)
      · refine w_al (fun _ => rfl) (w_al (fun _ => rfl) ?_)
        obtain ⟨_, m3, spr3, kee3, rul3, tpd3, nxt3, tok3, tka3, val3, opn3, hm3, row3, ksp3, kke3, kru3, rfl, l3_spr, u3_spr, l3_kee, u3_kee, l3_rul, u3_rul, l3_tpd, u3_tpd, l3_nxt, u3_nxt, l3_tok, u3_tok, l3_tka, u3_tka, l3_val, u3_val, l3_opn, u3_opn, l3_hm, u3_hm, l3_row, u3_row, l3_ksp, u3_ksp, l3_kke, u3_kke, l3_kru, u3_kru, f3_0, f3_1, f3_2, f3_3, f3_4, f3_5, f3_6, f3_7, f3_8, f3_9⟩ := iv_31 iv
        refine w_getf m3 rfl (fun _ => rfl) (w_il (fun _ => rfl) (w_aldI p59 (by omega) (by omega) (by omega) ?_))
        obtain ⟨b4, b5⟩ := ag_rg B k_
        have e6 := q4 k_ (by omega) (by omega)
        refine w_il (fun _ => rfl) (w_this (fun _ => rfl) m3 ?_)
        refine w_ca (fun _ => rfl) rfl (c_mColourX (d := d) iv (tn := (a_g B k_)) (ii := ho) (by omega) (by omega) (by omega) (by omega) (by omega) (by omega) (by omega) mu (fun y7 b8 b9 b10 b11 b12 => ⟨_, rfl, ?_⟩))
        refine w_al (fun _ => rfl) (w_getf m3 rfl (fun _ => rfl) (w_il (fun _ => rfl) ?_))
        obtain ⟨_, m13, A13, rfl, e13⟩ := iv_33 iv
        refine w_aldI m13 (by omega) (by omega) (by omega) ?_
        obtain ⟨b14, b15⟩ := ag_rg A13 ho
        have e16 := e13 ho (by omega) (by omega)
        refine w_ne2 (by omega) (by omega) (by omega) (by omega)  (fun c17 => ?_) (fun c17 => ?_)
        · refine w_run k_806966 (w_icI (x := 0) rfl (w_is (fun _ => rfl) (w_inc (c := w_i (k_ + 1)) (fun _ => rfl) (i_addL (y := 1) rfl k_) (fun _ => rfl) (w_go ?_))))
          exact ih 0 (k_ + 1) mu mf (by omega) (by omega) (by omega) (by omega)  (by omega) (by omega) (by omega) (by omega)
        · refine w_icI (x := 1) rfl (w_go (w_run k_806967 (w_is (fun _ => rfl) (w_inc (c := w_i (k_ + 1)) (fun _ => rfl) (i_addL (y := 1) rfl k_) (fun _ => rfl) (w_go ?_)))))
          exact ih 1 (k_ + 1) mu mf (by omega) (by omega) (by omega) (by omega)  (by omega) (by omega) (by omega) (by omega)
theorem k_806916 : m_cg 806916 = g_197_4 := rfl
theorem k_806996 : m_cg 806996 = g_197_84 := rfl
theorem k_806975 : m_cg 806975 = g_197_63 := rfl
theorem k_806987 : m_cg 806987 = g_197_75 := rfl
theorem k_806988 : m_cg 806988 = g_197_76 := rfl
theorem l_mFrozen_4 {g : w_G} {o : w_O} {h : m_H} {d : Nat} {Q : Option m_V → m_H → Prop} (iv : w_Inv g o h) {mny : Int} (mny_lo : -2147483648 ≤ mny) (mny_hi : mny ≤ 2147483647) (k0 : ∀ (x : Int), -2147483648 ≤ x → x ≤ 2147483647 → Q (some (.inl (w_i x))) h) : ∀ (k : Nat) (st ho : Int) (x4_ : m_V) (x5_ : m_V) (mu : w_mu g o h) (mf : w_MF g o h mny) (st_lo : -2147483648 ≤ st) (st_hi : st ≤ 2147483647) (ho_lo : -2147483648 ≤ ho) (ho_hi : ho ≤ 2147483647) (h0_ : 0 ≤ ho) (h1_ : ho ≤ g_mH g), g_mH g - ho < (k : Int) → wp (d + 1) 806916 [.inr (.inl (some 31)), .inl (w_i mny), .inl (w_i st), .inl (w_i ho), x4_, x5_] [] h Q := by
  intro k
  induction k with
  | zero => intro st ho x4_ x5_ mu mf st_lo st_hi ho_lo ho_hi h0_ h1_ hk; exact absurd hk (by omega)
  | succ k ih =>
    intro st ho x4_ x5_ mu mf st_lo st_hi ho_lo ho_hi h0_ h1_ hk
    have W := iv_wm iv
    obtain ⟨A, B, p57, p59, q1, q5, q2, q3, q4⟩ := (id mf)
    refine w_run k_806916 (w_il (fun _ => rfl) (w_al (fun _ => rfl) ?_))
    obtain ⟨_, m1, spr1, kee1, rul1, tpd1, nxt1, tok1, tka1, val1, opn1, hm1, row1, ksp1, kke1, kru1, rfl, l1_spr, u1_spr, l1_kee, u1_kee, l1_rul, u1_rul, l1_tpd, u1_tpd, l1_nxt, u1_nxt, l1_tok, u1_tok, l1_tka, u1_tka, l1_val, u1_val, l1_opn, u1_opn, l1_hm, u1_hm, l1_row, u1_row, l1_ksp, u1_ksp, l1_kke, u1_kke, l1_kru, u1_kru, f1_0, f1_1, f1_2, f1_3, f1_4, f1_5, f1_6, f1_7, f1_8, f1_9⟩ := iv_31 iv
    refine w_getf m1 rfl (fun _ => rfl) ?_
    refine w_ge2 (by omega) (by omega) (by omega) (by omega)  (fun c2 => ?_) (fun c2 => ?_)
    · refine w_run k_806996 (w_il (fun _ => rfl) (w_ri ?_))
      exact k0 st (by omega) (by omega)
    · refine w_icI (x := 1) rfl (w_is (fun _ => rfl) (w_icI (x := 0) rfl (w_is (fun _ => rfl) (w_nur k_806930 ?_))))
      refine l_mFrozen_18 iv  (st := st) (ho := ho)  mny_lo mny_hi   (by omega) (by omega) (by omega) (by omega) (by omega) (by omega) k0 (fun is_3 k_4 mu5 mf6 b7 b8 b9 b10 => ?_) (mny - 0 + 1 : Int).toNat 1 0 mu mf (by omega) (by omega) (by omega) (by omega)  (by omega) (by omega) (by omega) (by omega)
      refine w_run k_806975 (w_il (fun _ => rfl) (w_il (fun _ => rfl) ?_))
      refine w_eqz2 (by omega) (by omega)  (fun c11 => ?_) (fun c11 => ?_)
      · refine w_run k_806987 (w_icI (x := 0) rfl (w_opR or_lt (fun x12 x120 x121 x12e => ?_)))
        refine w_is (fun _ => rfl) (w_inc (c := w_i (ho + 1)) (fun _ => rfl) (i_addL (y := 1) rfl ho) (fun _ => rfl) (w_go ?_))
        exact ih x12 (ho + 1) (.inl (w_i is_3)) (.inl (w_i k_4)) mu5 mf6 (by omega) (by omega) (by omega) (by omega)  (by omega) (by omega) (by omega)
      · refine w_icI (x := 1) rfl (w_il (fun _ => rfl) (w_opR shl_lt (fun x13 x130 x131 x13e => ?_)))
        refine w_go (w_run k_806988 (w_opR or_lt (fun x14 x140 x141 x14e => ?_)))
        refine w_is (fun _ => rfl) (w_inc (c := w_i (ho + 1)) (fun _ => rfl) (i_addL (y := 1) rfl ho) (fun _ => rfl) (w_go ?_))
        exact ih x14 (ho + 1) (.inl (w_i is_3)) (.inl (w_i k_4)) mu5 mf6 (by omega) (by omega) (by omega) (by omega)  (by omega) (by omega) (by omega)
theorem k_806912 : m_cg 806912 = g_197_0 := rfl
theorem c_mFrozen {g : w_G} {o : w_O} {h : m_H} {d : Nat} {Q : Option m_V → m_H → Prop} (iv : w_Inv g o h) {mny : Int} (mny_lo : -2147483648 ≤ mny) (mny_hi : mny ≤ 2147483647) (mu : w_mu g o h) (mf : w_MF g o h mny) (k0 : ∀ (x : Int), -2147483648 ≤ x → x ≤ 2147483647 → Q (some (.inl (w_i x))) h) : wp (d + 1) 806912 [.inr (.inl (some 31)), .inl (w_i mny), .inr (.inr (.inl 0)), .inr (.inr (.inl 0)), .inr (.inr (.inl 0)), .inr (.inr (.inl 0))] [] h Q := by
  have W := iv_wm iv
  refine w_run k_806912 (w_icI (x := 0) rfl (w_is (fun _ => rfl) (w_icI (x := 0) rfl (w_is (fun _ => rfl) (w_nur k_806916 ?_)))))
  exact l_mFrozen_4 iv    mny_lo mny_hi     k0 (g_mH g - 0 + 1 : Int).toNat 0 0 (.inr (.inr (.inl 0))) (.inr (.inr (.inl 0))) mu mf (by omega) (by omega) (by omega) (by omega)  (by omega) (by omega) (by omega)
theorem k_815200 : m_cg 815200 = g_199_96 := rfl
theorem k_815320 : m_cg 815320 = g_199_216 := rfl
theorem k_815271 : m_cg 815271 = g_199_167 := rfl
theorem k_815301 : m_cg 815301 = g_199_197 := rfl
theorem l_mParts_96 {g : w_G} {o : w_O} {h0 : m_H} {d : Nat} {Q : Option m_V → m_H → Prop} {n : Int} {v : Int} {k_ : Int} (n_lo : -2147483648 ≤ n) (n_hi : n ≤ 2147483647) (v_lo : -2147483648 ≤ v) (v_hi : v ≤ 2147483647) (k__lo : -2147483648 ≤ k_) (k__hi : k_ ≤ 2147483647) (n0_ : 1 ≤ n) (v0_ : 0 ≤ v) (v1_ : v < g_mN g) (k0_ : 0 ≤ k_) (k0 : ∀ (x : Int), ∀ h2 : m_H, w_Inv g o h2 → w_fr o [59, 60] h0 h2 → -2147483648 ≤ x → x ≤ 2147483647 → Q (some (.inl (w_i x))) h2) (kx : ∀ (x6_ x7_ x8_ : m_V), ∀ (mny s_ : Int), ∀ h2 : m_H, w_Inv g o h2 → w_fr o [59, 60] h0 h2 → w_mu g o h2 → w_MP g o h2 mny → -2147483648 ≤ mny → mny ≤ 2147483647 → -2147483648 ≤ s_ → s_ ≤ 2147483647 → k_ < mny → mny ≤ 4096 → wp (d + 3) 815326 [.inr (.inl (some 31)), .inl (w_i n), .inl (w_i v), .inl (w_i mny), .inl (w_i k_), .inl (w_i s_), x6_, x7_, x8_] [] h2 Q) : ∀ (k : Nat) (h : m_H) (mny s_ : Int) (x6_ : m_V) (x7_ : m_V) (x8_ : m_V) (iv : w_Inv g o h) (F : w_fr o [59, 60] h0 h) (mu : w_mu g o h) (mp : w_MP g o h mny) (mny_lo : -2147483648 ≤ mny) (mny_hi : mny ≤ 2147483647) (s__lo : -2147483648 ≤ s_) (s__hi : s_ ≤ 2147483647) (s0_ : 0 ≤ s_) (s1_ : s_ ≤ 30) (k1_ : k_ < mny) (m5_ : mny ≤ 4096), 30 - s_ < (k : Int) → wp (d + 3) 815200 [.inr (.inl (some 31)), .inl (w_i n), .inl (w_i v), .inl (w_i mny), .inl (w_i k_), .inl (w_i s_), x6_, x7_, x8_] [] h Q := by
  intro k
  induction k with
  | zero => intro h mny s_ x6_ x7_ x8_ iv F mu mp mny_lo mny_hi s__lo s__hi s0_ s1_ k1_ m5_ hk; exact absurd hk (by omega)
  | succ k ih =>
    intro h mny s_ x6_ x7_ x8_ iv F mu mp mny_lo mny_hi s__lo s__hi s0_ s1_ k1_ m5_ hk
    have W := iv_wm iv
    obtain ⟨A, B, p60, p59, q1, q5, q2, q3, q4⟩ := (id mp)
    refine w_run k_815200 (w_il (fun _ => rfl) (w_al (fun _ => rfl) ?_))
    obtain ⟨_, m1, spr1, kee1, rul1, tpd1, nxt1, tok1, tka1, val1, opn1, hm1, row1, ksp1, kke1, kru1, rfl, l1_spr, u1_spr, l1_kee, u1_kee, l1_rul, u1_rul, l1_tpd, u1_tpd, l1_nxt, u1_nxt, l1_tok, u1_tok, l1_tka, u1_tka, l1_val, u1_val, l1_opn, u1_opn, l1_hm, u1_hm, l1_row, u1_row, l1_ksp, u1_ksp, l1_kke, u1_kke, l1_kru, u1_kru, f1_0, f1_1, f1_2, f1_3, f1_4, f1_5, f1_6, f1_7, f1_8, f1_9⟩ := iv_31 iv
    refine w_getf m1 rfl (fun _ => rfl) (w_al (fun _ => rfl) (w_getf m1 rfl (fun _ => rfl) ?_))
    have hm := mul_rg (a := g_mH g) (b := g_mC g) (x := 6) (y := 5) (by omega) (by omega) (by omega) (by omega)
    refine w_op (c := w_i (g_mH g * g_mC g)) (i_mul (g_mH g) (g_mC g)) ?_
    refine w_ge2 (by omega) (by omega) (by omega) (by omega)  (fun c2 => ?_) (fun c2 => ?_)
    · exact kx (x6_) (x7_) (x8_) mny s_ h iv F mu mp (by omega) (by omega) (by omega) (by omega)  (by omega) (by omega) 
    · refine w_il (fun _ => rfl) (w_al (fun _ => rfl) (w_getf m1 rfl (fun _ => rfl) ?_))
      have hdv : s_ / g_mC g < g_mH g := Int.ediv_lt_of_lt_mul (by omega) (by omega)
      refine w_opz (c := w_i (s_ / g_mC g)) (beq0 (by omega) (by omega) (by omega)) (i_div (by omega) (by omega) (by omega) (by omega)) ?_
      have b3 : 0 ≤ (s_ / g_mC g) ∧ (s_ / g_mC g) ≤ s_ := ⟨Int.ediv_nonneg (by omega) (by omega), Int.ediv_le_self _ (by omega)⟩
      refine w_is (fun _ => rfl) (w_il (fun _ => rfl) (w_al (fun _ => rfl) (w_getf m1 rfl (fun _ => rfl) (w_opz (c := w_i (s_ % g_mC g)) (beq0 (by omega) (by omega) (by omega)) (i_rem (by omega) (by omega) (by omega) (by omega)) ?_))))
      have b4 : 0 ≤ (s_ % g_mC g) ∧ (s_ % g_mC g) < g_mC g := ⟨Int.emod_nonneg _ (by omega), Int.emod_lt_of_pos _ (by omega)⟩
      refine w_is (fun _ => rfl) (w_al (fun _ => rfl) (w_al (fun _ => rfl) (w_getf m1 rfl (fun _ => rfl) (w_il (fun _ => rfl) (w_aldI p59 (by omega) (by omega) (by omega) ?_)))))
      obtain ⟨b5, b6⟩ := ag_rg B k_
      have e7 := q4 k_ (by omega) (by omega)
      refine w_il (fun _ => rfl) (w_this (fun _ => rfl) m1 ?_)
      refine w_ca (fun _ => rfl) rfl (c_mColourX (d := (d + 2)) iv (tn := (a_g B k_)) (ii := (s_ / g_mC g)) (by omega) (by omega) (by omega) (by omega) (by omega) (by omega) (by omega) mu (fun y8 b9 b10 b11 b12 b13 => ⟨_, rfl, ?_⟩))
      refine w_il (fun _ => rfl) ?_
      refine w_eq2 (by omega) (by omega) (by omega) (by omega)  (fun c14 => ?_) (fun c14 => ?_)
      · refine w_run k_815320 (w_inc (c := w_i (s_ + 1)) (fun _ => rfl) (i_addL (y := 1) rfl s_) (fun _ => rfl) (w_go ?_))
        exact ih h mny (s_ + 1) (.inl (w_i (s_ / g_mC g))) (.inl (w_i (s_ % g_mC g))) (x8_) iv F mu mp (by omega) (by omega) (by omega) (by omega)  (by omega) (by omega) (by omega) (by omega) (by omega)
      · refine w_al (fun _ => rfl) (w_al (fun _ => rfl) (w_getf m1 rfl (fun _ => rfl) (w_il (fun _ => rfl) (w_aldI p59 (by omega) (by omega) (by omega) ?_))))
        obtain ⟨b15, b16⟩ := ag_rg B k_
        have e17 := q4 k_ (by omega) (by omega)
        refine w_il (fun _ => rfl) (w_il (fun _ => rfl) (w_this (fun _ => rfl) m1 ?_))
        refine w_ca (fun _ => rfl) rfl (c_mIsBothWays (d := d) iv (tn := (a_g B k_)) (ii := (s_ / g_mC g)) (t := (s_ % g_mC g)) (by omega) (by omega) (by omega) (by omega) (by omega) (by omega) (by omega) (by omega) (by omega) (by omega) (by omega) (by omega) mu ⟨_, rfl, ?_⟩ ⟨_, rfl, ?_⟩)
        · refine w_nezt (by omega) (by omega) (by omega)  (w_run k_815271 (w_al (fun _ => rfl) (w_al (fun _ => rfl) (w_getf m1 rfl (fun _ => rfl) (w_il (fun _ => rfl) (w_aldI p59 (by omega) (by omega) (by omega) ?_))))))
          obtain ⟨b18, b19⟩ := ag_rg B k_
          have e20 := q4 k_ (by omega) (by omega)
          refine w_il (fun _ => rfl) (w_il (fun _ => rfl) (w_this (fun _ => rfl) m1 ?_))
          refine w_ca (fun _ => rfl) rfl (c_mBehindStep (d := (d + 1)) iv (tn := (a_g B k_)) (ii := (s_ / g_mC g)) (t := (s_ % g_mC g)) (by omega) (by omega) (by omega) (by omega) (by omega) (by omega) (by omega) (by omega) (by omega) (by omega) (by omega) (by omega) mu (fun y21 b22 b23 b24 b25 b26 => ⟨_, rfl, ?_⟩))
          refine w_is (fun _ => rfl) (w_al (fun _ => rfl) (w_getf m1 rfl (fun _ => rfl) (w_il (fun _ => rfl) (w_aldI p60 (by omega) (by omega) (by omega) ?_))))
          obtain ⟨b27, b28⟩ := ag_rg A y21
          have e29 := q3 y21 (by omega) (by omega)
          refine w_lez2 (by omega) (by omega)  (fun c30 => ?_) (fun c30 => ?_)
          · refine w_run k_815301 (w_al (fun _ => rfl) (w_getf m1 rfl (fun _ => rfl) (w_il (fun _ => rfl) (w_il (fun _ => rfl) ?_))))
            have hlt : w_cnt 0 A (g_mN g).toNat < g_mN g := mf_lt (c := 0) (t := y21) (by omega) (by omega) (by omega) (by have := q3 y21 (by omega) (by omega); omega)
            refine w_astI p60 (by omega) (by omega) (by omega) (by omega) (by omega) (fun A34 h32 w35 s31 => ?_)
            have iv33 := is_60 iv s31 ⟨_, rfl⟩
            have F36 := fr_st F s31 (by rw [(ow_60 iv)]; rfl)
            refine w_al (fun _ => rfl) ?_
            have m37 := st_fr s31 m1 (by decide)
            refine w_getf m37 rfl (fun _ => rfl) (w_il (fun _ => rfl) (w_il (fun _ => rfl) ?_))
            have m38 := st_fr s31 p59 (by decide)
            refine w_astI m38 (by omega) (by omega) (by omega) (by omega) (by omega) (fun A42 h40 w43 s39 => ?_)
            have iv41 := is_59 iv33 s39 ⟨_, rfl⟩
            have F44 := fr_st F36 s39 (by rw [(ow_59 iv33)]; rfl)
            have m45 := st_fr s39 s31.2.2.1 (by decide)
            have mp1 : w_MP g o h40 (mny + 1) := mp_s (A := A) (B := B) (t := y21) (s := n) (by omega) q1 q2 q3 q4 (by omega) (by omega) (by omega) (by omega) w35 w43 m45 s39.2.2.1
            refine w_inc (c := w_i (mny + 1)) (fun _ => rfl) (i_addL (y := 1) rfl mny) (fun _ => rfl) (w_inc (c := w_i (s_ + 1)) (fun _ => rfl) (i_addL (y := 1) rfl s_) (fun _ => rfl) (w_go ?_))
            have mu46 := mu_fr iv mu (fr_st (W := [60]) fr_rf s31 (by rw [(ow_60 iv)]; rfl)) rfl
            have mu47 := mu_fr iv33 mu46 (fr_st (W := [59]) fr_rf s39 (by rw [(ow_59 iv33)]; rfl)) rfl
            exact ih h40 (mny + 1) (s_ + 1) (.inl (w_i (s_ / g_mC g))) (.inl (w_i (s_ % g_mC g))) (.inl (w_i y21)) iv41 F44 mu47 mp1 (by omega) (by omega) (by omega) (by omega)  (by omega) (by omega) (by omega) (by omega) (by omega)
          · refine w_go (w_run k_815320 (w_inc (c := w_i (s_ + 1)) (fun _ => rfl) (i_addL (y := 1) rfl s_) (fun _ => rfl) (w_go ?_)))
            exact ih h mny (s_ + 1) (.inl (w_i (s_ / g_mC g))) (.inl (w_i (s_ % g_mC g))) (.inl (w_i y21)) iv F mu mp (by omega) (by omega) (by omega) (by omega)  (by omega) (by omega) (by omega) (by omega) (by omega)
        · refine w_nezf (by omega) (by omega) (by omega)  (w_go (w_run k_815320 (w_inc (c := w_i (s_ + 1)) (fun _ => rfl) (i_addL (y := 1) rfl s_) (fun _ => rfl) (w_go ?_))))
          exact ih h mny (s_ + 1) (.inl (w_i (s_ / g_mC g))) (.inl (w_i (s_ % g_mC g))) (x8_) iv F mu mp (by omega) (by omega) (by omega) (by omega)  (by omega) (by omega) (by omega) (by omega) (by omega)
theorem k_815191 : m_cg 815191 = g_199_87 := rfl
theorem k_815326 : m_cg 815326 = g_199_222 := rfl
theorem l_mParts_87 {g : w_G} {o : w_O} {h0 : m_H} {d : Nat} {Q : Option m_V → m_H → Prop} {n : Int} {v : Int} (n_lo : -2147483648 ≤ n) (n_hi : n ≤ 2147483647) (v_lo : -2147483648 ≤ v) (v_hi : v ≤ 2147483647) (n0_ : 1 ≤ n) (v0_ : 0 ≤ v) (v1_ : v < g_mN g) (k0 : ∀ (x : Int), ∀ h2 : m_H, w_Inv g o h2 → w_fr o [59, 60] h0 h2 → -2147483648 ≤ x → x ≤ 2147483647 → Q (some (.inl (w_i x))) h2) (kx : ∀ (x5_ x6_ x7_ x8_ : m_V), ∀ (mny k_ : Int), ∀ h2 : m_H, w_Inv g o h2 → w_fr o [59, 60] h0 h2 → w_mu g o h2 → w_MP g o h2 mny → -2147483648 ≤ mny → mny ≤ 2147483647 → -2147483648 ≤ k_ → k_ ≤ 2147483647 → wp (d + 3) 815332 [.inr (.inl (some 31)), .inl (w_i n), .inl (w_i v), .inl (w_i mny), .inl (w_i k_), x5_, x6_, x7_, x8_] [] h2 Q) : ∀ (k : Nat) (h : m_H) (mny k_ : Int) (x5_ : m_V) (x6_ : m_V) (x7_ : m_V) (x8_ : m_V) (iv : w_Inv g o h) (F : w_fr o [59, 60] h0 h) (mu : w_mu g o h) (mp : w_MP g o h mny) (mny_lo : -2147483648 ≤ mny) (mny_hi : mny ≤ 2147483647) (k__lo : -2147483648 ≤ k_) (k__hi : k_ ≤ 2147483647) (k0_ : 0 ≤ k_) (k1_ : k_ ≤ mny) (m5_ : mny ≤ 4096), 4096 - k_ < (k : Int) → wp (d + 3) 815191 [.inr (.inl (some 31)), .inl (w_i n), .inl (w_i v), .inl (w_i mny), .inl (w_i k_), x5_, x6_, x7_, x8_] [] h Q := by
  intro k
  induction k with
  | zero => intro h mny k_ x5_ x6_ x7_ x8_ iv F mu mp mny_lo mny_hi k__lo k__hi k0_ k1_ m5_ hk; exact absurd hk (by omega)
  | succ k ih =>
    intro h mny k_ x5_ x6_ x7_ x8_ iv F mu mp mny_lo mny_hi k__lo k__hi k0_ k1_ m5_ hk
    have W := iv_wm iv
    obtain ⟨A, B, p60, p59, q1, q5, q2, q3, q4⟩ := (id mp)
    refine w_run k_815191 (w_il (fun _ => rfl) (w_il (fun _ => rfl) ?_))
    refine w_ge2 (by omega) (by omega) (by omega) (by omega)  (fun c1 => ?_) (fun c1 => ?_)
    · exact kx (x5_) (x6_) (x7_) (x8_) mny k_ h iv F mu mp (by omega) (by omega) (by omega) (by omega)  
    · refine w_icI (x := 0) rfl (w_is (fun _ => rfl) (w_nur k_815200 ?_))
      refine l_mParts_96   (n := n) (v := v) (k_ := k_)     (by omega) (by omega) (by omega) (by omega) (by omega) (by omega) (by omega) (by omega) (by omega) (by omega) k0 (fun z4 z5 z6 mny2 s_3 h7 iv8 F9 mu10 mp11 b12 b13 b14 b15 b16 b17 => ?_) (30 - 0 + 1 : Int).toNat h mny 0 (x6_) (x7_) (x8_) iv F mu mp (by omega) (by omega) (by omega) (by omega)  (by omega) (by omega) (by omega) (by omega) (by omega)
      refine w_run k_815326 (w_inc (c := w_i (k_ + 1)) (fun _ => rfl) (i_addL (y := 1) rfl k_) (fun _ => rfl) (w_go ?_))
      exact ih h7 mny2 (k_ + 1) (.inl (w_i s_3)) (z4) (z5) (z6) iv8 F9 mu10 mp11 (by omega) (by omega) (by omega) (by omega)  (by omega) (by omega) (by omega) (by omega)
theorem k_815136 : m_cg 815136 = g_199_32 := rfl
theorem k_815338 : m_cg 815338 = g_199_234 := rfl
theorem k_815332 : m_cg 815332 = g_199_228 := rfl
theorem k_815169 : m_cg 815169 = g_199_65 := rfl
theorem l_mParts_32 {g : w_G} {o : w_O} {h0 : m_H} {d : Nat} {Q : Option m_V → m_H → Prop} (k0 : ∀ (x : Int), ∀ h2 : m_H, w_Inv g o h2 → w_fr o [59, 60] h0 h2 → -2147483648 ≤ x → x ≤ 2147483647 → Q (some (.inl (w_i x))) h2) : ∀ (k : Nat) (h : m_H) (n v : Int) (x3_ : m_V) (x4_ : m_V) (x5_ : m_V) (x6_ : m_V) (x7_ : m_V) (x8_ : m_V) (iv : w_Inv g o h) (F : w_fr o [59, 60] h0 h) (mu : w_mu g o h) (mp0 : w_MP g o h 0) (n_lo : -2147483648 ≤ n) (n_hi : n ≤ 2147483647) (v_lo : -2147483648 ≤ v) (v_hi : v ≤ 2147483647) (n0_ : 0 ≤ n) (n1_ : n ≤ v) (v0_ : 0 ≤ v) (v1_ : v ≤ g_mN g), g_mN g - v < (k : Int) → wp (d + 3) 815136 [.inr (.inl (some 31)), .inl (w_i n), .inl (w_i v), x3_, x4_, x5_, x6_, x7_, x8_] [] h Q := by
  intro k
  induction k with
  | zero => intro h n v x3_ x4_ x5_ x6_ x7_ x8_ iv F mu mp0 n_lo n_hi v_lo v_hi n0_ n1_ v0_ v1_ hk; exact absurd hk (by omega)
  | succ k ih =>
    intro h n v x3_ x4_ x5_ x6_ x7_ x8_ iv F mu mp0 n_lo n_hi v_lo v_hi n0_ n1_ v0_ v1_ hk
    have W := iv_wm iv
    obtain ⟨U, p56, hU⟩ := (id mu)
    have hUN : a_g U (g_mH g) = g_mN g := (hU _ (by omega) (by omega) (by omega)).trans (iv_mN iv).symm
    obtain ⟨A, B, p60, p59, q1, q5, q2, q3, q4⟩ := (id mp0)
    refine w_run k_815136 (w_il (fun _ => rfl) (w_al (fun _ => rfl) ?_))
    obtain ⟨_, m1, spr1, kee1, rul1, tpd1, nxt1, tok1, tka1, val1, opn1, hm1, row1, ksp1, kke1, kru1, rfl, l1_spr, u1_spr, l1_kee, u1_kee, l1_rul, u1_rul, l1_tpd, u1_tpd, l1_nxt, u1_nxt, l1_tok, u1_tok, l1_tka, u1_tka, l1_val, u1_val, l1_opn, u1_opn, l1_hm, u1_hm, l1_row, u1_row, l1_ksp, u1_ksp, l1_kke, u1_kke, l1_kru, u1_kru, f1_0, f1_1, f1_2, f1_3, f1_4, f1_5, f1_6, f1_7, f1_8, f1_9⟩ := iv_31 iv
    refine w_getf m1 rfl (fun _ => rfl) (w_al (fun _ => rfl) (w_getf m1 rfl (fun _ => rfl) (w_aldI p56 (by omega) (by omega) (by omega) ?_)))
    obtain ⟨b2, b3⟩ := ag_rg U (g_mH g)
    have e4 := hU (g_mH g) (by omega) (by omega)
    refine w_ge2 (by omega) (by omega) (by omega) (by omega)  (fun c5 => ?_) (fun c5 => ?_)
    · refine w_run k_815338 (w_il (fun _ => rfl) (w_ri ?_))
      exact k0 n h iv F (by omega) (by omega)
    · refine w_al (fun _ => rfl) (w_getf m1 rfl (fun _ => rfl) (w_il (fun _ => rfl) (w_aldI p60 (by omega) (by omega) (by omega) ?_)))
      obtain ⟨b6, b7⟩ := ag_rg A v
      have e8 := q3 v (by omega) (by omega)
      refine w_gtz2 (by omega) (by omega)  (fun c9 => ?_) (fun c9 => ?_)
      · refine w_run k_815332 (w_inc (c := w_i (v + 1)) (fun _ => rfl) (i_addL (y := 1) rfl v) (fun _ => rfl) (w_go ?_))
        exact ih h n (v + 1) (x3_) (x4_) (x5_) (x6_) (x7_) (x8_) iv F mu mp0 (by omega) (by omega) (by omega) (by omega)  (by omega) (by omega) (by omega) (by omega) (by omega)
      · refine w_al (fun _ => rfl) (w_il (fun _ => rfl) (w_this (fun _ => rfl) m1 ?_))
        refine w_ca (fun _ => rfl) rfl (c_mIsLawful (d := (d + 1)) iv (tn := v) (by omega) (by omega) (by omega) mu ⟨_, rfl, ?_⟩ ⟨_, rfl, ?_⟩)
        · refine w_nezt (by omega) (by omega) (by omega)  (w_run k_815169 (w_inc (c := w_i (n + 1)) (fun _ => rfl) (i_addL (y := 1) rfl n) (fun _ => rfl) (w_al (fun _ => rfl) (w_getf m1 rfl (fun _ => rfl) (w_il (fun _ => rfl) (w_il (fun _ => rfl) (w_astI p60 (by omega) (by omega) (by omega) (by omega) (by omega) (fun A13 h11 w14 s10 => ?_))))))))
          have iv12 := is_60 iv s10 ⟨_, rfl⟩
          have F15 := fr_st F s10 (by rw [(ow_60 iv)]; rfl)
          refine w_al (fun _ => rfl) ?_
          have m16 := st_fr s10 m1 (by decide)
          refine w_getf m16 rfl (fun _ => rfl) (w_icI (x := 0) rfl (w_il (fun _ => rfl) ?_))
          have m17 := st_fr s10 p59 (by decide)
          refine w_astI m17 (by omega) (by omega) (by omega) (by omega) (by omega) (fun A21 h19 w22 s18 => ?_)
          have iv20 := is_59 iv12 s18 ⟨_, rfl⟩
          have F23 := fr_st F15 s18 (by rw [(ow_59 iv12)]; rfl)
          have m24 := st_fr s18 s10.2.2.1 (by decide)
          have mp1 : w_MP g o h19 (0 + 1) := mp_s (A := A) (B := B) (t := v) (s := (n + 1)) (by omega) q1 q2 q3 q4 (by omega) (by omega) (by omega) (by omega) w14 w22 m24 s18.2.2.1
          refine w_icI (x := 1) rfl (w_is (fun _ => rfl) (w_icI (x := 0) rfl (w_is (fun _ => rfl) (w_nur k_815191 ?_))))
          have mu25 := mu_fr iv mu (fr_st (W := [60]) fr_rf s10 (by rw [(ow_60 iv)]; rfl)) rfl
          have mu26 := mu_fr iv12 mu25 (fr_st (W := [59]) fr_rf s18 (by rw [(ow_59 iv12)]; rfl)) rfl
          refine l_mParts_87   (n := (n + 1)) (v := v)     (by omega) (by omega) (by omega) (by omega) (by omega) (by omega) (by omega) k0 (fun z29 z30 z31 z32 mny27 k_28 h33 iv34 F35 mu36 mp37 b38 b39 b40 b41 => ?_) (4096 - 0 + 1 : Int).toNat h19 1 0 (x5_) (x6_) (x7_) (x8_) iv20 F23 mu26 mp1 (by omega) (by omega) (by omega) (by omega)  (by omega) (by omega) (by omega) (by omega)
          refine w_run k_815332 (w_inc (c := w_i (v + 1)) (fun _ => rfl) (i_addL (y := 1) rfl v) (fun _ => rfl) (w_go ?_))
          exact ih h33 (n + 1) (v + 1) (.inl (w_i mny27)) (.inl (w_i k_28)) (z29) (z30) (z31) (z32) iv34 F35 mu36 (mp_z mp37) (by omega) (by omega) (by omega) (by omega)  (by omega) (by omega) (by omega) (by omega) (by omega)
        · refine w_nezf (by omega) (by omega) (by omega)  (w_go (w_run k_815332 (w_inc (c := w_i (v + 1)) (fun _ => rfl) (i_addL (y := 1) rfl v) (fun _ => rfl) (w_go ?_))))
          exact ih h n (v + 1) (x3_) (x4_) (x5_) (x6_) (x7_) (x8_) iv F mu mp0 (by omega) (by omega) (by omega) (by omega)  (by omega) (by omega) (by omega) (by omega) (by omega)
theorem k_815108 : m_cg 815108 = g_199_4 := rfl
theorem k_815134 : m_cg 815134 = g_199_30 := rfl
theorem l_mParts_4 {g : w_G} {o : w_O} {h0 : m_H} {d : Nat} {Q : Option m_V → m_H → Prop} (k0 : ∀ (x : Int), ∀ h2 : m_H, w_Inv g o h2 → w_fr o [59, 60] h0 h2 → -2147483648 ≤ x → x ≤ 2147483647 → Q (some (.inl (w_i x))) h2) : ∀ (k : Nat) (h : m_H) (n v : Int) (iv : w_Inv g o h) (F : w_fr o [59, 60] h0 h) (mu : w_mu g o h) (fz : w_fp g o h 0 v) (n_lo : -2147483648 ≤ n) (n_hi : n ≤ 2147483647) (v_lo : -2147483648 ≤ v) (v_hi : v ≤ 2147483647) (n0_ : n = 0) (v0_ : 0 ≤ v) (v1_ : v ≤ g_mN g), g_mN g - v < (k : Int) → wp (d + 3) 815108 [.inr (.inl (some 31)), .inl (w_i n), .inl (w_i v), .inr (.inr (.inl 0)), .inr (.inr (.inl 0)), .inr (.inr (.inl 0)), .inr (.inr (.inl 0)), .inr (.inr (.inl 0)), .inr (.inr (.inl 0))] [] h Q := by
  intro k
  induction k with
  | zero => intro h n v iv F mu fz n_lo n_hi v_lo v_hi n0_ v0_ v1_ hk; exact absurd hk (by omega)
  | succ k ih =>
    intro h n v iv F mu fz n_lo n_hi v_lo v_hi n0_ v0_ v1_ hk
    have W := iv_wm iv
    obtain ⟨U, p56, hU⟩ := (id mu)
    have hUN : a_g U (g_mH g) = g_mN g := (hU _ (by omega) (by omega) (by omega)).trans (iv_mN iv).symm
    obtain ⟨A, p60, hF⟩ := (id fz)
    refine w_run k_815108 (w_il (fun _ => rfl) (w_al (fun _ => rfl) ?_))
    obtain ⟨_, m1, spr1, kee1, rul1, tpd1, nxt1, tok1, tka1, val1, opn1, hm1, row1, ksp1, kke1, kru1, rfl, l1_spr, u1_spr, l1_kee, u1_kee, l1_rul, u1_rul, l1_tpd, u1_tpd, l1_nxt, u1_nxt, l1_tok, u1_tok, l1_tka, u1_tka, l1_val, u1_val, l1_opn, u1_opn, l1_hm, u1_hm, l1_row, u1_row, l1_ksp, u1_ksp, l1_kke, u1_kke, l1_kru, u1_kru, f1_0, f1_1, f1_2, f1_3, f1_4, f1_5, f1_6, f1_7, f1_8, f1_9⟩ := iv_31 iv
    refine w_getf m1 rfl (fun _ => rfl) (w_al (fun _ => rfl) (w_getf m1 rfl (fun _ => rfl) (w_aldI p56 (by omega) (by omega) (by omega) ?_)))
    obtain ⟨b2, b3⟩ := ag_rg U (g_mH g)
    have e4 := hU (g_mH g) (by omega) (by omega)
    refine w_ge2 (by omega) (by omega) (by omega) (by omega)  (fun c5 => ?_) (fun c5 => ?_)
    · refine w_run k_815134 ?_
      have mp00 : w_MP g o h 0 := mp_0 iv (fun j j0 j1 => hF j j0 (by omega)) p60
      refine w_icI (x := 0) rfl (w_is (fun _ => rfl) (w_nur k_815136 ?_))
      exact l_mParts_32          k0 (g_mN g - 0 + 1 : Int).toNat h n 0 (.inr (.inr (.inl 0))) (.inr (.inr (.inl 0))) (.inr (.inr (.inl 0))) (.inr (.inr (.inl 0))) (.inr (.inr (.inl 0))) (.inr (.inr (.inl 0))) iv F mu mp00 (by omega) (by omega) (by omega) (by omega)  (by omega) (by omega) (by omega) (by omega) (by omega)
    · refine w_al (fun _ => rfl) (w_getf m1 rfl (fun _ => rfl) (w_il (fun _ => rfl) (w_icI (x := 0) rfl (w_astI p60 (by omega) (by omega) (by omega) (by omega) (by omega) (fun A9 h7 w10 s6 => ?_)))))
      have iv8 := is_60 iv s6 ⟨_, rfl⟩
      have F11 := fr_st F s6 (by rw [(ow_60 iv)]; rfl)
      have fz1 : w_fp g o h7 0 (v + 1) := ⟨_, s6.2.2.1, fun j j0 j1 => by rw [w10 j j0 (by omega)]; exact (if hj : j = v then if_pos hj else (if_neg hj).trans (hF j j0 (by omega)))⟩
      refine w_inc (c := w_i (v + 1)) (fun _ => rfl) (i_addL (y := 1) rfl v) (fun _ => rfl) (w_go ?_)
      have mu12 := mu_fr iv mu (fr_st (W := [60]) fr_rf s6 (by rw [(ow_60 iv)]; rfl)) rfl
      exact ih h7 n (v + 1) iv8 F11 mu12 fz1 (by omega) (by omega) (by omega) (by omega)  (by omega) (by omega) (by omega) (by omega)
theorem k_815104 : m_cg 815104 = g_199_0 := rfl
theorem c_mParts {g : w_G} {o : w_O} {h : m_H} {d : Nat} {Q : Option m_V → m_H → Prop} (iv : w_Inv g o h) (mu : w_mu g o h) (k0 : ∀ (x : Int), ∀ h2 : m_H, w_Inv g o h2 → w_fr o [59, 60] h h2 → -2147483648 ≤ x → x ≤ 2147483647 → Q (some (.inl (w_i x))) h2) : wp (d + 3) 815104 [.inr (.inl (some 31)), .inr (.inr (.inl 0)), .inr (.inr (.inl 0)), .inr (.inr (.inl 0)), .inr (.inr (.inl 0)), .inr (.inr (.inl 0)), .inr (.inr (.inl 0)), .inr (.inr (.inl 0)), .inr (.inr (.inl 0))] [] h Q := by
  have F := fr_rf (o := o) (h := h) (W := [59, 60])
  have W := iv_wm iv
  have fz0 : w_fp g o h 0 0 := by obtain ⟨_, p60, A, rfl⟩ := iv_60 iv; exact ⟨A, p60, fun j j0 j1 => absurd j1 (by omega)⟩
  refine w_run k_815104 (w_icI (x := 0) rfl (w_is (fun _ => rfl) (w_icI (x := 0) rfl (w_is (fun _ => rfl) (w_nur k_815108 ?_)))))
  exact l_mParts_4          k0 (g_mN g - 0 + 1 : Int).toNat h 0 0 iv F mu fz0 (by omega) (by omega) (by omega) (by omega)  (by omega) (by omega) (by omega) (by omega)
theorem k_819200 : m_cg 819200 = g_200_0 := rfl
theorem k_819212 : m_cg 819212 = g_200_12 := rfl
theorem k_819244 : m_cg 819244 = g_200_44 := rfl
theorem k_819246 : m_cg 819246 = g_200_46 := rfl
theorem k_819260 : m_cg 819260 = g_200_60 := rfl
theorem k_819266 : m_cg 819266 = g_200_66 := rfl
theorem c_mCome {g : w_G} {o : w_O} {h : m_H} {d : Nat} {Q : Option m_V → m_H → Prop} (iv : w_Inv g o h) {what : Int} (what_lo : -2147483648 ≤ what) (what_hi : what ≤ 2147483647) (k0 : ∀ (x : Int), ∀ h2 : m_H, w_Inv g o h2 → w_fr o [54, 55, 56, 57, 59, 60] h h2 → -2147483648 ≤ x → x ≤ 2147483647 → Q (some (.inl (w_i x))) h2) : wp (d + 7) 819200 [.inr (.inl (some 31)), .inl (w_i what), .inr (.inr (.inl 0))] [] h Q := by
  have F := fr_rf (o := o) (h := h) (W := [54, 55, 56, 57, 59, 60])
  have W := iv_wm iv
  refine w_run k_819200 (w_il (fun _ => rfl) (w_icI (x := 0) rfl (w_icI (x := 3) rfl ?_)))
  refine w_ca (fun _ => rfl) rfl (c_mIsIn (d := (d + 6)) iv (n := what) (ln := 0) (mn := 3) (by omega) (by omega) (by omega) (by omega) (by omega) (by omega)   (fun b1 b2 => ⟨_, rfl, ?_⟩) (fun b3 => ⟨_, rfl, ?_⟩))
  · refine w_nezt (by omega) (by omega) (by omega)  (w_run k_819212 (w_al (fun _ => rfl) ?_))
    obtain ⟨_, m4, spr4, kee4, rul4, tpd4, nxt4, tok4, tka4, val4, opn4, hm4, row4, ksp4, kke4, kru4, rfl, l4_spr, u4_spr, l4_kee, u4_kee, l4_rul, u4_rul, l4_tpd, u4_tpd, l4_nxt, u4_nxt, l4_tok, u4_tok, l4_tka, u4_tka, l4_val, u4_val, l4_opn, u4_opn, l4_hm, u4_hm, l4_row, u4_row, l4_ksp, u4_ksp, l4_kke, u4_kke, l4_kru, u4_kru, f4_0, f4_1, f4_2, f4_3, f4_4, f4_5, f4_6, f4_7, f4_8, f4_9⟩ := iv_31 iv
    refine w_this (fun _ => rfl) m4 ?_
    refine w_ca (fun _ => rfl) rfl (c_mFindNow (d := d) iv     (fun y5 h6 iv7 F8 b9 b10 b11 b12 b13 b14 => ⟨_, rfl, ?_⟩))
    have F15 := fr_ca F F8 (fun t ht => by simp at ht ⊢; omega)
    refine w_is (fun _ => rfl) (w_il (fun _ => rfl) ?_)
    by_cases c16 : what = 0
    · rw [show (what : Int) = 0 from c16]
      refine w_tsw (t := 819244) (fun _ => rfl) (w_run k_819244 (w_il (fun _ => rfl) (w_ri ?_)))
      exact k0 y5 h6 iv7 F15 (by omega) (by omega)
    by_cases c17 : what = 1
    · rw [show (what : Int) = 1 from c17]
      refine w_tsw (t := 819246) (fun _ => rfl) (w_run k_819246 ?_)
      obtain ⟨A, B, p57, p59, q1, q5, q2, q3, q4⟩ := (id b13)
      refine w_al (fun _ => rfl) ?_
      have m18 := fr_at F8 m4 iv (ow_31 iv) rfl rfl
      refine w_getf m18 rfl (fun _ => rfl) (w_al (fun _ => rfl) (w_getf m18 rfl (fun _ => rfl) (w_il (fun _ => rfl) (w_icI (x := 1) rfl (w_op (c := w_i (y5 - 1)) (i_sub y5 1) (w_aldI p59 (by omega) (by omega) (by omega) ?_))))))
      obtain ⟨b19, b20⟩ := ag_rg B (y5 - 1)
      have e21 := q4 (y5 - 1) (by omega) (by omega)
      refine w_aldI p57 (by omega) (by omega) (by omega) ?_
      obtain ⟨b22, b23⟩ := ag_rg A (a_g B (y5 - 1))
      refine w_ri ?_
      exact k0 (a_g A (a_g B (y5 - 1))) h6 iv7 F15 (by omega) (by omega)
    by_cases c24 : what = 2
    · rw [show (what : Int) = 2 from c24]
      refine w_tsw (t := 819260) (fun _ => rfl) (w_run k_819260 (w_al (fun _ => rfl) (w_il (fun _ => rfl) ?_)))
      have m25 := fr_at F8 m4 iv (ow_31 iv) rfl rfl
      refine w_this (fun _ => rfl) m25 ?_
      refine w_ca (fun _ => rfl) rfl (c_mFrozen (d := (d + 5)) iv7 (mny := y5) (by omega) (by omega)  b14 b13 (fun y26 b27 b28 => ⟨_, rfl, ?_⟩))
      refine w_ri ?_
      exact k0 y26 h6 iv7 F15 (by omega) (by omega)
    refine w_tswD (by omega) (by omega) (by show _ ∨ ((3 : Nat) : Int) ≤ _; omega) (by decide) (w_run k_819266 (w_al (fun _ => rfl) ?_))
    have m29 := fr_at F8 m4 iv (ow_31 iv) rfl rfl
    refine w_this (fun _ => rfl) m29 ?_
    refine w_ca (fun _ => rfl) rfl (c_mParts (d := (d + 3)) iv7    b14 (fun y30 h31 iv32 F33 b34 b35 => ⟨_, rfl, ?_⟩))
    have F36 := fr_ca F15 F33 (fun t ht => by simp at ht ⊢; omega)
    refine w_ri ?_
    exact k0 y30 h31 iv32 F36 (by omega) (by omega)
  · refine w_nezf (by omega) (by omega) (by omega)  (w_icI (x := (-2)) wn_2 (w_ri ?_))
    exact k0 (-2) h iv F (by omega) (by omega)
theorem k_823296 : m_cg 823296 = g_201_0 := rfl
theorem k_823307 : m_cg 823307 = g_201_11 := rfl
theorem c_mShortest {g : w_G} {o : w_O} {h : m_H} {d : Nat} {Q : Option m_V → m_H → Prop} (iv : w_Inv g o h) {tn : Int} (tn_lo : -2147483648 ≤ tn) (tn_hi : tn ≤ 2147483647) (k0 : ∀ (x : Int), ∀ h2 : m_H, w_Inv g o h2 → w_fr o [54, 55, 56, 57, 59] h h2 → -2147483648 ≤ x → x ≤ 2147483647 → Q (some (.inl (w_i x))) h2) : wp (d + 7) 823296 [.inr (.inl (some 31)), .inl (w_i tn)] [] h Q := by
  have F := fr_rf (o := o) (h := h) (W := [54, 55, 56, 57, 59])
  have W := iv_wm iv
  refine w_run k_823296 (w_al (fun _ => rfl) (w_il (fun _ => rfl) ?_))
  obtain ⟨_, m1, spr1, kee1, rul1, tpd1, nxt1, tok1, tka1, val1, opn1, hm1, row1, ksp1, kke1, kru1, rfl, l1_spr, u1_spr, l1_kee, u1_kee, l1_rul, u1_rul, l1_tpd, u1_tpd, l1_nxt, u1_nxt, l1_tok, u1_tok, l1_tka, u1_tka, l1_val, u1_val, l1_opn, u1_opn, l1_hm, u1_hm, l1_row, u1_row, l1_ksp, u1_ksp, l1_kke, u1_kke, l1_kru, u1_kru, f1_0, f1_1, f1_2, f1_3, f1_4, f1_5, f1_6, f1_7, f1_8, f1_9⟩ := iv_31 iv
  refine w_this (fun _ => rfl) m1 ?_
  refine w_ca (fun _ => rfl) rfl (c_mIsTown (d := (d + 5)) iv (n := tn) (by omega) (by omega)   (fun b2 b3 => ⟨_, rfl, ?_⟩) (fun b4 => ⟨_, rfl, ?_⟩))
  · refine w_nezt (by omega) (by omega) (by omega)  (w_run k_823307 (w_al (fun _ => rfl) (w_this (fun _ => rfl) m1 ?_)))
    refine w_ca (fun _ => rfl) rfl (c_mFindNow (d := d) iv     (fun y5 h6 iv7 F8 b9 b10 b11 b12 b13 b14 => ⟨_, rfl, ?_⟩))
    have F15 := fr_ca F F8 (fun t ht => by exact ht)
    refine w_pop (fun _ => rfl) (w_al (fun _ => rfl) ?_)
    have m16 := fr_at F8 m1 iv (ow_31 iv) rfl rfl
    refine w_getf m16 rfl (fun _ => rfl) (w_il (fun _ => rfl) ?_)
    obtain ⟨_, m17, A17, rfl⟩ := iv_57 iv7
    refine w_aldI m17 (by omega) (by omega) (by omega) ?_
    obtain ⟨b18, b19⟩ := ag_rg A17 tn
    refine w_ri ?_
    exact k0 (a_g A17 tn) h6 iv7 F15 (by omega) (by omega)
  · refine w_nezf (by omega) (by omega) (by omega)  (w_icI (x := (-2)) wn_2 (w_ri ?_))
    exact k0 (-2) h iv F (by omega) (by omega)
theorem k_843780 : m_cg 843780 = g_206_4 := rfl
theorem k_843827 : m_cg 843827 = g_206_51 := rfl
theorem k_843818 : m_cg 843818 = g_206_42 := rfl
theorem k_843819 : m_cg 843819 = g_206_43 := rfl
theorem l_mWished_4 {g : w_G} {o : w_O} {h : m_H} {d : Nat} {Q : Option m_V → m_H → Prop} (iv : w_Inv g o h) {tn : Int} (tn_lo : -2147483648 ≤ tn) (tn_hi : tn ≤ 2147483647) (t0_ : 0 ≤ tn) (k0 : ∀ (x : Int), -2147483648 ≤ x → x ≤ 2147483647 → 0 ≤ x → x ≤ 6 → Q (some (.inl (w_i x))) h) : ∀ (k : Nat) (n ii : Int) (mu : w_mu g o h) (n_lo : -2147483648 ≤ n) (n_hi : n ≤ 2147483647) (ii_lo : -2147483648 ≤ ii) (ii_hi : ii ≤ 2147483647) (n0_ : 0 ≤ n) (n1_ : n ≤ ii) (i0_ : 0 ≤ ii) (i1_ : ii ≤ g_mH g), g_mH g - ii < (k : Int) → wp (d + 1) 843780 [.inr (.inl (some 31)), .inl (w_i tn), .inl (w_i n), .inl (w_i ii)] [] h Q := by
  intro k
  induction k with
  | zero => intro n ii mu n_lo n_hi ii_lo ii_hi n0_ n1_ i0_ i1_ hk; exact absurd hk (by omega)
  | succ k ih =>
    intro n ii mu n_lo n_hi ii_lo ii_hi n0_ n1_ i0_ i1_ hk
    have W := iv_wm iv
    refine w_run k_843780 (w_il (fun _ => rfl) (w_al (fun _ => rfl) ?_))
    obtain ⟨_, m1, spr1, kee1, rul1, tpd1, nxt1, tok1, tka1, val1, opn1, hm1, row1, ksp1, kke1, kru1, rfl, l1_spr, u1_spr, l1_kee, u1_kee, l1_rul, u1_rul, l1_tpd, u1_tpd, l1_nxt, u1_nxt, l1_tok, u1_tok, l1_tka, u1_tka, l1_val, u1_val, l1_opn, u1_opn, l1_hm, u1_hm, l1_row, u1_row, l1_ksp, u1_ksp, l1_kke, u1_kke, l1_kru, u1_kru, f1_0, f1_1, f1_2, f1_3, f1_4, f1_5, f1_6, f1_7, f1_8, f1_9⟩ := iv_31 iv
    refine w_getf m1 rfl (fun _ => rfl) ?_
    refine w_ge2 (by omega) (by omega) (by omega) (by omega)  (fun c2 => ?_) (fun c2 => ?_)
    · refine w_run k_843827 (w_il (fun _ => rfl) (w_ri ?_))
      exact k0 n (by omega) (by omega) (by omega) (by omega)
    · refine w_il (fun _ => rfl) (w_al (fun _ => rfl) (w_getf m1 rfl (fun _ => rfl) (w_il (fun _ => rfl) ?_)))
      obtain ⟨_, m3, A3, rfl⟩ := iv_34 iv
      refine w_aldI m3 (by omega) (by omega) (by omega) ?_
      obtain ⟨b4, b5⟩ := ag_rg A3 ii
      refine w_icI (x := (-1)) wn_1 ?_
      refine w_eq2 (by omega) (by omega) (by omega) (by omega)  (fun c6 => ?_) (fun c6 => ?_)
      · refine w_run k_843818 (w_icI (x := 0) rfl (w_op (c := w_i (n + 0)) (i_add n 0) (w_is (fun _ => rfl) (w_inc (c := w_i (ii + 1)) (fun _ => rfl) (i_addL (y := 1) rfl ii) (fun _ => rfl) (w_go ?_)))))
        exact ih (n + 0) (ii + 1) mu (by omega) (by omega) (by omega) (by omega)  (by omega) (by omega) (by omega) (by omega) (by omega)
      · refine w_al (fun _ => rfl) (w_il (fun _ => rfl) (w_il (fun _ => rfl) (w_this (fun _ => rfl) m1 ?_)))
        refine w_ca (fun _ => rfl) rfl (c_mColourX (d := d) iv (tn := tn) (ii := ii) (by omega) (by omega) (by omega) (by omega) (by omega) (by omega) (by omega) mu (fun y7 b8 b9 b10 b11 b12 => ⟨_, rfl, ?_⟩))
        refine w_al (fun _ => rfl) (w_getf m1 rfl (fun _ => rfl) (w_il (fun _ => rfl) (w_aldI m3 (by omega) (by omega) (by omega) ?_)))
        obtain ⟨b13, b14⟩ := ag_rg A3 ii
        refine w_ne2 (by omega) (by omega) (by omega) (by omega)  (fun c15 => ?_) (fun c15 => ?_)
        · refine w_run k_843818 (w_icI (x := 0) rfl (w_op (c := w_i (n + 0)) (i_add n 0) (w_is (fun _ => rfl) (w_inc (c := w_i (ii + 1)) (fun _ => rfl) (i_addL (y := 1) rfl ii) (fun _ => rfl) (w_go ?_)))))
          exact ih (n + 0) (ii + 1) mu (by omega) (by omega) (by omega) (by omega)  (by omega) (by omega) (by omega) (by omega) (by omega)
        · refine w_icI (x := 1) rfl (w_go (w_run k_843819 (w_op (c := w_i (n + 1)) (i_add n 1) (w_is (fun _ => rfl) (w_inc (c := w_i (ii + 1)) (fun _ => rfl) (i_addL (y := 1) rfl ii) (fun _ => rfl) (w_go ?_))))))
          exact ih (n + 1) (ii + 1) mu (by omega) (by omega) (by omega) (by omega)  (by omega) (by omega) (by omega) (by omega) (by omega)
theorem k_843776 : m_cg 843776 = g_206_0 := rfl
theorem c_mWished {g : w_G} {o : w_O} {h : m_H} {d : Nat} {Q : Option m_V → m_H → Prop} (iv : w_Inv g o h) {tn : Int} (tn_lo : -2147483648 ≤ tn) (tn_hi : tn ≤ 2147483647) (t0_ : 0 ≤ tn) (mu : w_mu g o h) (k0 : ∀ (x : Int), -2147483648 ≤ x → x ≤ 2147483647 → 0 ≤ x → x ≤ 6 → Q (some (.inl (w_i x))) h) : wp (d + 1) 843776 [.inr (.inl (some 31)), .inl (w_i tn), .inr (.inr (.inl 0)), .inr (.inr (.inl 0))] [] h Q := by
  have W := iv_wm iv
  refine w_run k_843776 (w_icI (x := 0) rfl (w_is (fun _ => rfl) (w_icI (x := 0) rfl (w_is (fun _ => rfl) (w_nur k_843780 ?_)))))
  exact l_mWished_4 iv    tn_lo tn_hi t0_    k0 (g_mH g - 0 + 1 : Int).toNat 0 0 mu (by omega) (by omega) (by omega) (by omega)  (by omega) (by omega) (by omega) (by omega) (by omega)
theorem k_847896 : m_cg 847896 = g_207_24 := rfl
theorem k_847987 : m_cg 847987 = g_207_115 := rfl
theorem k_847995 : m_cg 847995 = g_207_123 := rfl
theorem k_848000 : m_cg 848000 = g_207_128 := rfl
theorem k_847921 : m_cg 847921 = g_207_49 := rfl
theorem k_847979 : m_cg 847979 = g_207_107 := rfl
theorem k_847981 : m_cg 847981 = g_207_109 := rfl
theorem l_mWishes_24 {g : w_G} {o : w_O} {h0 : m_H} {d : Nat} {Q : Option m_V → m_H → Prop} {what : Int} (what_lo : -2147483648 ≤ what) (what_hi : what ≤ 2147483647) (k0 : ∀ (x : Int), ∀ h2 : m_H, w_Inv g o h2 → w_fr o [54, 55, 56, 57, 59] h0 h2 → -2147483648 ≤ x → x ≤ 2147483647 → Q (some (.inl (w_i x))) h2) : ∀ (k : Nat) (h : m_H) (be v : Int) (x4_ : m_V) (iv : w_Inv g o h) (F : w_fr o [54, 55, 56, 57, 59] h0 h) (mu : w_mu g o h) (be_lo : -2147483648 ≤ be) (be_hi : be ≤ 2147483647) (v_lo : -2147483648 ≤ v) (v_hi : v ≤ 2147483647) (b0_ : 0 ≤ be) (b1_ : be < g_mN g) (v0_ : 0 ≤ v) (v1_ : v ≤ g_mN g), g_mN g - v < (k : Int) → wp (d + 7) 847896 [.inr (.inl (some 31)), .inl (w_i what), .inl (w_i be), .inl (w_i v), x4_] [] h Q := by
  intro k
  induction k with
  | zero => intro h be v x4_ iv F mu be_lo be_hi v_lo v_hi b0_ b1_ v0_ v1_ hk; exact absurd hk (by omega)
  | succ k ih =>
    intro h be v x4_ iv F mu be_lo be_hi v_lo v_hi b0_ b1_ v0_ v1_ hk
    have W := iv_wm iv
    obtain ⟨U, p56, hU⟩ := (id mu)
    have hUN : a_g U (g_mH g) = g_mN g := (hU _ (by omega) (by omega) (by omega)).trans (iv_mN iv).symm
    refine w_run k_847896 (w_il (fun _ => rfl) (w_al (fun _ => rfl) ?_))
    obtain ⟨_, m1, spr1, kee1, rul1, tpd1, nxt1, tok1, tka1, val1, opn1, hm1, row1, ksp1, kke1, kru1, rfl, l1_spr, u1_spr, l1_kee, u1_kee, l1_rul, u1_rul, l1_tpd, u1_tpd, l1_nxt, u1_nxt, l1_tok, u1_tok, l1_tka, u1_tka, l1_val, u1_val, l1_opn, u1_opn, l1_hm, u1_hm, l1_row, u1_row, l1_ksp, u1_ksp, l1_kke, u1_kke, l1_kru, u1_kru, f1_0, f1_1, f1_2, f1_3, f1_4, f1_5, f1_6, f1_7, f1_8, f1_9⟩ := iv_31 iv
    refine w_getf m1 rfl (fun _ => rfl) (w_al (fun _ => rfl) (w_getf m1 rfl (fun _ => rfl) (w_aldI p56 (by omega) (by omega) (by omega) ?_)))
    obtain ⟨b2, b3⟩ := ag_rg U (g_mH g)
    have e4 := hU (g_mH g) (by omega) (by omega)
    refine w_ge2 (by omega) (by omega) (by omega) (by omega)  (fun c5 => ?_) (fun c5 => ?_)
    · refine w_run k_847987 (w_il (fun _ => rfl) ?_)
      refine w_nez2 (by omega) (by omega)  (fun c6 => ?_) (fun c6 => ?_)
      · refine w_run k_847995 (w_al (fun _ => rfl) (w_il (fun _ => rfl) (w_this (fun _ => rfl) m1 ?_)))
        refine w_ca (fun _ => rfl) rfl (c_mWished (d := (d + 5)) iv (tn := be) (by omega) (by omega) (by omega) mu (fun y7 b8 b9 b10 b11 => ⟨_, rfl, ?_⟩))
        refine w_ri ?_
        exact k0 y7 h iv F (by omega) (by omega)
      · refine w_il (fun _ => rfl) (w_go (w_run k_848000 (w_ri ?_)))
        exact k0 be h iv F (by omega) (by omega)
    · refine w_al (fun _ => rfl) (w_getf m1 rfl (fun _ => rfl) (w_il (fun _ => rfl) ?_))
      obtain ⟨_, m12, A12, rfl⟩ := iv_57 iv
      refine w_aldI m12 (by omega) (by omega) (by omega) ?_
      obtain ⟨b13, b14⟩ := ag_rg A12 v
      refine w_gez2 (by omega) (by omega)  (fun c15 => ?_) (fun c15 => ?_)
      · refine w_run k_847921 (w_al (fun _ => rfl) (w_il (fun _ => rfl) (w_this (fun _ => rfl) m1 ?_)))
        refine w_ca (fun _ => rfl) rfl (c_mWished (d := (d + 5)) iv (tn := v) (by omega) (by omega) (by omega) mu (fun y16 b17 b18 b19 b20 => ⟨_, rfl, ?_⟩))
        refine w_al (fun _ => rfl) (w_il (fun _ => rfl) (w_this (fun _ => rfl) m1 ?_))
        refine w_ca (fun _ => rfl) rfl (c_mWished (d := (d + 5)) iv (tn := be) (by omega) (by omega) (by omega) mu (fun y21 b22 b23 b24 b25 => ⟨_, rfl, ?_⟩))
        refine w_op (c := w_i (y16 - y21)) (i_sub y16 y21) (w_is (fun _ => rfl) (w_il (fun _ => rfl) ?_))
        refine w_gtz2 (by omega) (by omega)  (fun c26 => ?_) (fun c26 => ?_)
        · refine w_run k_847979 (w_il (fun _ => rfl) (w_is (fun _ => rfl) (w_inc (c := w_i (v + 1)) (fun _ => rfl) (i_addL (y := 1) rfl v) (fun _ => rfl) (w_go ?_))))
          exact ih h v (v + 1) (.inl (w_i (y16 - y21))) iv F mu (by omega) (by omega) (by omega) (by omega)  (by omega) (by omega) (by omega) (by omega) (by omega)
        · refine w_il (fun _ => rfl) ?_
          refine w_nez2 (by omega) (by omega)  (fun c27 => ?_) (fun c27 => ?_)
          · refine w_run k_847981 (w_inc (c := w_i (v + 1)) (fun _ => rfl) (i_addL (y := 1) rfl v) (fun _ => rfl) (w_go ?_))
            exact ih h be (v + 1) (.inl (w_i (y16 - y21))) iv F mu (by omega) (by omega) (by omega) (by omega)  (by omega) (by omega) (by omega) (by omega) (by omega)
          · refine w_al (fun _ => rfl) (w_getf m1 rfl (fun _ => rfl) (w_il (fun _ => rfl) (w_aldI m12 (by omega) (by omega) (by omega) ?_)))
            obtain ⟨b28, b29⟩ := ag_rg A12 v
            refine w_al (fun _ => rfl) (w_getf m1 rfl (fun _ => rfl) (w_il (fun _ => rfl) (w_aldI m12 (by omega) (by omega) (by omega) ?_)))
            obtain ⟨b30, b31⟩ := ag_rg A12 be
            refine w_lt2 (by omega) (by omega) (by omega) (by omega)  (fun c32 => ?_) (fun c32 => ?_)
            · refine w_run k_847979 (w_il (fun _ => rfl) (w_is (fun _ => rfl) (w_inc (c := w_i (v + 1)) (fun _ => rfl) (i_addL (y := 1) rfl v) (fun _ => rfl) (w_go ?_))))
              exact ih h v (v + 1) (.inl (w_i (y16 - y21))) iv F mu (by omega) (by omega) (by omega) (by omega)  (by omega) (by omega) (by omega) (by omega) (by omega)
            · refine w_al (fun _ => rfl) (w_getf m1 rfl (fun _ => rfl) (w_il (fun _ => rfl) (w_aldI m12 (by omega) (by omega) (by omega) ?_)))
              obtain ⟨b33, b34⟩ := ag_rg A12 v
              refine w_al (fun _ => rfl) (w_getf m1 rfl (fun _ => rfl) (w_il (fun _ => rfl) (w_aldI m12 (by omega) (by omega) (by omega) ?_)))
              obtain ⟨b35, b36⟩ := ag_rg A12 be
              refine w_ne2 (by omega) (by omega) (by omega) (by omega)  (fun c37 => ?_) (fun c37 => ?_)
              · refine w_run k_847981 (w_inc (c := w_i (v + 1)) (fun _ => rfl) (i_addL (y := 1) rfl v) (fun _ => rfl) (w_go ?_))
                exact ih h be (v + 1) (.inl (w_i (y16 - y21))) iv F mu (by omega) (by omega) (by omega) (by omega)  (by omega) (by omega) (by omega) (by omega) (by omega)
              · refine w_il (fun _ => rfl) (w_il (fun _ => rfl) ?_)
                refine w_ge2 (by omega) (by omega) (by omega) (by omega)  (fun c38 => ?_) (fun c38 => ?_)
                · refine w_run k_847981 (w_inc (c := w_i (v + 1)) (fun _ => rfl) (i_addL (y := 1) rfl v) (fun _ => rfl) (w_go ?_))
                  exact ih h be (v + 1) (.inl (w_i (y16 - y21))) iv F mu (by omega) (by omega) (by omega) (by omega)  (by omega) (by omega) (by omega) (by omega) (by omega)
                · refine w_il (fun _ => rfl) (w_is (fun _ => rfl) (w_inc (c := w_i (v + 1)) (fun _ => rfl) (i_addL (y := 1) rfl v) (fun _ => rfl) (w_go ?_)))
                  exact ih h v (v + 1) (.inl (w_i (y16 - y21))) iv F mu (by omega) (by omega) (by omega) (by omega)  (by omega) (by omega) (by omega) (by omega) (by omega)
      · refine w_go (w_run k_847981 (w_inc (c := w_i (v + 1)) (fun _ => rfl) (i_addL (y := 1) rfl v) (fun _ => rfl) (w_go ?_)))
        exact ih h be (v + 1) (x4_) iv F mu (by omega) (by omega) (by omega) (by omega)  (by omega) (by omega) (by omega) (by omega) (by omega)
theorem k_847872 : m_cg 847872 = g_207_0 := rfl
theorem k_847884 : m_cg 847884 = g_207_12 := rfl
theorem c_mWishes {g : w_G} {o : w_O} {h : m_H} {d : Nat} {Q : Option m_V → m_H → Prop} (iv : w_Inv g o h) {what : Int} (what_lo : -2147483648 ≤ what) (what_hi : what ≤ 2147483647) (k0 : ∀ (x : Int), ∀ h2 : m_H, w_Inv g o h2 → w_fr o [54, 55, 56, 57, 59] h h2 → -2147483648 ≤ x → x ≤ 2147483647 → Q (some (.inl (w_i x))) h2) : wp (d + 7) 847872 [.inr (.inl (some 31)), .inl (w_i what), .inr (.inr (.inl 0)), .inr (.inr (.inl 0)), .inr (.inr (.inl 0))] [] h Q := by
  have F := fr_rf (o := o) (h := h) (W := [54, 55, 56, 57, 59])
  have W := iv_wm iv
  refine w_run k_847872 (w_il (fun _ => rfl) (w_icI (x := 0) rfl (w_icI (x := 1) rfl ?_)))
  refine w_ca (fun _ => rfl) rfl (c_mIsIn (d := (d + 6)) iv (n := what) (ln := 0) (mn := 1) (by omega) (by omega) (by omega) (by omega) (by omega) (by omega)   (fun b1 b2 => ⟨_, rfl, ?_⟩) (fun b3 => ⟨_, rfl, ?_⟩))
  · refine w_nezt (by omega) (by omega) (by omega)  (w_run k_847884 (w_al (fun _ => rfl) ?_))
    obtain ⟨_, m4, spr4, kee4, rul4, tpd4, nxt4, tok4, tka4, val4, opn4, hm4, row4, ksp4, kke4, kru4, rfl, l4_spr, u4_spr, l4_kee, u4_kee, l4_rul, u4_rul, l4_tpd, u4_tpd, l4_nxt, u4_nxt, l4_tok, u4_tok, l4_tka, u4_tka, l4_val, u4_val, l4_opn, u4_opn, l4_hm, u4_hm, l4_row, u4_row, l4_ksp, u4_ksp, l4_kke, u4_kke, l4_kru, u4_kru, f4_0, f4_1, f4_2, f4_3, f4_4, f4_5, f4_6, f4_7, f4_8, f4_9⟩ := iv_31 iv
    refine w_this (fun _ => rfl) m4 ?_
    refine w_ca (fun _ => rfl) rfl (c_mFindNow (d := d) iv     (fun y5 h6 iv7 F8 b9 b10 b11 b12 b13 b14 => ⟨_, rfl, ?_⟩))
    have F15 := fr_ca F F8 (fun t ht => by exact ht)
    refine w_pop (fun _ => rfl) (w_al (fun _ => rfl) ?_)
    have m16 := fr_at F8 m4 iv (ow_31 iv) rfl rfl
    refine w_this (fun _ => rfl) m16 ?_
    refine w_ca (fun _ => rfl) rfl (c_mTownNow (d := (d + 6)) iv7     (fun y17 b18 b19 b20 b21 => ⟨_, rfl, ?_⟩))
    refine w_is (fun _ => rfl) (w_icI (x := 0) rfl (w_is (fun _ => rfl) (w_nur k_847896 ?_)))
    exact l_mWishes_24     what_lo what_hi     k0 (g_mN g - 0 + 1 : Int).toNat h6 y17 0 (.inr (.inr (.inl 0))) iv7 F15 b14 (by omega) (by omega) (by omega) (by omega)  (by omega) (by omega) (by omega) (by omega) (by omega)
  · refine w_nezf (by omega) (by omega) (by omega)  (w_icI (x := (-2)) wn_2 (w_ri ?_))
    exact k0 (-2) h iv F (by omega) (by omega)
theorem k_860169 : m_cg 860169 = g_210_9 := rfl
theorem k_860206 : m_cg 860206 = g_210_46 := rfl
theorem l_mTurned_9 {g : w_G} {o : w_O} {h0 : m_H} {d : Nat} {Q : Option m_V → m_H → Prop} (k0 : ∀ (x : Int), ∀ h2 : m_H, w_Inv g o h2 → w_fr o [54, 55, 56, 57, 59] h0 h2 → -2147483648 ≤ x → x ≤ 2147483647 → Q (some (.inl (w_i x))) h2) : ∀ (k : Nat) (h : m_H) (tn ii : Int) (iv : w_Inv g o h) (F : w_fr o [54, 55, 56, 57, 59] h0 h) (mu : w_mu g o h) (tn_lo : -2147483648 ≤ tn) (tn_hi : tn ≤ 2147483647) (ii_lo : -2147483648 ≤ ii) (ii_hi : ii ≤ 2147483647) (i0_ : 0 ≤ ii) (i1_ : ii ≤ g_mH g) (n0_ : 0 ≤ tn) (n2_ : tn < 4096) (n1_ : tn < w_pw (g_mC g) ii), g_mH g - ii < (k : Int) → wp (d + 7) 860169 [.inr (.inl (some 31)), .inl (w_i tn), .inl (w_i ii)] [] h Q := by
  intro k
  induction k with
  | zero => intro h tn ii iv F mu tn_lo tn_hi ii_lo ii_hi i0_ i1_ n0_ n2_ n1_ hk; exact absurd hk (by omega)
  | succ k ih =>
    intro h tn ii iv F mu tn_lo tn_hi ii_lo ii_hi i0_ i1_ n0_ n2_ n1_ hk
    have W := iv_wm iv
    obtain ⟨U, p56, hU⟩ := (id mu)
    refine w_run k_860169 (w_il (fun _ => rfl) (w_al (fun _ => rfl) ?_))
    obtain ⟨_, m1, spr1, kee1, rul1, tpd1, nxt1, tok1, tka1, val1, opn1, hm1, row1, ksp1, kke1, kru1, rfl, l1_spr, u1_spr, l1_kee, u1_kee, l1_rul, u1_rul, l1_tpd, u1_tpd, l1_nxt, u1_nxt, l1_tok, u1_tok, l1_tka, u1_tka, l1_val, u1_val, l1_opn, u1_opn, l1_hm, u1_hm, l1_row, u1_row, l1_ksp, u1_ksp, l1_kke, u1_kke, l1_kru, u1_kru, f1_0, f1_1, f1_2, f1_3, f1_4, f1_5, f1_6, f1_7, f1_8, f1_9⟩ := iv_31 iv
    refine w_getf m1 rfl (fun _ => rfl) ?_
    refine w_ge2 (by omega) (by omega) (by omega) (by omega)  (fun c2 => ?_) (fun c2 => ?_)
    · refine w_run k_860206 (w_al (fun _ => rfl) (w_getf m1 rfl (fun _ => rfl) (w_il (fun _ => rfl) ?_)))
      obtain ⟨_, m3, A3, rfl⟩ := iv_57 iv
      refine w_aldI m3 (by omega) (by omega) (by omega) ?_
      obtain ⟨b4, b5⟩ := ag_rg A3 tn
      refine w_ri ?_
      exact k0 (a_g A3 tn) h iv F (by omega) (by omega)
    · refine w_il (fun _ => rfl) (w_al (fun _ => rfl) (w_getf m1 rfl (fun _ => rfl) (w_il (fun _ => rfl) (w_aldI p56 (by omega) (by omega) (by omega) ?_))))
      obtain ⟨b6, b7⟩ := ag_rg U ii
      have e8 := hU ii (by omega) (by omega)
      refine w_al (fun _ => rfl) (w_getf m1 rfl (fun _ => rfl) (w_il (fun _ => rfl) ?_))
      obtain ⟨_, m9, A9, rfl, e9⟩ := iv_33 iv
      refine w_aldI m9 (by omega) (by omega) (by omega) ?_
      obtain ⟨b10, b11⟩ := ag_rg A9 ii
      have e12 := e9 ii (by omega) (by omega)
      refine w_icI (x := 1) rfl (w_op (c := w_i ((a_g A9 ii) + 1)) (i_add (a_g A9 ii) 1) (w_al (fun _ => rfl) (w_getf m1 rfl (fun _ => rfl) (w_opz (c := w_i (((a_g A9 ii) + 1) % g_mC g)) (beq0 (by omega) (by omega) (by omega)) (i_rem (by omega) (by omega) (by omega) (by omega)) ?_))))
      have b13 : 0 ≤ (((a_g A9 ii) + 1) % g_mC g) ∧ (((a_g A9 ii) + 1) % g_mC g) < g_mC g := ⟨Int.emod_nonneg _ (by omega), Int.emod_lt_of_pos _ (by omega)⟩
      have hV := hU ii (by omega) (by omega) (by omega)
      have hP := pw_le (c := g_mC g) (m := ii + 1) (n := g_mH g) (by omega) (by omega) (by omega)
      rw [pw_s (by omega), ← iv_mN iv] at hP
      have hq := dig_add (a := tn) (P := w_pw (g_mC g) ii) (c := g_mC g) (d := (((a_g A9 ii) + 1) % g_mC g)) (by omega) (by omega) (by omega) (by omega)
      rw [← hV] at hq hP
      refine w_op (c := w_i ((a_g U ii) * (((a_g A9 ii) + 1) % g_mC g))) (i_mul (a_g U ii) (((a_g A9 ii) + 1) % g_mC g)) (w_op (c := w_i (tn + ((a_g U ii) * (((a_g A9 ii) + 1) % g_mC g)))) (i_add tn ((a_g U ii) * (((a_g A9 ii) + 1) % g_mC g))) (w_is (fun _ => rfl) (w_inc (c := w_i (ii + 1)) (fun _ => rfl) (i_addL (y := 1) rfl ii) (fun _ => rfl) (w_go ?_))))
      exact ih h (tn + ((a_g U ii) * (((a_g A9 ii) + 1) % g_mC g))) (ii + 1) iv F mu (by omega) (by omega) (by omega) (by omega)  (by omega) (by omega) (by omega) (by omega) (by rw [pw_s (by omega), ← hV]; omega) (by omega)
theorem k_860160 : m_cg 860160 = g_210_0 := rfl
theorem c_mTurned {g : w_G} {o : w_O} {h : m_H} {d : Nat} {Q : Option m_V → m_H → Prop} (iv : w_Inv g o h) (k0 : ∀ (x : Int), ∀ h2 : m_H, w_Inv g o h2 → w_fr o [54, 55, 56, 57, 59] h h2 → -2147483648 ≤ x → x ≤ 2147483647 → Q (some (.inl (w_i x))) h2) : wp (d + 7) 860160 [.inr (.inl (some 31)), .inr (.inr (.inl 0)), .inr (.inr (.inl 0))] [] h Q := by
  have F := fr_rf (o := o) (h := h) (W := [54, 55, 56, 57, 59])
  have W := iv_wm iv
  refine w_run k_860160 (w_al (fun _ => rfl) ?_)
  obtain ⟨_, m1, spr1, kee1, rul1, tpd1, nxt1, tok1, tka1, val1, opn1, hm1, row1, ksp1, kke1, kru1, rfl, l1_spr, u1_spr, l1_kee, u1_kee, l1_rul, u1_rul, l1_tpd, u1_tpd, l1_nxt, u1_nxt, l1_tok, u1_tok, l1_tka, u1_tka, l1_val, u1_val, l1_opn, u1_opn, l1_hm, u1_hm, l1_row, u1_row, l1_ksp, u1_ksp, l1_kke, u1_kke, l1_kru, u1_kru, f1_0, f1_1, f1_2, f1_3, f1_4, f1_5, f1_6, f1_7, f1_8, f1_9⟩ := iv_31 iv
  refine w_this (fun _ => rfl) m1 ?_
  refine w_ca (fun _ => rfl) rfl (c_mFindNow (d := d) iv     (fun y2 h3 iv4 F5 b6 b7 b8 b9 b10 b11 => ⟨_, rfl, ?_⟩))
  have F12 := fr_ca F F5 (fun t ht => by exact ht)
  refine w_pop (fun _ => rfl) (w_icI (x := 0) rfl (w_is (fun _ => rfl) (w_icI (x := 0) rfl (w_is (fun _ => rfl) (w_nur k_860169 ?_)))))
  exact l_mTurned_9          k0 (g_mH g - 0 + 1 : Int).toNat h3 0 0 iv4 F12 b11 (by omega) (by omega) (by omega) (by omega)  (by omega) (by omega) (by omega) (by omega) (by rw [pw_00]; omega) (by omega)
theorem k_864287 : m_cg 864287 = g_211_31 := rfl
theorem k_864324 : m_cg 864324 = g_211_68 := rfl
theorem k_864315 : m_cg 864315 = g_211_59 := rfl
theorem k_864316 : m_cg 864316 = g_211_60 := rfl
theorem l_mTouched_31 {g : w_G} {o : w_O} {h0 : m_H} {d : Nat} {Q : Option m_V → m_H → Prop} {tn : Int} (tn_lo : -2147483648 ≤ tn) (tn_hi : tn ≤ 2147483647) (k0 : ∀ (x : Int), ∀ h2 : m_H, w_Inv g o h2 → w_fr o [54, 55, 56, 57, 59] h0 h2 → -2147483648 ≤ x → x ≤ 2147483647 → Q (some (.inl (w_i x))) h2) : ∀ (k : Nat) (h : m_H) (n ii : Int) (iv : w_Inv g o h) (F : w_fr o [54, 55, 56, 57, 59] h0 h) (mu : w_mu g o h) (n_lo : -2147483648 ≤ n) (n_hi : n ≤ 2147483647) (ii_lo : -2147483648 ≤ ii) (ii_hi : ii ≤ 2147483647) (n0_ : 0 ≤ n) (n1_ : n ≤ ii) (i0_ : 0 ≤ ii) (i1_ : ii ≤ g_mH g) (t0_ : 0 ≤ tn), g_mH g - ii < (k : Int) → wp (d + 7) 864287 [.inr (.inl (some 31)), .inl (w_i tn), .inl (w_i n), .inl (w_i ii)] [] h Q := by
  intro k
  induction k with
  | zero => intro h n ii iv F mu n_lo n_hi ii_lo ii_hi n0_ n1_ i0_ i1_ t0_ hk; exact absurd hk (by omega)
  | succ k ih =>
    intro h n ii iv F mu n_lo n_hi ii_lo ii_hi n0_ n1_ i0_ i1_ t0_ hk
    have W := iv_wm iv
    refine w_run k_864287 (w_il (fun _ => rfl) (w_al (fun _ => rfl) ?_))
    obtain ⟨_, m1, spr1, kee1, rul1, tpd1, nxt1, tok1, tka1, val1, opn1, hm1, row1, ksp1, kke1, kru1, rfl, l1_spr, u1_spr, l1_kee, u1_kee, l1_rul, u1_rul, l1_tpd, u1_tpd, l1_nxt, u1_nxt, l1_tok, u1_tok, l1_tka, u1_tka, l1_val, u1_val, l1_opn, u1_opn, l1_hm, u1_hm, l1_row, u1_row, l1_ksp, u1_ksp, l1_kke, u1_kke, l1_kru, u1_kru, f1_0, f1_1, f1_2, f1_3, f1_4, f1_5, f1_6, f1_7, f1_8, f1_9⟩ := iv_31 iv
    refine w_getf m1 rfl (fun _ => rfl) ?_
    refine w_ge2 (by omega) (by omega) (by omega) (by omega)  (fun c2 => ?_) (fun c2 => ?_)
    · refine w_run k_864324 (w_il (fun _ => rfl) (w_ri ?_))
      exact k0 n h iv F (by omega) (by omega)
    · refine w_il (fun _ => rfl) (w_al (fun _ => rfl) (w_il (fun _ => rfl) (w_il (fun _ => rfl) (w_this (fun _ => rfl) m1 ?_))))
      refine w_ca (fun _ => rfl) rfl (c_mColourX (d := (d + 6)) iv (tn := tn) (ii := ii) (by omega) (by omega) (by omega) (by omega) (by omega) (by omega) (by omega) mu (fun y3 b4 b5 b6 b7 b8 => ⟨_, rfl, ?_⟩))
      refine w_al (fun _ => rfl) (w_getf m1 rfl (fun _ => rfl) (w_il (fun _ => rfl) ?_))
      obtain ⟨_, m9, A9, rfl, e9⟩ := iv_33 iv
      refine w_aldI m9 (by omega) (by omega) (by omega) ?_
      obtain ⟨b10, b11⟩ := ag_rg A9 ii
      have e12 := e9 ii (by omega) (by omega)
      refine w_eq2 (by omega) (by omega) (by omega) (by omega)  (fun c13 => ?_) (fun c13 => ?_)
      · refine w_run k_864315 (w_icI (x := 0) rfl (w_op (c := w_i (n + 0)) (i_add n 0) (w_is (fun _ => rfl) (w_inc (c := w_i (ii + 1)) (fun _ => rfl) (i_addL (y := 1) rfl ii) (fun _ => rfl) (w_go ?_)))))
        exact ih h (n + 0) (ii + 1) iv F mu (by omega) (by omega) (by omega) (by omega)  (by omega) (by omega) (by omega) (by omega) (by omega) (by omega)
      · refine w_icI (x := 1) rfl (w_go (w_run k_864316 (w_op (c := w_i (n + 1)) (i_add n 1) (w_is (fun _ => rfl) (w_inc (c := w_i (ii + 1)) (fun _ => rfl) (i_addL (y := 1) rfl ii) (fun _ => rfl) (w_go ?_))))))
        exact ih h (n + 1) (ii + 1) iv F mu (by omega) (by omega) (by omega) (by omega)  (by omega) (by omega) (by omega) (by omega) (by omega) (by omega)
theorem k_864256 : m_cg 864256 = g_211_0 := rfl
theorem k_864267 : m_cg 864267 = g_211_11 := rfl
theorem k_864283 : m_cg 864283 = g_211_27 := rfl
theorem c_mTouched {g : w_G} {o : w_O} {h : m_H} {d : Nat} {Q : Option m_V → m_H → Prop} (iv : w_Inv g o h) {tn : Int} (tn_lo : -2147483648 ≤ tn) (tn_hi : tn ≤ 2147483647) (k0 : ∀ (x : Int), ∀ h2 : m_H, w_Inv g o h2 → w_fr o [54, 55, 56, 57, 59] h h2 → -2147483648 ≤ x → x ≤ 2147483647 → Q (some (.inl (w_i x))) h2) : wp (d + 7) 864256 [.inr (.inl (some 31)), .inl (w_i tn), .inr (.inr (.inl 0)), .inr (.inr (.inl 0))] [] h Q := by
  have F := fr_rf (o := o) (h := h) (W := [54, 55, 56, 57, 59])
  have W := iv_wm iv
  refine w_run k_864256 (w_al (fun _ => rfl) (w_il (fun _ => rfl) ?_))
  obtain ⟨_, m1, spr1, kee1, rul1, tpd1, nxt1, tok1, tka1, val1, opn1, hm1, row1, ksp1, kke1, kru1, rfl, l1_spr, u1_spr, l1_kee, u1_kee, l1_rul, u1_rul, l1_tpd, u1_tpd, l1_nxt, u1_nxt, l1_tok, u1_tok, l1_tka, u1_tka, l1_val, u1_val, l1_opn, u1_opn, l1_hm, u1_hm, l1_row, u1_row, l1_ksp, u1_ksp, l1_kke, u1_kke, l1_kru, u1_kru, f1_0, f1_1, f1_2, f1_3, f1_4, f1_5, f1_6, f1_7, f1_8, f1_9⟩ := iv_31 iv
  refine w_this (fun _ => rfl) m1 ?_
  refine w_ca (fun _ => rfl) rfl (c_mIsTown (d := (d + 5)) iv (n := tn) (by omega) (by omega)   (fun b2 b3 => ⟨_, rfl, ?_⟩) (fun b4 => ⟨_, rfl, ?_⟩))
  · refine w_nezt (by omega) (by omega) (by omega)  (w_run k_864267 (w_al (fun _ => rfl) (w_this (fun _ => rfl) m1 ?_)))
    refine w_ca (fun _ => rfl) rfl (c_mFindNow (d := d) iv     (fun y5 h6 iv7 F8 b9 b10 b11 b12 b13 b14 => ⟨_, rfl, ?_⟩))
    have F15 := fr_ca F F8 (fun t ht => by exact ht)
    refine w_pop (fun _ => rfl) (w_al (fun _ => rfl) ?_)
    have m16 := fr_at F8 m1 iv (ow_31 iv) rfl rfl
    refine w_getf m16 rfl (fun _ => rfl) (w_il (fun _ => rfl) ?_)
    obtain ⟨_, m17, A17, rfl⟩ := iv_57 iv7
    refine w_aldI m17 (by omega) (by omega) (by omega) ?_
    obtain ⟨b18, b19⟩ := ag_rg A17 tn
    refine w_gez2 (by omega) (by omega)  (fun c20 => ?_) (fun c20 => ?_)
    · refine w_run k_864283 (w_icI (x := 0) rfl (w_is (fun _ => rfl) (w_icI (x := 0) rfl (w_is (fun _ => rfl) (w_nur k_864287 ?_)))))
      exact l_mTouched_31     tn_lo tn_hi     k0 (g_mH g - 0 + 1 : Int).toNat h6 0 0 iv7 F15 b14 (by omega) (by omega) (by omega) (by omega)  (by omega) (by omega) (by omega) (by omega) (by omega) (by omega)
    · refine w_icI (x := (-1)) wn_1 (w_ri ?_)
      exact k0 (-1) h6 iv7 F15 (by omega) (by omega)
  · refine w_nezf (by omega) (by omega) (by omega)  (w_icI (x := (-2)) wn_2 (w_ri ?_))
    exact k0 (-2) h iv F (by omega) (by omega)
theorem k_868356 : m_cg 868356 = g_212_4 := rfl
theorem k_868421 : m_cg 868421 = g_212_69 := rfl
theorem k_868415 : m_cg 868415 = g_212_63 := rfl
theorem l_mJoyOf_4 {g : w_G} {o : w_O} {h0 : m_H} {d : Nat} {Q : Option m_V → m_H → Prop} {tn : Int} (tn_lo : -2147483648 ≤ tn) (tn_hi : tn ≤ 2147483647) (t0_ : 0 ≤ tn) (k0 : ∀ (x : Int), ∀ h2 : m_H, w_Inv g o h2 → w_fr o [54] h0 h2 → -2147483648 ≤ x → x ≤ 2147483647 → Q (some (.inl (w_i x))) h2) : ∀ (k : Nat) (h : m_H) (n ii : Int) (iv : w_Inv g o h) (F : w_fr o [54] h0 h) (mu : w_mu g o h) (n_lo : -2147483648 ≤ n) (n_hi : n ≤ 2147483647) (ii_lo : -2147483648 ≤ ii) (ii_hi : ii ≤ 2147483647) (n0_ : 0 ≤ n) (n1_ : n ≤ 99 * ii) (i0_ : 0 ≤ ii) (i1_ : ii ≤ g_mH g), g_mH g - ii < (k : Int) → wp (d + 3) 868356 [.inr (.inl (some 31)), .inl (w_i tn), .inl (w_i n), .inl (w_i ii)] [] h Q := by
  intro k
  induction k with
  | zero => intro h n ii iv F mu n_lo n_hi ii_lo ii_hi n0_ n1_ i0_ i1_ hk; exact absurd hk (by omega)
  | succ k ih =>
    intro h n ii iv F mu n_lo n_hi ii_lo ii_hi n0_ n1_ i0_ i1_ hk
    have W := iv_wm iv
    refine w_run k_868356 (w_il (fun _ => rfl) (w_al (fun _ => rfl) ?_))
    obtain ⟨_, m1, spr1, kee1, rul1, tpd1, nxt1, tok1, tka1, val1, opn1, hm1, row1, ksp1, kke1, kru1, rfl, l1_spr, u1_spr, l1_kee, u1_kee, l1_rul, u1_rul, l1_tpd, u1_tpd, l1_nxt, u1_nxt, l1_tok, u1_tok, l1_tka, u1_tka, l1_val, u1_val, l1_opn, u1_opn, l1_hm, u1_hm, l1_row, u1_row, l1_ksp, u1_ksp, l1_kke, u1_kke, l1_kru, u1_kru, f1_0, f1_1, f1_2, f1_3, f1_4, f1_5, f1_6, f1_7, f1_8, f1_9⟩ := iv_31 iv
    refine w_getf m1 rfl (fun _ => rfl) ?_
    refine w_ge2 (by omega) (by omega) (by omega) (by omega)  (fun c2 => ?_) (fun c2 => ?_)
    · refine w_run k_868421 (w_il (fun _ => rfl) (w_ri ?_))
      exact k0 n h iv F (by omega) (by omega)
    · refine w_al (fun _ => rfl) (w_getf m1 rfl (fun _ => rfl) (w_il (fun _ => rfl) ?_))
      obtain ⟨_, m3, A3, rfl⟩ := iv_34 iv
      refine w_aldI m3 (by omega) (by omega) (by omega) ?_
      obtain ⟨b4, b5⟩ := ag_rg A3 ii
      refine w_icI (x := (-1)) wn_1 ?_
      refine w_eq2 (by omega) (by omega) (by omega) (by omega)  (fun c6 => ?_) (fun c6 => ?_)
      · refine w_run k_868415 (w_inc (c := w_i (ii + 1)) (fun _ => rfl) (i_addL (y := 1) rfl ii) (fun _ => rfl) (w_go ?_))
        exact ih h n (ii + 1) iv F mu (by omega) (by omega) (by omega) (by omega)  (by omega) (by omega) (by omega) (by omega) (by omega)
      · refine w_al (fun _ => rfl) (w_il (fun _ => rfl) (w_il (fun _ => rfl) (w_this (fun _ => rfl) m1 ?_)))
        refine w_ca (fun _ => rfl) rfl (c_mColourX (d := (d + 2)) iv (tn := tn) (ii := ii) (by omega) (by omega) (by omega) (by omega) (by omega) (by omega) (by omega) mu (fun y7 b8 b9 b10 b11 b12 => ⟨_, rfl, ?_⟩))
        refine w_al (fun _ => rfl) (w_getf m1 rfl (fun _ => rfl) (w_il (fun _ => rfl) (w_aldI m3 (by omega) (by omega) (by omega) ?_)))
        obtain ⟨b13, b14⟩ := ag_rg A3 ii
        refine w_ne2 (by omega) (by omega) (by omega) (by omega)  (fun c15 => ?_) (fun c15 => ?_)
        · refine w_run k_868415 (w_inc (c := w_i (ii + 1)) (fun _ => rfl) (i_addL (y := 1) rfl ii) (fun _ => rfl) (w_go ?_))
          exact ih h n (ii + 1) iv F mu (by omega) (by omega) (by omega) (by omega)  (by omega) (by omega) (by omega) (by omega) (by omega)
        · refine w_il (fun _ => rfl) (w_al (fun _ => rfl) (w_icI (x := 2) rfl (w_il (fun _ => rfl) (w_al (fun _ => rfl) (w_getf m1 rfl (fun _ => rfl) (w_il (fun _ => rfl) ?_))))))
          obtain ⟨_, m16, A16, rfl, e16⟩ := iv_33 iv
          refine w_aldI m16 (by omega) (by omega) (by omega) ?_
          obtain ⟨b17, b18⟩ := ag_rg A16 ii
          have e19 := e16 ii (by omega) (by omega)
          refine w_al (fun _ => rfl) (w_getf m1 rfl (fun _ => rfl) (w_il (fun _ => rfl) (w_aldI m3 (by omega) (by omega) (by omega) ?_)))
          obtain ⟨b20, b21⟩ := ag_rg A3 ii
          refine w_this (fun _ => rfl) m1 ?_
          refine w_ca (fun _ => rfl) rfl (c_mSays (d := d) iv (wh := 2) (ho := ii) (fr := (a_g A16 ii)) (t := (a_g A3 ii)) (by omega) (by omega) (by omega) (by omega) (by omega) (by omega) (by omega) (by omega) (by omega) (by omega) (by omega) (by omega)  (fun y22 h23 iv24 F25 b26 b27 => ⟨_, rfl, ?_⟩))
          have F28 := fr_ca F F25 (fun t ht => by exact ht)
          refine w_icI (x := 99) rfl ?_
          refine w_ca (fun _ => rfl) rfl (c_mBounded (d := (d + 2)) iv24 (n := y22) (mo := 99) (by omega) (by omega) (by omega) (by omega) (by omega)  (fun y29 b30 b31 b32 b33 => ⟨_, rfl, ?_⟩))
          refine w_op (c := w_i (n + y29)) (i_add n y29) (w_is (fun _ => rfl) (w_inc (c := w_i (ii + 1)) (fun _ => rfl) (i_addL (y := 1) rfl ii) (fun _ => rfl) (w_go ?_)))
          have mu34 := mu_fr iv mu F25 rfl
          exact ih h23 (n + y29) (ii + 1) iv24 F28 mu34 (by omega) (by omega) (by omega) (by omega)  (by omega) (by omega) (by omega) (by omega) (by omega)
theorem k_868352 : m_cg 868352 = g_212_0 := rfl
theorem c_mJoyOf {g : w_G} {o : w_O} {h : m_H} {d : Nat} {Q : Option m_V → m_H → Prop} (iv : w_Inv g o h) {tn : Int} (tn_lo : -2147483648 ≤ tn) (tn_hi : tn ≤ 2147483647) (t0_ : 0 ≤ tn) (mu : w_mu g o h) (k0 : ∀ (x : Int), ∀ h2 : m_H, w_Inv g o h2 → w_fr o [54] h h2 → -2147483648 ≤ x → x ≤ 2147483647 → Q (some (.inl (w_i x))) h2) : wp (d + 3) 868352 [.inr (.inl (some 31)), .inl (w_i tn), .inr (.inr (.inl 0)), .inr (.inr (.inl 0))] [] h Q := by
  have F := fr_rf (o := o) (h := h) (W := [54])
  have W := iv_wm iv
  refine w_run k_868352 (w_icI (x := 0) rfl (w_is (fun _ => rfl) (w_icI (x := 0) rfl (w_is (fun _ => rfl) (w_nur k_868356 ?_)))))
  exact l_mJoyOf_4     tn_lo tn_hi t0_    k0 (g_mH g - 0 + 1 : Int).toNat h 0 0 iv F mu (by omega) (by omega) (by omega) (by omega)  (by omega) (by omega) (by omega) (by omega) (by omega)
