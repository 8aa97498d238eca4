/-- what stands k deep at most can be read -/
def w_RL (k : Nat) : Prop := (∀ {g : w_G} {o : w_O} {h : m_H} {d : Nat} {Q : Option m_V → m_H → Prop} (iv : w_Inv g o h) {b : Int} {lev opn : Int} (lev_lo : -2147483648 ≤ lev) (lev_hi : lev ≤ 2147483647) (opn_lo : -2147483648 ≤ opn) (opn_hi : opn ≤ 2147483647) (l0_ : 0 ≤ lev) (l1_ : lev ≤ 5) (o0_ : 0 ≤ opn) (o1_ : opn ≤ 5) (hk : 14 * (5 - opn) + 2 * (6 - lev) + 1 < (k : Int)) (wr : w_wr g o h b) (k0 : ∀ h2 : m_H, w_Inv g o h2 → w_fr o [18, 22] h h2 → w_wr g o h2 b → Q none h2), wp (d + k + 3) 86016 [.inr (.inl (some 18)), .inl (w_i lev), .inl (w_i opn), .inr (.inr (.inl 0)), .inr (.inr (.inl 0))] [] h Q) ∧
  (∀ {g : w_G} {o : w_O} {h : m_H} {d : Nat} {Q : Option m_V → m_H → Prop} (iv : w_Inv g o h) {b : Int} {opn : Int} (opn_lo : -2147483648 ≤ opn) (opn_hi : opn ≤ 2147483647) (o0_ : 0 ≤ opn) (o1_ : opn ≤ 5) (hk : 14 * (5 - opn) + 8 < (k : Int)) (wr : w_wr g o h b) (k0 : ∀ h2 : m_H, w_Inv g o h2 → w_fr o [18, 22] h h2 → w_wr g o h2 b → Q none h2), wp (d + k + 3) 94208 [.inr (.inl (some 18)), .inl (w_i opn), .inr (.inr (.inl 0))] [] h Q) ∧
  (∀ {g : w_G} {o : w_O} {h : m_H} {d : Nat} {Q : Option m_V → m_H → Prop} (iv : w_Inv g o h) {b : Int} {opn : Int} (opn_lo : -2147483648 ≤ opn) (opn_hi : opn ≤ 2147483647) (o0_ : 0 ≤ opn) (o1_ : opn ≤ 5) (hk : 14 * (5 - opn) + 2 < (k : Int)) (wr : w_wr g o h b) (k0 : ∀ h2 : m_H, w_Inv g o h2 → w_fr o [18, 22] h h2 → w_wr g o h2 b → Q none h2), wp (d + k + 3) 98304 [.inr (.inl (some 18)), .inl (w_i opn)] [] h Q)
theorem k_86048 : m_cg 86048 = g_21_32 := rfl
theorem k_86093 : m_cg 86093 = g_21_77 := rfl
theorem l_RLs_32 {g : w_G} {o : w_O} {h0 : m_H} {d : Nat} {Q : Option m_V → m_H → Prop} {kk : Nat} {b : Int} {lev : Int} {opn : Int} (lev_lo : -2147483648 ≤ lev) (lev_hi : lev ≤ 2147483647) (opn_lo : -2147483648 ≤ opn) (opn_hi : opn ≤ 2147483647) (ihk : w_RL kk) (l0_ : 0 ≤ lev) (l1_ : lev ≤ 5) (o0_ : 0 ≤ opn) (o1_ : opn ≤ 5) (hr : 14 * (5 - opn) + 2 * (6 - lev) + 1 < (kk : Int) + 1) (k0 : ∀ h2 : m_H, w_Inv g o h2 → w_fr o [18, 22] h0 h2 → w_wr g o h2 b → Q none h2) : ∀ (k : Nat) (h : m_H) (i : Int) (x4_ : m_V) (iv : w_Inv g o h) (F : w_fr o [18, 22] h0 h) (wr : w_wr g o h b) (i_lo : -2147483648 ≤ i) (i_hi : i ≤ 2147483647) (i0 : 0 ≤ i) (i1 : i ≤ 160) (lv : lev ≤ 4), 160 - i < (k : Int) → wp ((d + kk) + 4) 86048 [.inr (.inl (some 18)), .inl (w_i lev), .inl (w_i opn), .inl (w_i i), x4_] [] h Q := by
  intro k
  induction k with
  | zero => intro h i x4_ iv F wr i_lo i_hi i0 i1 lv hk; exact absurd hk (by omega)
  | succ k ih =>
    intro h i x4_ iv F wr i_lo i_hi i0 i1 lv hk
    have W := iv_wc iv
    obtain ⟨siz0, atp0, tok0, flt0, wri0, p18, q1, q2, q3, q4, q5, q6, q7, q8, q9, q10, q11⟩ := (id wr)
    refine w_run k_86048 (w_il (fun _ => rfl) (w_icI (x := 160) rfl ?_))
    refine w_ge2 (by omega) (by omega) (by omega) (by omega)  (fun c1 => ?_) (fun c1 => ?_)
    · refine w_run k_86093 (w_rv ?_)
      exact k0 h iv F wr
    · refine w_al (fun _ => rfl) (w_il (fun _ => rfl) (w_this (fun _ => rfl) p18 ?_))
      refine w_ca (fun _ => rfl) rfl (c_joins (d := ((d + kk) + 3)) iv (lev := lev) (by omega) (by omega)   ⟨_, rfl, ?_⟩ ⟨_, rfl, ?_⟩)
      · refine w_eqzf (by omega) (by omega) (by omega)  (w_al (fun _ => rfl) (w_getf p18 rfl (fun _ => rfl) (w_is (fun _ => rfl) (w_al (fun _ => rfl) (w_this (fun _ => rfl) p18 ?_)))))
        refine w_cv (fun _ => rfl) rfl (c_advance (d := ((d + kk) + 3)) iv    wr (fun h2 iv3 F4 b5 => ⟨rfl, ?_⟩))
        have F6 := fr_ca F F4 (fun t ht => by simp at ht ⊢; omega)
        refine w_al (fun _ => rfl) (w_il (fun _ => rfl) (w_icI (x := 1) rfl (w_op (c := w_i (lev + 1)) (i_add lev 1) (w_il (fun _ => rfl) ?_))))
        obtain ⟨_, m7, siz7, atp7, tok7, flt7, wri7, rfl, l7_siz, u7_siz, l7_atp, u7_atp, l7_tok, u7_tok, l7_flt, u7_flt, l7_wri, u7_wri, f7_0, f7_1, f7_2, f7_3, f7_4, f7_5, f7_6⟩ := iv_18 iv3
        refine w_this (fun _ => rfl) m7 ?_
        refine w_cv (fun _ => rfl) rfl (ihk.1 (d := d) iv3 (lev := (lev + 1)) (opn := opn) (by omega) (by omega) (by omega) (by omega) (by omega) (by omega) (by omega) (by omega) (by omega) b5 (fun h8 iv9 F10 b11 => ⟨rfl, ?_⟩))
        have F12 := fr_ca F6 F10 (fun t ht => by exact ht)
        refine w_al (fun _ => rfl) (w_il (fun _ => rfl) ?_)
        obtain ⟨_, m13, siz13, atp13, tok13, flt13, wri13, rfl, l13_siz, u13_siz, l13_atp, u13_atp, l13_tok, u13_tok, l13_flt, u13_flt, l13_wri, u13_wri, f13_0, f13_1, f13_2, f13_3, f13_4, f13_5, f13_6⟩ := iv_18 iv9
        refine w_this (fun _ => rfl) m13 ?_
        refine w_cv (fun _ => rfl) rfl (c_write (d := ((d + kk) + 3)) iv9 (wo := tok0) (by omega) (by omega) (by omega) b11 (fun h14 iv15 F16 b17 => ⟨rfl, ?_⟩))
        have F18 := fr_ca F12 F16 (fun t ht => by exact ht)
        refine w_inc (c := w_i (i + 1)) (fun _ => rfl) (i_addL (y := 1) rfl i) (fun _ => rfl) (w_go ?_)
        exact ih h14 (i + 1) (.inl (w_i tok0)) iv15 F18 b17 (by omega) (by omega)  (by omega) (by omega) (by omega) (by omega)
      · refine w_eqzt (by omega) (by omega) (by omega)  (w_run k_86093 (w_rv ?_))
        exact k0 h iv F wr
theorem k_86016 : m_cg 86016 = g_21_0 := rfl
theorem k_86027 : m_cg 86027 = g_21_11 := rfl
theorem k_86038 : m_cg 86038 = g_21_22 := rfl
theorem c_RLs {g : w_G} {o : w_O} {h : m_H} {d : Nat} {Q : Option m_V → m_H → Prop} (iv : w_Inv g o h) {kk : Nat} {b : Int} {lev : Int} {opn : Int} (lev_lo : -2147483648 ≤ lev) (lev_hi : lev ≤ 2147483647) (opn_lo : -2147483648 ≤ opn) (opn_hi : opn ≤ 2147483647) (ihk : w_RL kk) (l0_ : 0 ≤ lev) (l1_ : lev ≤ 5) (o0_ : 0 ≤ opn) (o1_ : opn ≤ 5) (hr : 14 * (5 - opn) + 2 * (6 - lev) + 1 < (kk : Int) + 1) (wr : w_wr g o h b) (k0 : ∀ h2 : m_H, w_Inv g o h2 → w_fr o [18, 22] h h2 → w_wr g o h2 b → Q none h2) : wp ((d + kk) + 4) 86016 [.inr (.inl (some 18)), .inl (w_i lev), .inl (w_i opn), .inr (.inr (.inl 0)), .inr (.inr (.inl 0))] [] h Q := by
  have F := fr_rf (o := o) (h := h) (W := [18, 22])
  have W := iv_wc iv
  obtain ⟨siz0, atp0, tok0, flt0, wri0, p18, q1, q2, q3, q4, q5, q6, q7, q8, q9, q10, q11⟩ := (id wr)
  refine w_run k_86016 (w_il (fun _ => rfl) (w_icI (x := 2) rfl ?_))
  refine w_ne2 (by omega) (by omega) (by omega) (by omega)  (fun c1 => ?_) (fun c1 => ?_)
  · refine w_run k_86027 (w_il (fun _ => rfl) (w_icI (x := 5) rfl ?_))
    refine w_lt2 (by omega) (by omega) (by omega) (by omega)  (fun c2 => ?_) (fun c2 => ?_)
    · refine w_run k_86038 (w_al (fun _ => rfl) (w_il (fun _ => rfl) (w_icI (x := 1) rfl (w_op (c := w_i (lev + 1)) (i_add lev 1) (w_il (fun _ => rfl) (w_this (fun _ => rfl) p18 ?_))))))
      refine w_cv (fun _ => rfl) rfl (ihk.1 (d := d) iv (lev := (lev + 1)) (opn := opn) (by omega) (by omega) (by omega) (by omega) (by omega) (by omega) (by omega) (by omega) (by omega) wr (fun h3 iv4 F5 b6 => ⟨rfl, ?_⟩))
      have F7 := fr_ca F F5 (fun t ht => by exact ht)
      refine w_icI (x := 0) rfl (w_is (fun _ => rfl) (w_nur k_86048 ?_))
      exact l_RLs_32  (kk := kk) (b := b)   lev_lo lev_hi opn_lo opn_hi ihk l0_ l1_ o0_ o1_ hr    k0 (160 - 0 + 1 : Int).toNat h3 0 (.inr (.inr (.inl 0))) iv4 F7 b6 (by omega) (by omega)  (by omega) (by omega) (by omega) (by omega)
    · refine w_al (fun _ => rfl) (w_il (fun _ => rfl) (w_this (fun _ => rfl) p18 ?_))
      refine w_cv (fun _ => rfl) rfl (ihk.2.2 (d := d) iv (opn := opn) (by omega) (by omega) (by omega) (by omega) (by omega) wr (fun h8 iv9 F10 b11 => ⟨rfl, ?_⟩))
      have F12 := fr_ca F F10 (fun t ht => by exact ht)
      refine w_rv ?_
      exact k0 h8 iv9 F12 b11
  · refine w_al (fun _ => rfl) (w_il (fun _ => rfl) (w_this (fun _ => rfl) p18 ?_))
    refine w_cv (fun _ => rfl) rfl (ihk.2.1 (d := d) iv (opn := opn) (by omega) (by omega) (by omega) (by omega) (by omega) wr (fun h13 iv14 F15 b16 => ⟨rfl, ?_⟩))
    have F17 := fr_ca F F15 (fun t ht => by exact ht)
    refine w_rv ?_
    exact k0 h13 iv14 F17 b16
theorem k_94208 : m_cg 94208 = g_23_0 := rfl
theorem k_94239 : m_cg 94239 = g_23_31 := rfl
theorem k_94263 : m_cg 94263 = g_23_55 := rfl
theorem k_94283 : m_cg 94283 = g_23_75 := rfl
theorem k_94238 : m_cg 94238 = g_23_30 := rfl
theorem c_RNs {g : w_G} {o : w_O} {h : m_H} {d : Nat} {Q : Option m_V → m_H → Prop} (iv : w_Inv g o h) {kk : Nat} {b : Int} {opn : Int} (opn_lo : -2147483648 ≤ opn) (opn_hi : opn ≤ 2147483647) (ihk : w_RL kk) (o0_ : 0 ≤ opn) (o1_ : opn ≤ 5) (hr : 14 * (5 - opn) + 8 < (kk : Int) + 1) (wr : w_wr g o h b) (k0 : ∀ h2 : m_H, w_Inv g o h2 → w_fr o [18, 22] h h2 → w_wr g o h2 b → Q none h2) : wp ((d + kk) + 4) 94208 [.inr (.inl (some 18)), .inl (w_i opn), .inr (.inr (.inl 0))] [] h Q := by
  have F := fr_rf (o := o) (h := h) (W := [18, 22])
  have W := iv_wc iv
  obtain ⟨siz0, atp0, tok0, flt0, wri0, p18, q1, q2, q3, q4, q5, q6, q7, q8, q9, q10, q11⟩ := (id wr)
  refine w_run k_94208 (w_al (fun _ => rfl) (w_getf p18 rfl (fun _ => rfl) (w_icI (x := 8) rfl ?_)))
  refine w_ne2 (by omega) (by omega) (by omega) (by omega)  (fun c1 => ?_) (fun c1 => ?_)
  · refine w_run k_94239 (w_al (fun _ => rfl) (w_icI (x := 3) rfl (w_il (fun _ => rfl) (w_this (fun _ => rfl) p18 ?_))))
    refine w_cv (fun _ => rfl) rfl (ihk.1 (d := d) iv (lev := 3) (opn := opn) (by omega) (by omega) (by omega) (by omega) (by omega) (by omega) (by omega) (by omega) (by omega) wr (fun h2 iv3 F4 b5 => ⟨rfl, ?_⟩))
    have F6 := fr_ca F F4 (fun t ht => by exact ht)
    refine w_al (fun _ => rfl) ?_
    obtain ⟨_, m7, siz7, atp7, tok7, flt7, wri7, rfl, l7_siz, u7_siz, l7_atp, u7_atp, l7_tok, u7_tok, l7_flt, u7_flt, l7_wri, u7_wri, f7_0, f7_1, f7_2, f7_3, f7_4, f7_5, f7_6⟩ := iv_18 iv3
    refine w_getf m7 rfl (fun _ => rfl) (w_icI (x := 9) rfl ?_)
    refine w_eq2 (by omega) (by omega) (by omega) (by omega)  (fun c8 => ?_) (fun c8 => ?_)
    · refine w_run k_94263 (w_al (fun _ => rfl) (w_getf m7 rfl (fun _ => rfl) (w_is (fun _ => rfl) (w_al (fun _ => rfl) (w_this (fun _ => rfl) m7 ?_)))))
      refine w_cv (fun _ => rfl) rfl (c_advance (d := ((d + kk) + 3)) iv3    b5 (fun h9 iv10 F11 b12 => ⟨rfl, ?_⟩))
      have F13 := fr_ca F6 F11 (fun t ht => by simp at ht ⊢; omega)
      refine w_al (fun _ => rfl) (w_icI (x := 3) rfl (w_il (fun _ => rfl) ?_))
      obtain ⟨_, m14, siz14, atp14, tok14, flt14, wri14, rfl, l14_siz, u14_siz, l14_atp, u14_atp, l14_tok, u14_tok, l14_flt, u14_flt, l14_wri, u14_wri, f14_0, f14_1, f14_2, f14_3, f14_4, f14_5, f14_6⟩ := iv_18 iv10
      refine w_this (fun _ => rfl) m14 ?_
      refine w_cv (fun _ => rfl) rfl (ihk.1 (d := d) iv10 (lev := 3) (opn := opn) (by omega) (by omega) (by omega) (by omega) (by omega) (by omega) (by omega) (by omega) (by omega) b12 (fun h15 iv16 F17 b18 => ⟨rfl, ?_⟩))
      have F19 := fr_ca F13 F17 (fun t ht => by exact ht)
      refine w_al (fun _ => rfl) (w_il (fun _ => rfl) ?_)
      obtain ⟨_, m20, siz20, atp20, tok20, flt20, wri20, rfl, l20_siz, u20_siz, l20_atp, u20_atp, l20_tok, u20_tok, l20_flt, u20_flt, l20_wri, u20_wri, f20_0, f20_1, f20_2, f20_3, f20_4, f20_5, f20_6⟩ := iv_18 iv16
      refine w_this (fun _ => rfl) m20 ?_
      refine w_cv (fun _ => rfl) rfl (c_write (d := ((d + kk) + 3)) iv16 (wo := tok7) (by omega) (by omega) (by omega) b18 (fun h21 iv22 F23 b24 => ⟨rfl, ?_⟩))
      have F25 := fr_ca F19 F23 (fun t ht => by exact ht)
      refine w_rv ?_
      exact k0 h21 iv22 F25 b24
    · refine w_al (fun _ => rfl) (w_getf m7 rfl (fun _ => rfl) (w_icI (x := 10) rfl ?_))
      refine w_ne2 (by omega) (by omega) (by omega) (by omega)  (fun c26 => ?_) (fun c26 => ?_)
      · refine w_run k_94283 (w_rv ?_)
        exact k0 h2 iv3 F6 b5
      · refine w_al (fun _ => rfl) (w_getf m7 rfl (fun _ => rfl) (w_is (fun _ => rfl) (w_al (fun _ => rfl) (w_this (fun _ => rfl) m7 ?_))))
        refine w_cv (fun _ => rfl) rfl (c_advance (d := ((d + kk) + 3)) iv3    b5 (fun h27 iv28 F29 b30 => ⟨rfl, ?_⟩))
        have F31 := fr_ca F6 F29 (fun t ht => by simp at ht ⊢; omega)
        refine w_al (fun _ => rfl) (w_icI (x := 3) rfl (w_il (fun _ => rfl) ?_))
        obtain ⟨_, m32, siz32, atp32, tok32, flt32, wri32, rfl, l32_siz, u32_siz, l32_atp, u32_atp, l32_tok, u32_tok, l32_flt, u32_flt, l32_wri, u32_wri, f32_0, f32_1, f32_2, f32_3, f32_4, f32_5, f32_6⟩ := iv_18 iv28
        refine w_this (fun _ => rfl) m32 ?_
        refine w_cv (fun _ => rfl) rfl (ihk.1 (d := d) iv28 (lev := 3) (opn := opn) (by omega) (by omega) (by omega) (by omega) (by omega) (by omega) (by omega) (by omega) (by omega) b30 (fun h33 iv34 F35 b36 => ⟨rfl, ?_⟩))
        have F37 := fr_ca F31 F35 (fun t ht => by exact ht)
        refine w_al (fun _ => rfl) (w_il (fun _ => rfl) ?_)
        obtain ⟨_, m38, siz38, atp38, tok38, flt38, wri38, rfl, l38_siz, u38_siz, l38_atp, u38_atp, l38_tok, u38_tok, l38_flt, u38_flt, l38_wri, u38_wri, f38_0, f38_1, f38_2, f38_3, f38_4, f38_5, f38_6⟩ := iv_18 iv34
        refine w_this (fun _ => rfl) m38 ?_
        refine w_cv (fun _ => rfl) rfl (c_write (d := ((d + kk) + 3)) iv34 (wo := tok7) (by omega) (by omega) (by omega) b36 (fun h39 iv40 F41 b42 => ⟨rfl, ?_⟩))
        have F43 := fr_ca F37 F41 (fun t ht => by exact ht)
        refine w_rv ?_
        exact k0 h39 iv40 F43 b42
  · refine w_al (fun _ => rfl) (w_il (fun _ => rfl) (w_this (fun _ => rfl) p18 ?_))
    refine w_ca (fun _ => rfl) rfl (c_opens (d := ((d + kk) + 2)) iv (opn := opn) (by omega) (by omega)  wr (fun h44 iv45 F46 b47 b48 => ⟨_, rfl, ?_⟩) (fun h49 iv50 F51 b52 => ⟨_, rfl, ?_⟩))
    · have F53 := fr_ca F F46 (fun t ht => by simp at ht ⊢; omega)
      refine w_eqzf (by omega) (by omega) (by omega)  (w_al (fun _ => rfl) (w_il (fun _ => rfl) (w_icI (x := 1) rfl (w_op (c := w_i (opn + 1)) (i_add opn 1) ?_))))
      obtain ⟨_, m54, siz54, atp54, tok54, flt54, wri54, rfl, l54_siz, u54_siz, l54_atp, u54_atp, l54_tok, u54_tok, l54_flt, u54_flt, l54_wri, u54_wri, f54_0, f54_1, f54_2, f54_3, f54_4, f54_5, f54_6⟩ := iv_18 iv45
      refine w_this (fun _ => rfl) m54 ?_
      refine w_cv (fun _ => rfl) rfl (ihk.2.1 (d := d) iv45 (opn := (opn + 1)) (by omega) (by omega) (by omega) (by omega) (by omega) b48 (fun h55 iv56 F57 b58 => ⟨rfl, ?_⟩))
      have F59 := fr_ca F53 F57 (fun t ht => by exact ht)
      refine w_al (fun _ => rfl) (w_icI (x := 8) rfl ?_)
      obtain ⟨_, m60, siz60, atp60, tok60, flt60, wri60, rfl, l60_siz, u60_siz, l60_atp, u60_atp, l60_tok, u60_tok, l60_flt, u60_flt, l60_wri, u60_wri, f60_0, f60_1, f60_2, f60_3, f60_4, f60_5, f60_6⟩ := iv_18 iv56
      refine w_this (fun _ => rfl) m60 ?_
      refine w_cv (fun _ => rfl) rfl (c_write (d := ((d + kk) + 3)) iv56 (wo := 8) (by omega) (by omega) (by omega) b58 (fun h61 iv62 F63 b64 => ⟨rfl, ?_⟩))
      have F65 := fr_ca F59 F63 (fun t ht => by exact ht)
      refine w_rv ?_
      exact k0 h61 iv62 F65 b64
    · have F66 := fr_ca F F51 (fun t ht => by simp at ht ⊢; omega)
      refine w_eqzt (by omega) (by omega) (by omega)  (w_run k_94238 (w_rv ?_))
      exact k0 h49 iv50 F66 b52
theorem k_98304 : m_cg 98304 = g_24_0 := rfl
theorem k_98322 : m_cg 98322 = g_24_18 := rfl
theorem k_98408 : m_cg 98408 = g_24_104 := rfl
theorem k_98337 : m_cg 98337 = g_24_33 := rfl
theorem k_98370 : m_cg 98370 = g_24_66 := rfl
theorem k_98404 : m_cg 98404 = g_24_100 := rfl
theorem c_ROs {g : w_G} {o : w_O} {h : m_H} {d : Nat} {Q : Option m_V → m_H → Prop} (iv : w_Inv g o h) {kk : Nat} {b : Int} {opn : Int} (opn_lo : -2147483648 ≤ opn) (opn_hi : opn ≤ 2147483647) (ihk : w_RL kk) (o0_ : 0 ≤ opn) (o1_ : opn ≤ 5) (hr : 14 * (5 - opn) + 2 < (kk : Int) + 1) (wr : w_wr g o h b) (k0 : ∀ h2 : m_H, w_Inv g o h2 → w_fr o [18, 22] h h2 → w_wr g o h2 b → Q none h2) : wp ((d + kk) + 4) 98304 [.inr (.inl (some 18)), .inl (w_i opn)] [] h Q := by
  have F := fr_rf (o := o) (h := h) (W := [18, 22])
  have W := iv_wc iv
  obtain ⟨siz0, atp0, tok0, flt0, wri0, p18, q1, q2, q3, q4, q5, q6, q7, q8, q9, q10, q11⟩ := (id wr)
  refine w_run k_98304 (w_al (fun _ => rfl) (w_getf p18 rfl (fun _ => rfl) (w_icI (x := 6) rfl ?_)))
  refine w_lt2 (by omega) (by omega) (by omega) (by omega)  (fun c1 => ?_) (fun c1 => ?_)
  · refine w_run k_98322 (w_al (fun _ => rfl) (w_al (fun _ => rfl) (w_getf p18 rfl (fun _ => rfl) (w_this (fun _ => rfl) p18 ?_))))
    refine w_cv (fun _ => rfl) rfl (c_write (d := ((d + kk) + 3)) iv (wo := tok0) (by omega) (by omega) (by omega) wr (fun h2 iv3 F4 b5 => ⟨rfl, ?_⟩))
    have F6 := fr_ca F F4 (fun t ht => by exact ht)
    refine w_al (fun _ => rfl) ?_
    obtain ⟨_, m7, siz7, atp7, tok7, flt7, wri7, rfl, l7_siz, u7_siz, l7_atp, u7_atp, l7_tok, u7_tok, l7_flt, u7_flt, l7_wri, u7_wri, f7_0, f7_1, f7_2, f7_3, f7_4, f7_5, f7_6⟩ := iv_18 iv3
    refine w_this (fun _ => rfl) m7 ?_
    refine w_cv (fun _ => rfl) rfl (c_advance (d := ((d + kk) + 3)) iv3    b5 (fun h8 iv9 F10 b11 => ⟨rfl, ?_⟩))
    have F12 := fr_ca F6 F10 (fun t ht => by simp at ht ⊢; omega)
    refine w_go (w_run k_98408 (w_rv ?_))
    exact k0 h8 iv9 F12 b11
  · refine w_al (fun _ => rfl) (w_getf p18 rfl (fun _ => rfl) (w_icI (x := 32) rfl ?_))
    refine w_lt2 (by omega) (by omega) (by omega) (by omega)  (fun c13 => ?_) (fun c13 => ?_)
    · refine w_run k_98337 (w_al (fun _ => rfl) (w_getf p18 rfl (fun _ => rfl) (w_icI (x := 12) rfl ?_)))
      refine w_ne2 (by omega) (by omega) (by omega) (by omega)  (fun c14 => ?_) (fun c14 => ?_)
      · refine w_run k_98370 (w_al (fun _ => rfl) (w_getf p18 rfl (fun _ => rfl) (w_icI (x := 18) rfl ?_)))
        refine w_ne2 (by omega) (by omega) (by omega) (by omega)  (fun c15 => ?_) (fun c15 => ?_)
        · refine w_run k_98404 (w_al (fun _ => rfl) (w_this (fun _ => rfl) p18 ?_))
          refine w_cv (fun _ => rfl) rfl (c_fail (d := ((d + kk) + 3)) iv    wr (fun h16 iv17 F18 b19 => ⟨rfl, ?_⟩))
          have F20 := fr_ca F F18 (fun t ht => by simp at ht ⊢; omega)
          refine w_rv ?_
          exact k0 h16 iv17 F20 b19
        · refine w_al (fun _ => rfl) (w_il (fun _ => rfl) (w_this (fun _ => rfl) p18 ?_))
          refine w_ca (fun _ => rfl) rfl (c_opens (d := ((d + kk) + 2)) iv (opn := opn) (by omega) (by omega)  wr (fun h21 iv22 F23 b24 b25 => ⟨_, rfl, ?_⟩) (fun h26 iv27 F28 b29 => ⟨_, rfl, ?_⟩))
          · have F30 := fr_ca F F23 (fun t ht => by simp at ht ⊢; omega)
            refine w_eqzf (by omega) (by omega) (by omega)  (w_al (fun _ => rfl) (w_icI (x := 0) rfl (w_il (fun _ => rfl) (w_icI (x := 1) rfl (w_op (c := w_i (opn + 1)) (i_add opn 1) ?_)))))
            obtain ⟨_, m31, siz31, atp31, tok31, flt31, wri31, rfl, l31_siz, u31_siz, l31_atp, u31_atp, l31_tok, u31_tok, l31_flt, u31_flt, l31_wri, u31_wri, f31_0, f31_1, f31_2, f31_3, f31_4, f31_5, f31_6⟩ := iv_18 iv22
            refine w_this (fun _ => rfl) m31 ?_
            refine w_cv (fun _ => rfl) rfl (ihk.1 (d := d) iv22 (lev := 0) (opn := (opn + 1)) (by omega) (by omega) (by omega) (by omega) (by omega) (by omega) (by omega) (by omega) (by omega) b25 (fun h32 iv33 F34 b35 => ⟨rfl, ?_⟩))
            have F36 := fr_ca F30 F34 (fun t ht => by exact ht)
            refine w_al (fun _ => rfl) (w_icI (x := 19) rfl ?_)
            obtain ⟨_, m37, siz37, atp37, tok37, flt37, wri37, rfl, l37_siz, u37_siz, l37_atp, u37_atp, l37_tok, u37_tok, l37_flt, u37_flt, l37_wri, u37_wri, f37_0, f37_1, f37_2, f37_3, f37_4, f37_5, f37_6⟩ := iv_18 iv33
            refine w_this (fun _ => rfl) m37 ?_
            refine w_cv (fun _ => rfl) rfl (c_expect (d := ((d + kk) + 2)) iv33 (wa := 19) (by omega) (by omega)  b35 (fun h38 iv39 F40 b41 => ⟨rfl, ?_⟩))
            have F42 := fr_ca F36 F40 (fun t ht => by simp at ht ⊢; omega)
            refine w_go (w_run k_98408 (w_rv ?_))
            exact k0 h38 iv39 F42 b41
          · have F43 := fr_ca F F28 (fun t ht => by simp at ht ⊢; omega)
            refine w_eqzt (by omega) (by omega) (by omega)  (w_run k_98408 (w_rv ?_))
            exact k0 h26 iv27 F43 b29
      · refine w_al (fun _ => rfl) (w_il (fun _ => rfl) (w_this (fun _ => rfl) p18 ?_))
        refine w_ca (fun _ => rfl) rfl (c_opens (d := ((d + kk) + 2)) iv (opn := opn) (by omega) (by omega)  wr (fun h44 iv45 F46 b47 b48 => ⟨_, rfl, ?_⟩) (fun h49 iv50 F51 b52 => ⟨_, rfl, ?_⟩))
        · have F53 := fr_ca F F46 (fun t ht => by simp at ht ⊢; omega)
          refine w_eqzf (by omega) (by omega) (by omega)  (w_al (fun _ => rfl) (w_il (fun _ => rfl) (w_icI (x := 1) rfl (w_op (c := w_i (opn + 1)) (i_add opn 1) ?_))))
          obtain ⟨_, m54, siz54, atp54, tok54, flt54, wri54, rfl, l54_siz, u54_siz, l54_atp, u54_atp, l54_tok, u54_tok, l54_flt, u54_flt, l54_wri, u54_wri, f54_0, f54_1, f54_2, f54_3, f54_4, f54_5, f54_6⟩ := iv_18 iv45
          refine w_this (fun _ => rfl) m54 ?_
          refine w_cv (fun _ => rfl) rfl (ihk.2.2 (d := d) iv45 (opn := (opn + 1)) (by omega) (by omega) (by omega) (by omega) (by omega) b48 (fun h55 iv56 F57 b58 => ⟨rfl, ?_⟩))
          have F59 := fr_ca F53 F57 (fun t ht => by exact ht)
          refine w_al (fun _ => rfl) (w_icI (x := 14) rfl ?_)
          obtain ⟨_, m60, siz60, atp60, tok60, flt60, wri60, rfl, l60_siz, u60_siz, l60_atp, u60_atp, l60_tok, u60_tok, l60_flt, u60_flt, l60_wri, u60_wri, f60_0, f60_1, f60_2, f60_3, f60_4, f60_5, f60_6⟩ := iv_18 iv56
          refine w_this (fun _ => rfl) m60 ?_
          refine w_cv (fun _ => rfl) rfl (c_write (d := ((d + kk) + 3)) iv56 (wo := 14) (by omega) (by omega) (by omega) b58 (fun h61 iv62 F63 b64 => ⟨rfl, ?_⟩))
          have F65 := fr_ca F59 F63 (fun t ht => by exact ht)
          refine w_go (w_run k_98408 (w_rv ?_))
          exact k0 h61 iv62 F65 b64
        · have F66 := fr_ca F F51 (fun t ht => by simp at ht ⊢; omega)
          refine w_eqzt (by omega) (by omega) (by omega)  (w_run k_98408 (w_rv ?_))
          exact k0 h49 iv50 F66 b52
    · refine w_al (fun _ => rfl) (w_al (fun _ => rfl) (w_getf p18 rfl (fun _ => rfl) (w_this (fun _ => rfl) p18 ?_)))
      refine w_cv (fun _ => rfl) rfl (c_write (d := ((d + kk) + 3)) iv (wo := tok0) (by omega) (by omega) (by omega) wr (fun h67 iv68 F69 b70 => ⟨rfl, ?_⟩))
      have F71 := fr_ca F F69 (fun t ht => by exact ht)
      refine w_al (fun _ => rfl) ?_
      obtain ⟨_, m72, siz72, atp72, tok72, flt72, wri72, rfl, l72_siz, u72_siz, l72_atp, u72_atp, l72_tok, u72_tok, l72_flt, u72_flt, l72_wri, u72_wri, f72_0, f72_1, f72_2, f72_3, f72_4, f72_5, f72_6⟩ := iv_18 iv68
      refine w_this (fun _ => rfl) m72 ?_
      refine w_cv (fun _ => rfl) rfl (c_advance (d := ((d + kk) + 3)) iv68    b70 (fun h73 iv74 F75 b76 => ⟨rfl, ?_⟩))
      have F77 := fr_ca F71 F75 (fun t ht => by simp at ht ⊢; omega)
      refine w_go (w_run k_98408 (w_rv ?_))
      exact k0 h73 iv74 F77 b76
theorem RL_all : ∀ k, w_RL k := by
  intro k
  induction k with
  | zero => exact ⟨fun {g o h d Q} iv {b lev opn} a1 a2 a3 a4 a5 a6 a7 a8 hk => absurd hk (by omega), fun {g o h d Q} iv {b opn} a1 a2 a3 a4 hk => absurd hk (by omega), fun {g o h d Q} iv {b opn} a1 a2 a3 a4 hk => absurd hk (by omega)⟩
  | succ k ih =>
    refine ⟨fun {g o h d Q} iv {b lev opn} a1 a2 a3 a4 a5 a6 a7 a8 hk wr k0 => ?_, fun {g o h d Q} iv {b opn} a1 a2 a3 a4 hk wr k0 => ?_, fun {g o h d Q} iv {b opn} a1 a2 a3 a4 hk wr k0 => ?_⟩
    · rw [show d + (k + 1) + 3 = d + k + 4 from by omega]
      exact c_RLs iv a1 a2 a3 a4 ih a5 a6 a7 a8 (by omega) wr k0
    · rw [show d + (k + 1) + 3 = d + k + 4 from by omega]
      exact c_RNs iv a1 a2 ih a3 a4 (by omega) wr k0
    · rw [show d + (k + 1) + 3 = d + k + 4 from by omega]
      exact c_ROs iv a1 a2 ih a3 a4 (by omega) wr k0
theorem RL_84 : (∀ {g : w_G} {o : w_O} {h : m_H} {d : Nat} {Q : Option m_V → m_H → Prop} (iv : w_Inv g o h) {b : Int} {lev opn : Int} (lev_lo : -2147483648 ≤ lev) (lev_hi : lev ≤ 2147483647) (opn_lo : -2147483648 ≤ opn) (opn_hi : opn ≤ 2147483647) (l0_ : 0 ≤ lev) (l1_ : lev ≤ 5) (o0_ : 0 ≤ opn) (o1_ : opn ≤ 5) (hk : 14 * (5 - opn) + 2 * (6 - lev) + 1 < ((84 : Nat) : Int)) (wr : w_wr g o h b) (k0 : ∀ h2 : m_H, w_Inv g o h2 → w_fr o [18, 22] h h2 → w_wr g o h2 b → Q none h2), wp (d + 87) 86016 [.inr (.inl (some 18)), .inl (w_i lev), .inl (w_i opn), .inr (.inr (.inl 0)), .inr (.inr (.inl 0))] [] h Q) := (RL_all 84).1
theorem k_65536 : m_cg 65536 = g_16_0 := rfl
theorem c_readClause {g : w_G} {o : w_O} {h : m_H} {d : Nat} {Q : Option m_V → m_H → Prop} (iv : w_Inv g o h) {b : Int} {key : Int} (key_lo : -2147483648 ≤ key) (key_hi : key ≤ 2147483647) (wr : w_wr g o h b) (k0 : ∀ h2 : m_H, w_Inv g o h2 → w_fr o [18, 22] h h2 → w_wr g o h2 b → Q none h2) : wp (d + 88) 65536 [.inr (.inl (some 18)), .inl (w_i key)] [] h Q := by
  have F := fr_rf (o := o) (h := h) (W := [18, 22])
  have W := iv_wc iv
  refine w_run k_65536 (w_al (fun _ => rfl) (w_il (fun _ => rfl) ?_))
  obtain ⟨_, m1, siz1, atp1, tok1, flt1, wri1, rfl, l1_siz, u1_siz, l1_atp, u1_atp, l1_tok, u1_tok, l1_flt, u1_flt, l1_wri, u1_wri, f1_0, f1_1, f1_2, f1_3, f1_4, f1_5, f1_6⟩ := iv_18 iv
  refine w_this (fun _ => rfl) m1 ?_
  refine w_cv (fun _ => rfl) rfl (c_expect (d := (d + 86)) iv (wa := key) (by omega) (by omega)  wr (fun h2 iv3 F4 b5 => ⟨rfl, ?_⟩))
  have F6 := fr_ca F F4 (fun t ht => by simp at ht ⊢; omega)
  refine w_al (fun _ => rfl) (w_icI (x := 0) rfl (w_icI (x := 0) rfl ?_))
  obtain ⟨_, m7, siz7, atp7, tok7, flt7, wri7, rfl, l7_siz, u7_siz, l7_atp, u7_atp, l7_tok, u7_tok, l7_flt, u7_flt, l7_wri, u7_wri, f7_0, f7_1, f7_2, f7_3, f7_4, f7_5, f7_6⟩ := iv_18 iv3
  refine w_this (fun _ => rfl) m7 ?_
  refine w_cv (fun _ => rfl) rfl (RL_84 (d := d) iv3 (lev := 0) (opn := 0) (by omega) (by omega) (by omega) (by omega) (by omega) (by omega) (by omega) (by omega) (by omega) b5 (fun h8 iv9 F10 b11 => ⟨rfl, ?_⟩))
  have F12 := fr_ca F6 F10 (fun t ht => by exact ht)
  refine w_al (fun _ => rfl) (w_icI (x := 20) rfl ?_)
  obtain ⟨_, m13, siz13, atp13, tok13, flt13, wri13, rfl, l13_siz, u13_siz, l13_atp, u13_atp, l13_tok, u13_tok, l13_flt, u13_flt, l13_wri, u13_wri, f13_0, f13_1, f13_2, f13_3, f13_4, f13_5, f13_6⟩ := iv_18 iv9
  refine w_this (fun _ => rfl) m13 ?_
  refine w_cv (fun _ => rfl) rfl (c_expect (d := (d + 86)) iv9 (wa := 20) (by omega) (by omega)  b11 (fun h14 iv15 F16 b17 => ⟨rfl, ?_⟩))
  have F18 := fr_ca F12 F16 (fun t ht => by simp at ht ⊢; omega)
  refine w_rv ?_
  exact k0 h14 iv15 F18 b17
