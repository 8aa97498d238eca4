theorem l_mTownDig_9 {g : w_G} {o : w_O} {h : m_H} {d : Nat} {Q : Option m_V → m_H → Prop} (iv : w_Inv g o h) (k0 : ∀ (x : Int), -2147483648 ≤ x → x ≤ 2147483647 → 0 ≤ x → x < g_mN g → w_td g h x → Q (some (.inl (w_i x))) h) : ∀ (k : Nat) (num i : Int) (tl : w_tl g h num i) (num_lo : -2147483648 ≤ num) (num_hi : num ≤ 2147483647) (i_lo : -2147483648 ≤ i) (i_hi : i ≤ 2147483647) (i0 : -1 ≤ i) (i1 : i ≤ g_mH g - 1) (n0 : 0 ≤ num) (n1 : num < w_pw (g_mC g) (g_mH g - 1 - i)), i + 1 < (k : Int) → wp d 593929 [.inr (.inl (some 31)), .inl (w_i num), .inl (w_i i)] [] h Q := by
  intro k
  induction k with
  | zero => intro num i tl num_lo num_hi i_lo i_hi i0 i1 n0 n1 hk; exact absurd hk (by omega)
  | succ k ih =>
    intro num i tl num_lo num_hi i_lo i_hi i0 i1 n0 n1 hk
    have W := iv_wm iv
    obtain ⟨A, p33, hA, hT⟩ := (id tl)
    refine w_run k_593929 (w_il (fun _ => rfl) ?_)
    refine w_ltz2 (by omega) (by omega)  (fun c1 => ?_) (fun c1 => ?_)
    · refine w_run k_593953 (w_il (fun _ => rfl) (w_ri ?_))
      exact k0 num (by omega) (by omega) (by omega) (by have e : g_mH g - 1 - i = g_mH g := (by omega); rw [e, ← iv_mN iv] at n1; exact n1) (td_of tl (by omega))
    · refine w_il (fun _ => rfl) (w_al (fun _ => rfl) ?_)
      obtain ⟨_, m2, spr2, kee2, rul2, tpd2, nxt2, tok2, tka2, val2, opn2, hm2, row2, ksp2, kke2, kru2, rfl, l2_spr, u2_spr, l2_kee, u2_kee, l2_rul, u2_rul, l2_tpd, u2_tpd, l2_nxt, u2_nxt, l2_tok, u2_tok, l2_tka, u2_tka, l2_val, u2_val, l2_opn, u2_opn, l2_hm, u2_hm, l2_row, u2_row, l2_ksp, u2_ksp, l2_kke, u2_kke, l2_kru, u2_kru, f2_0, f2_1, f2_2, f2_3, f2_4, f2_5, f2_6, f2_7, f2_8, f2_9⟩ := iv_31 iv
      refine w_getf m2 rfl (fun _ => rfl) ?_
      have hP := pw_le (c := g_mC g) (m := g_mH g - 1 - i) (n := g_mH g) (by omega) (by omega) (by omega)
      rw [← iv_mN iv] at hP
      have hm := mul_rg (a := num) (b := g_mC g) (x := 4096) (y := 5) (by omega) (by omega) (by omega) (by omega)
      refine w_op (c := w_i (num * g_mC g)) (i_mul num (g_mC g)) (w_al (fun _ => rfl) (w_getf m2 rfl (fun _ => rfl) (w_il (fun _ => rfl) (w_aldI p33 (by omega) (by omega) (by omega) ?_))))
      obtain ⟨b3, b4⟩ := ag_rg A i
      have e5 := hA i (by omega) (by omega)
      refine w_op (c := w_i ((num * g_mC g) + (a_g A i))) (i_add (num * g_mC g) (a_g A i)) (w_is (fun _ => rfl) ?_)
      have tl1 : w_tl g h ((num * g_mC g) + a_g A i) (i + -1) := tl_s (by omega) (by omega) (by omega) p33 hA hT (by omega)
      refine w_inc (c := w_i (i + (-1))) (fun _ => rfl) (i_addL (y := (-1)) wn_1 i) (fun _ => rfl) (w_go ?_)
      exact ih ((num * g_mC g) + (a_g A i)) (i + (-1)) tl1 (by omega) (by omega) (by omega) (by omega)  (by omega) (by omega) (by omega) (by rw [show g_mH g - 1 - (i + (-1)) = (g_mH g - 1 - i) + 1 from by omega]; exact pw_dig (by omega) n1 (by omega) (by omega) (by omega)) (by omega)
theorem c_mTownDig {g : w_G} {o : w_O} {h : m_H} {d : Nat} {Q : Option m_V → m_H → Prop} (iv : w_Inv g o h) (k0 : ∀ (x : Int), -2147483648 ≤ x → x ≤ 2147483647 → 0 ≤ x → x < g_mN g → w_td g h x → Q (some (.inl (w_i x))) h) : wp d 593920 [.inr (.inl (some 31)), .inr (.inr (.inl 0)), .inr (.inr (.inl 0))] [] h Q := by
  have W := iv_wm iv
  have tl0 := tl_0 (i := g_mH g - 1) iv (by omega)
  refine w_run k_593920 (w_icI (x := 0) rfl (w_is (fun _ => rfl) (w_al (fun _ => rfl) ?_)))
  obtain ⟨_, m1, spr1, kee1, rul1, tpd1, nxt1, tok1, tka1, val1, opn1, hm1, row1, ksp1, kke1, kru1, rfl, l1_spr, u1_spr, l1_kee, u1_kee, l1_rul, u1_rul, l1_tpd, u1_tpd, l1_nxt, u1_nxt, l1_tok, u1_tok, l1_tka, u1_tka, l1_val, u1_val, l1_opn, u1_opn, l1_hm, u1_hm, l1_row, u1_row, l1_ksp, u1_ksp, l1_kke, u1_kke, l1_kru, u1_kru, f1_0, f1_1, f1_2, f1_3, f1_4, f1_5, f1_6, f1_7, f1_8, f1_9⟩ := iv_31 iv
  refine w_getf m1 rfl (fun _ => rfl) (w_icI (x := 1) rfl (w_op (c := w_i (g_mH g - 1)) (i_sub (g_mH g) 1) (w_is (fun _ => rfl) (w_nur k_593929 ?_))))
  exact l_mTownDig_9 iv         k0 ((g_mH g - 1) + 1 + 1 : Int).toNat 0 (g_mH g - 1) tl0 (by omega) (by omega) (by omega) (by omega)  (by omega) (by omega) (by omega) (by rw [show g_mH g - 1 - (g_mH g - 1) = 0 from by omega]; exact pw_0) (by omega)
theorem k_851968 : m_cg 851968 = g_208_0 := rfl
theorem k_851980 : m_cg 851980 = g_208_12 := rfl
theorem k_852067 : m_cg 852067 = g_208_99 := rfl
theorem k_852070 : m_cg 852070 = g_208_102 := rfl
theorem c_mNight {g : w_G} {o : w_O} {h : m_H} {d : Nat} {Q : Option m_V → m_H → Prop} (iv : w_Inv g o h) {a : Int} {b : Int} (a_lo : -2147483648 ≤ a) (a_hi : a ≤ 2147483647) (b_lo : -2147483648 ≤ b) (b_hi : b ≤ 2147483647) (k0 : ∀ (x : Int), ∀ h2 : m_H, w_Inv g o h2 → w_fr o [54, 55, 56, 57, 59] h h2 → -2147483648 ≤ x → x ≤ 2147483647 → Q (some (.inl (w_i x))) h2) : wp (d + 6) 851968 [.inr (.inl (some 31)), .inl (w_i a), .inl (w_i b), .inr (.inr (.inl 0)), .inr (.inr (.inl 0))] [] h Q := by
  have F := fr_rf (o := o) (h := h) (W := [54, 55, 56, 57, 59])
  have W := iv_wm iv
  refine w_run k_851968 (w_al (fun _ => rfl) (w_il (fun _ => rfl) (w_il (fun _ => rfl) ?_)))
  obtain ⟨_, m1, spr1, kee1, rul1, tpd1, nxt1, tok1, tka1, val1, opn1, hm1, row1, ksp1, kke1, kru1, rfl, l1_spr, u1_spr, l1_kee, u1_kee, l1_rul, u1_rul, l1_tpd, u1_tpd, l1_nxt, u1_nxt, l1_tok, u1_tok, l1_tka, u1_tka, l1_val, u1_val, l1_opn, u1_opn, l1_hm, u1_hm, l1_row, u1_row, l1_ksp, u1_ksp, l1_kke, u1_kke, l1_kru, u1_kru, f1_0, f1_1, f1_2, f1_3, f1_4, f1_5, f1_6, f1_7, f1_8, f1_9⟩ := iv_31 iv
  refine w_this (fun _ => rfl) m1 ?_
  refine w_ca (fun _ => rfl) rfl (c_mAreTwo (d := (d + 4)) iv (a := a) (b := b) (by omega) (by omega) (by omega) (by omega)   (fun b2 b3 b4 b5 b6 => ⟨_, rfl, ?_⟩) (fun b7 => ⟨_, rfl, ?_⟩))
  · refine w_nezt (by omega) (by omega) (by omega)  (w_run k_851980 (w_al (fun _ => rfl) (w_this (fun _ => rfl) m1 ?_)))
    refine w_cv (fun _ => rfl) rfl (c_mFinds (d := d) iv     (fun h8 iv9 F10 b11 => ⟨rfl, ?_⟩))
    have F12 := fr_ca F F10 (fun t ht => by simp at ht ⊢; omega)
    refine w_al (fun _ => rfl) ?_
    have m13 := fr_at F10 m1 iv (ow_31 iv) rfl rfl
    refine w_this (fun _ => rfl) m13 ?_
    refine w_ca (fun _ => rfl) rfl (c_mTownDig (d := (d + 5)) iv9     (fun y14 b15 b16 b17 b18 b19 => ⟨_, rfl, ?_⟩))
    obtain ⟨U, p56, hU⟩ := (id b11)
    obtain ⟨A, p33, hA, hT⟩ := (id b19)
    refine w_is (fun _ => rfl) (w_il (fun _ => rfl) (w_al (fun _ => rfl) (w_getf m13 rfl (fun _ => rfl) (w_il (fun _ => rfl) (w_aldI p56 (by omega) (by omega) (by omega) ?_)))))
    obtain ⟨b20, b21⟩ := ag_rg U a
    have e22 := hU a (by omega) (by omega)
    refine w_al (fun _ => rfl) (w_getf m13 rfl (fun _ => rfl) (w_il (fun _ => rfl) (w_aldI p33 (by omega) (by omega) (by omega) ?_)))
    obtain ⟨b23, b24⟩ := ag_rg A b
    have e25 := hA b (by omega) (by omega)
    refine w_al (fun _ => rfl) (w_getf m13 rfl (fun _ => rfl) (w_il (fun _ => rfl) (w_aldI p33 (by omega) (by omega) (by omega) ?_)))
    obtain ⟨b26, b27⟩ := ag_rg A a
    have e28 := hA a (by omega) (by omega)
    refine w_op (c := w_i ((a_g A b) - (a_g A a))) (i_sub (a_g A b) (a_g A a)) (w_op (c := w_i ((a_g U a) * ((a_g A b) - (a_g A a)))) (i_mul (a_g U a) ((a_g A b) - (a_g A a))) (w_op (c := w_i (y14 + ((a_g U a) * ((a_g A b) - (a_g A a))))) (i_add y14 ((a_g U a) * ((a_g A b) - (a_g A a)))) (w_al (fun _ => rfl) (w_getf m13 rfl (fun _ => rfl) (w_il (fun _ => rfl) (w_aldI p56 (by omega) (by omega) (by omega) ?_))))))
    obtain ⟨b29, b30⟩ := ag_rg U b
    have e31 := hU b (by omega) (by omega)
    refine w_al (fun _ => rfl) (w_getf m13 rfl (fun _ => rfl) (w_il (fun _ => rfl) (w_aldI p33 (by omega) (by omega) (by omega) ?_)))
    obtain ⟨b32, b33⟩ := ag_rg A a
    have e34 := hA a (by omega) (by omega)
    refine w_al (fun _ => rfl) (w_getf m13 rfl (fun _ => rfl) (w_il (fun _ => rfl) (w_aldI p33 (by omega) (by omega) (by omega) ?_)))
    obtain ⟨b35, b36⟩ := ag_rg A b
    have e37 := hA b (by omega) (by omega)
    refine w_op (c := w_i ((a_g A a) - (a_g A b))) (i_sub (a_g A a) (a_g A b)) (w_op (c := w_i ((a_g U b) * ((a_g A a) - (a_g A b)))) (i_mul (a_g U b) ((a_g A a) - (a_g A b))) (w_op (c := w_i ((y14 + ((a_g U a) * ((a_g A b) - (a_g A a)))) + ((a_g U b) * ((a_g A a) - (a_g A b))))) (i_add (y14 + ((a_g U a) * ((a_g A b) - (a_g A a)))) ((a_g U b) * ((a_g A a) - (a_g A b)))) ?_))
    have hr := night_rg (g := g) (x := y14) (a := a) (b := b) (ua := a_g U a) (ub := a_g U b) (ca := a_g A a) (cb := a_g A b) (by omega) (iv_mN iv9) (by omega) (by omega) (by omega) (by omega) (by omega) (by omega) (by omega) (hT a (by omega) (by omega)) (hT b (by omega) (by omega)) (hA a (by omega) (by omega)) (hA b (by omega) (by omega)) (hU a (by omega) (by omega) (by omega)) (hU b (by omega) (by omega) (by omega))
    refine w_is (fun _ => rfl) (w_al (fun _ => rfl) (w_getf m13 rfl (fun _ => rfl) (w_il (fun _ => rfl) (w_opR shr_lt (fun x38 x380 x381 x38e => ?_)))))
    refine w_icI (x := 1) rfl (w_op01 and_1 (fun x39 x390 x391 x39e => ?_))
    refine w_icI (x := 1) rfl ?_
    refine w_eq2 (by omega) (by omega) (by omega) (by omega)  (fun c40 => ?_) (fun c40 => ?_)
    · refine w_run k_852067 (w_icI (x := (-5)) wn_5 (w_ri ?_))
      exact k0 (-5) h8 iv9 F12 (by omega) (by omega)
    · refine w_al (fun _ => rfl) (w_getf m13 rfl (fun _ => rfl) (w_il (fun _ => rfl) (w_opR shr_lt (fun x41 x410 x411 x41e => ?_))))
      refine w_icI (x := 1) rfl (w_op01 and_1 (fun x42 x420 x421 x42e => ?_))
      refine w_icI (x := 1) rfl ?_
      refine w_eq2 (by omega) (by omega) (by omega) (by omega)  (fun c43 => ?_) (fun c43 => ?_)
      · refine w_run k_852067 (w_icI (x := (-5)) wn_5 (w_ri ?_))
        exact k0 (-5) h8 iv9 F12 (by omega) (by omega)
      · refine w_al (fun _ => rfl) (w_il (fun _ => rfl) (w_this (fun _ => rfl) m13 ?_))
        refine w_ca (fun _ => rfl) rfl (c_mIsLawful (d := (d + 4)) iv9 (tn := ((y14 + ((a_g U a) * ((a_g A b) - (a_g A a)))) + ((a_g U b) * ((a_g A a) - (a_g A b))))) (by omega) (by omega) (by omega) b11 ⟨_, rfl, ?_⟩ ⟨_, rfl, ?_⟩)
        · refine w_nezt (by omega) (by omega) (by omega)  (w_run k_852070 (w_al (fun _ => rfl) (w_il (fun _ => rfl) (w_this (fun _ => rfl) m13 ?_))))
          refine w_ca (fun _ => rfl) rfl (c_mFindFrom (d := (d + 3)) iv9 (tn := ((y14 + ((a_g U a) * ((a_g A b) - (a_g A a)))) + ((a_g U b) * ((a_g A a) - (a_g A b))))) (by omega) (by omega) (by omega) (by omega) b11 (fun y44 h45 iv46 F47 b48 b49 b50 b51 b52 b53 => ⟨_, rfl, ?_⟩))
          have F54 := fr_ca F12 F47 (fun t ht => by simp at ht ⊢; omega)
          refine w_ri ?_
          exact k0 y44 h45 iv46 F54 (by omega) (by omega)
        · refine w_nezf (by omega) (by omega) (by omega)  (w_icI (x := (-5)) wn_5 (w_ri ?_))
          exact k0 (-5) h8 iv9 F12 (by omega) (by omega)
  · refine w_nezf (by omega) (by omega) (by omega)  (w_icI (x := (-2)) wn_2 (w_ri ?_))
    exact k0 (-2) h iv F (by omega) (by omega)
