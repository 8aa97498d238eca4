def w_mu (g : w_G) (o : w_O) (h : m_H) : Prop := ∃ A : Nat, m_at h.2.2 56 = some (.inl (false, 7, A)) ∧ ∀ j : Int, 0 ≤ j → j < 7 → j ≤ g_mH g → a_g A j = w_pw (g_mC g) j
theorem mu_fr {g : w_G} {o : w_O} {h h2 : m_H} {W : List Nat} (iv : w_Inv g o h) (mu : w_mu g o h) (hf : w_fr o W h h2) (hW : W.contains 56 = false) : w_mu g o h2 := by
  obtain ⟨A, p56, rest⟩ := mu
  exact ⟨A, fr_at hf p56 iv (ow_56 iv) hW rfl, rest⟩
def w_mv (g : w_G) (o : w_O) (h : m_H) (b : Int) : Prop := ∃ A : Nat, m_at h.2.2 56 = some (.inl (false, 7, A)) ∧ ∀ j : Int, 0 ≤ j → j < 7 → j ≤ b → a_g A j = w_pw (g_mC g) j
theorem mv_fr {g : w_G} {o : w_O} {h h2 : m_H} {b : Int} {W : List Nat} (iv : w_Inv g o h) (mv : w_mv g o h b) (hf : w_fr o W h h2) (hW : W.contains 56 = false) : w_mv g o h2 b := by
  obtain ⟨A, p56, rest⟩ := mv
  exact ⟨A, fr_at hf p56 iv (ow_56 iv) hW rfl, rest⟩
theorem mv_mu {g : w_G} {o : w_O} {h : m_H} {b : Int} (mv : w_mv g o h b) (hb : g_mH g ≤ b) : w_mu g o h := by
  obtain ⟨A, p56, hA⟩ := mv
  exact ⟨A, p56, fun j j0 j1 j2 => hA j j0 j1 (by omega)⟩
theorem k_757760 : m_cg 757760 = g_185_0 := rfl
theorem c_mColourIn {g : w_G} {o : w_O} {h : m_H} {d : Nat} {Q : Option m_V → m_H → Prop} (iv : w_Inv g o h) {tn : Int} {ii : Int} (tn_lo : -2147483648 ≤ tn) (tn_hi : tn ≤ 2147483647) (ii_lo : -2147483648 ≤ ii) (ii_hi : ii ≤ 2147483647) (t0_ : 0 ≤ tn) (i0_ : 0 ≤ ii) (i1_ : ii < g_mH g) (mu : w_mu g o h) (k0 : ∀ (x : Int), -2147483648 ≤ x → x ≤ 2147483647 → 0 ≤ x → x < g_mC g → Q (some (.inl (w_i x))) h) : wp d 757760 [.inr (.inl (some 31)), .inl (w_i tn), .inl (w_i ii)] [] h Q := by
  have W := iv_wm iv
  obtain ⟨U, p56, hU⟩ := (id mu)
  refine w_run k_757760 (w_il (fun _ => rfl) (w_al (fun _ => rfl) ?_))
  obtain ⟨_, m1, spr1, kee1, rul1, tpd1, nxt1, tok1, tka1, val1, opn1, hm1, row1, ksp1, kke1, kru1, rfl, l1_spr, u1_spr, l1_kee, u1_kee, l1_rul, u1_rul, l1_tpd, u1_tpd, l1_nxt, u1_nxt, l1_tok, u1_tok, l1_tka, u1_tka, l1_val, u1_val, l1_opn, u1_opn, l1_hm, u1_hm, l1_row, u1_row, l1_ksp, u1_ksp, l1_kke, u1_kke, l1_kru, u1_kru, f1_0, f1_1, f1_2, f1_3, f1_4, f1_5, f1_6, f1_7, f1_8, f1_9⟩ := iv_31 iv
  refine w_getf m1 rfl (fun _ => rfl) (w_il (fun _ => rfl) (w_aldI p56 (by omega) (by omega) (by omega) ?_))
  obtain ⟨b2, b3⟩ := ag_rg U ii
  have e4 := hU ii (by omega) (by omega)
  have hq := pw_pos (c := g_mC g) (by omega) ii
  refine w_opz (c := w_i (tn / (a_g U ii))) (beq0 (by omega) (by omega) (by omega)) (i_div (by omega) (by omega) (by omega) (by omega)) ?_
  have b5 : 0 ≤ (tn / (a_g U ii)) ∧ (tn / (a_g U ii)) ≤ tn := ⟨Int.ediv_nonneg (by omega) (by omega), Int.ediv_le_self _ (by omega)⟩
  refine w_al (fun _ => rfl) (w_getf m1 rfl (fun _ => rfl) (w_opz (c := w_i ((tn / (a_g U ii)) % g_mC g)) (beq0 (by omega) (by omega) (by omega)) (i_rem (by omega) (by omega) (by omega) (by omega)) ?_))
  have b6 : 0 ≤ ((tn / (a_g U ii)) % g_mC g) ∧ ((tn / (a_g U ii)) % g_mC g) < g_mC g := ⟨Int.emod_nonneg _ (by omega), Int.emod_lt_of_pos _ (by omega)⟩
  refine w_ri ?_
  exact k0 ((tn / (a_g U ii)) % g_mC g) (by omega) (by omega) (by omega) (by omega)
theorem k_770060 : m_cg 770060 = g_188_12 := rfl
theorem k_770096 : m_cg 770096 = g_188_48 := rfl
theorem l_mIsLawful_12 {g : w_G} {o : w_O} {h : m_H} {d : Nat} {Q : Option m_V → m_H → Prop} (iv : w_Inv g o h) {tn : Int} (tn_lo : -2147483648 ≤ tn) (tn_hi : tn ≤ 2147483647) (t0_ : 0 ≤ tn) {i : Int} (i_lo : -2147483648 ≤ i) (i_hi : i ≤ 2147483647) (i0 : 0 ≤ i) (i1 : i < g_mH g) (k0 : Q (some (.inl (w_i 1))) h) (k1 : Q (some (.inl (w_i 0))) h) (kx : ∀ (j : Int), w_mu g o h → -2147483648 ≤ j → j ≤ 2147483647 → wp (d + 1) 770102 [.inr (.inl (some 31)), .inl (w_i tn), .inl (w_i i), .inl (w_i j)] [] h Q) : ∀ (k : Nat) (j : Int) (mu : w_mu g o h) (j_lo : -2147483648 ≤ j) (j_hi : j ≤ 2147483647) (j0 : 0 ≤ j) (j1 : j ≤ i), i - j < (k : Int) → wp (d + 1) 770060 [.inr (.inl (some 31)), .inl (w_i tn), .inl (w_i i), .inl (w_i j)] [] h Q := by
  intro k
  induction k with
  | zero => intro j mu j_lo j_hi j0 j1 hk; exact absurd hk (by omega)
  | succ k ih =>
    intro j mu j_lo j_hi j0 j1 hk
    have W := iv_wm iv
    refine w_run k_770060 (w_il (fun _ => rfl) (w_il (fun _ => rfl) ?_))
    refine w_ge2 (by omega) (by omega) (by omega) (by omega)  (fun c1 => ?_) (fun c1 => ?_)
    · exact kx j mu (by omega) (by omega)  
    · refine w_al (fun _ => rfl) ?_
      obtain ⟨_, m2, spr2, kee2, rul2, tpd2, nxt2, tok2, tka2, val2, opn2, hm2, row2, ksp2, kke2, kru2, rfl, l2_spr, u2_spr, l2_kee, u2_kee, l2_rul, u2_rul, l2_tpd, u2_tpd, l2_nxt, u2_nxt, l2_tok, u2_tok, l2_tka, u2_tka, l2_val, u2_val, l2_opn, u2_opn, l2_hm, u2_hm, l2_row, u2_row, l2_ksp, u2_ksp, l2_kke, u2_kke, l2_kru, u2_kru, f2_0, f2_1, f2_2, f2_3, f2_4, f2_5, f2_6, f2_7, f2_8, f2_9⟩ := iv_31 iv
      refine w_getf m2 rfl (fun _ => rfl) (w_il (fun _ => rfl) ?_)
      obtain ⟨_, m3, A3, rfl, e3⟩ := iv_32 iv
      refine w_aldI m3 (by omega) (by omega) (by omega) ?_
      obtain ⟨b4, b5⟩ := ag_rg A3 i
      have e6 := e3 i (by omega) (by omega)
      refine w_il (fun _ => rfl) (w_opR shr_lt (fun x7 x70 x71 x7e => ?_))
      refine w_icI (x := 1) rfl (w_op01 and_1 (fun x8 x80 x81 x8e => ?_))
      refine w_icI (x := 1) rfl ?_
      refine w_ne2 (by omega) (by omega) (by omega) (by omega)  (fun c9 => ?_) (fun c9 => ?_)
      · refine w_run k_770096 (w_inc (c := w_i (j + 1)) (fun _ => rfl) (i_addL (y := 1) rfl j) (fun _ => rfl) (w_go ?_))
        exact ih (j + 1) mu (by omega) (by omega)  (by omega) (by omega) (by omega)
      · refine w_al (fun _ => rfl) (w_il (fun _ => rfl) (w_il (fun _ => rfl) (w_this (fun _ => rfl) m2 ?_)))
        refine w_ca (fun _ => rfl) rfl (c_mColourIn (d := d) iv (tn := tn) (ii := i) (by omega) (by omega) (by omega) (by omega) (by omega) (by omega) (by omega) mu (fun y10 b11 b12 b13 b14 => ⟨_, rfl, ?_⟩))
        refine w_al (fun _ => rfl) (w_il (fun _ => rfl) (w_il (fun _ => rfl) (w_this (fun _ => rfl) m2 ?_)))
        refine w_ca (fun _ => rfl) rfl (c_mColourIn (d := d) iv (tn := tn) (ii := j) (by omega) (by omega) (by omega) (by omega) (by omega) (by omega) (by omega) mu (fun y15 b16 b17 b18 b19 => ⟨_, rfl, ?_⟩))
        refine w_ne2 (by omega) (by omega) (by omega) (by omega)  (fun c20 => ?_) (fun c20 => ?_)
        · refine w_run k_770096 (w_inc (c := w_i (j + 1)) (fun _ => rfl) (i_addL (y := 1) rfl j) (fun _ => rfl) (w_go ?_))
          exact ih (j + 1) mu (by omega) (by omega)  (by omega) (by omega) (by omega)
        · refine w_icI (x := 0) rfl (w_rz (by decide) ?_)
          exact k1 
theorem k_770050 : m_cg 770050 = g_188_2 := rfl
theorem k_770108 : m_cg 770108 = g_188_60 := rfl
theorem k_770102 : m_cg 770102 = g_188_54 := rfl
theorem l_mIsLawful_2 {g : w_G} {o : w_O} {h : m_H} {d : Nat} {Q : Option m_V → m_H → Prop} (iv : w_Inv g o h) {tn : Int} (tn_lo : -2147483648 ≤ tn) (tn_hi : tn ≤ 2147483647) (t0_ : 0 ≤ tn) (k0 : Q (some (.inl (w_i 1))) h) (k1 : Q (some (.inl (w_i 0))) h) : ∀ (k : Nat) (i : Int) (x3_ : m_V) (mu : w_mu g o h) (i_lo : -2147483648 ≤ i) (i_hi : i ≤ 2147483647) (i0 : 0 ≤ i) (i1 : i ≤ g_mH g), g_mH g - i < (k : Int) → wp (d + 1) 770050 [.inr (.inl (some 31)), .inl (w_i tn), .inl (w_i i), x3_] [] h Q := by
  intro k
  induction k with
  | zero => intro i x3_ mu i_lo i_hi i0 i1 hk; exact absurd hk (by omega)
  | succ k ih =>
    intro i x3_ mu i_lo i_hi i0 i1 hk
    have W := iv_wm iv
    refine w_run k_770050 (w_il (fun _ => rfl) (w_al (fun _ => rfl) ?_))
    obtain ⟨_, m1, spr1, kee1, rul1, tpd1, nxt1, tok1, tka1, val1, opn1, hm1, row1, ksp1, kke1, kru1, rfl, l1_spr, u1_spr, l1_kee, u1_kee, l1_rul, u1_rul, l1_tpd, u1_tpd, l1_nxt, u1_nxt, l1_tok, u1_tok, l1_tka, u1_tka, l1_val, u1_val, l1_opn, u1_opn, l1_hm, u1_hm, l1_row, u1_row, l1_ksp, u1_ksp, l1_kke, u1_kke, l1_kru, u1_kru, f1_0, f1_1, f1_2, f1_3, f1_4, f1_5, f1_6, f1_7, f1_8, f1_9⟩ := iv_31 iv
    refine w_getf m1 rfl (fun _ => rfl) ?_
    refine w_ge2 (by omega) (by omega) (by omega) (by omega)  (fun c2 => ?_) (fun c2 => ?_)
    · refine w_run k_770108 (w_icI (x := 1) rfl (w_rz (by decide) ?_))
      exact k0 
    · refine w_icI (x := 0) rfl (w_is (fun _ => rfl) (w_nur k_770060 ?_))
      refine l_mIsLawful_12 iv  (i := i)  tn_lo tn_hi t0_  (by omega) (by omega) (by omega) (by omega) k0 k1 (fun j3 mu4 b5 b6 => ?_) (i - 0 + 1 : Int).toNat 0 mu (by omega) (by omega)  (by omega) (by omega) (by omega)
      refine w_run k_770102 (w_inc (c := w_i (i + 1)) (fun _ => rfl) (i_addL (y := 1) rfl i) (fun _ => rfl) (w_go ?_))
      exact ih (i + 1) (.inl (w_i j3)) mu4 (by omega) (by omega)  (by omega) (by omega) (by omega)
theorem k_770048 : m_cg 770048 = g_188_0 := rfl
theorem c_mIsLawful {g : w_G} {o : w_O} {h : m_H} {d : Nat} {Q : Option m_V → m_H → Prop} (iv : w_Inv g o h) {tn : Int} (tn_lo : -2147483648 ≤ tn) (tn_hi : tn ≤ 2147483647) (t0_ : 0 ≤ tn) (mu : w_mu g o h) (k0 : Q (some (.inl (w_i 1))) h) (k1 : Q (some (.inl (w_i 0))) h) : wp (d + 1) 770048 [.inr (.inl (some 31)), .inl (w_i tn), .inr (.inr (.inl 0)), .inr (.inr (.inl 0))] [] h Q := by
  have W := iv_wm iv
  refine w_run k_770048 (w_icI (x := 0) rfl (w_is (fun _ => rfl) (w_nur k_770050 ?_)))
  exact l_mIsLawful_2 iv    tn_lo tn_hi t0_    k0 k1 (g_mH g - 0 + 1 : Int).toNat 0 (.inr (.inr (.inl 0))) mu (by omega) (by omega)  (by omega) (by omega) (by omega)
theorem k_753673 : m_cg 753673 = g_184_9 := rfl
theorem k_753706 : m_cg 753706 = g_184_42 := rfl
theorem l_mFindUnits_9 {g : w_G} {o : w_O} {h0 : m_H} {d : Nat} {Q : Option m_V → m_H → Prop} (k0 : ∀ h2 : m_H, w_Inv g o h2 → w_fr o [56] h0 h2 → w_mu g o h2 → Q none h2) : ∀ (k : Nat) (h : m_H) (b : Int) (iv : w_Inv g o h) (F : w_fr o [56] h0 h) (mv : w_mv g o h b) (b_lo : -2147483648 ≤ b) (b_hi : b ≤ 2147483647) (i0 : 0 ≤ b) (i1 : b ≤ g_mH g), g_mH g - b < (k : Int) → wp d 753673 [.inr (.inl (some 31)), .inl (w_i b)] [] h Q := by
  intro k
  induction k with
  | zero => intro h b iv F mv b_lo b_hi i0 i1 hk; exact absurd hk (by omega)
  | succ k ih =>
    intro h b iv F mv b_lo b_hi i0 i1 hk
    have W := iv_wm iv
    obtain ⟨U, p56, hU⟩ := (id mv)
    refine w_run k_753673 (w_il (fun _ => rfl) (w_al (fun _ => rfl) ?_))
    obtain ⟨_, m1, spr1, kee1, rul1, tpd1, nxt1, tok1, tka1, val1, opn1, hm1, row1, ksp1, kke1, kru1, rfl, l1_spr, u1_spr, l1_kee, u1_kee, l1_rul, u1_rul, l1_tpd, u1_tpd, l1_nxt, u1_nxt, l1_tok, u1_tok, l1_tka, u1_tka, l1_val, u1_val, l1_opn, u1_opn, l1_hm, u1_hm, l1_row, u1_row, l1_ksp, u1_ksp, l1_kke, u1_kke, l1_kru, u1_kru, f1_0, f1_1, f1_2, f1_3, f1_4, f1_5, f1_6, f1_7, f1_8, f1_9⟩ := iv_31 iv
    refine w_getf m1 rfl (fun _ => rfl) ?_
    refine w_ge2 (by omega) (by omega) (by omega) (by omega)  (fun c2 => ?_) (fun c2 => ?_)
    · refine w_run k_753706 (w_rv ?_)
      exact k0 h iv F (mv_mu mv (by omega))
    · refine w_al (fun _ => rfl) (w_getf m1 rfl (fun _ => rfl) (w_il (fun _ => rfl) (w_icI (x := 1) rfl (w_op (c := w_i (b + 1)) (i_add b 1) (w_al (fun _ => rfl) (w_getf m1 rfl (fun _ => rfl) (w_il (fun _ => rfl) (w_aldI p56 (by omega) (by omega) (by omega) ?_))))))))
      obtain ⟨b3, b4⟩ := ag_rg U b
      have e5 := hU b (by omega) (by omega)
      refine w_al (fun _ => rfl) (w_getf m1 rfl (fun _ => rfl) ?_)
      have hP := pw_bd5 (c := g_mC g) (n := b) (by omega) (by omega) (by omega) (by omega)
      have hP0 := pw_pos (c := g_mC g) (by omega) b
      have hV := hU b (by omega) (by omega) (by omega)
      have hm := mul_rg (a := (a_g U b)) (b := g_mC g) (x := 3125) (y := 5) (by omega) (by omega) (by omega) (by omega)
      refine w_op (c := w_i ((a_g U b) * g_mC g)) (i_mul (a_g U b) (g_mC g)) (w_astI p56 (by omega) (by omega) (by omega) (by omega) (by omega) (fun A9 h7 w10 s6 => ?_))
      have iv8 := is_56 iv s6 ⟨_, rfl⟩
      have F11 := fr_st F s6 (by rw [(ow_56 iv)]; rfl)
      have mv1 : w_mv g o h7 (b + 1) := ⟨_, s6.2.2.1, fun j j0 j1 j2 => by
        rw [w10 j j0 j1]
        by_cases hj : j = b + 1
        · rw [if_pos hj, hj, pw_s (by omega), hV]
        · rw [if_neg hj]; exact hU j j0 j1 (by omega)⟩
      refine w_inc (c := w_i (b + 1)) (fun _ => rfl) (i_addL (y := 1) rfl b) (fun _ => rfl) (w_go ?_)
      exact ih h7 (b + 1) iv8 F11 mv1 (by omega) (by omega)  (by omega) (by omega) (by omega)
theorem k_753664 : m_cg 753664 = g_184_0 := rfl
theorem c_mFindUnits {g : w_G} {o : w_O} {h : m_H} {d : Nat} {Q : Option m_V → m_H → Prop} (iv : w_Inv g o h) (k0 : ∀ h2 : m_H, w_Inv g o h2 → w_fr o [56] h h2 → w_mu g o h2 → Q none h2) : wp d 753664 [.inr (.inl (some 31)), .inr (.inr (.inl 0))] [] h Q := by
  have F := fr_rf (o := o) (h := h) (W := [56])
  have W := iv_wm iv
  refine w_run k_753664 (w_al (fun _ => rfl) ?_)
  obtain ⟨_, m1, spr1, kee1, rul1, tpd1, nxt1, tok1, tka1, val1, opn1, hm1, row1, ksp1, kke1, kru1, rfl, l1_spr, u1_spr, l1_kee, u1_kee, l1_rul, u1_rul, l1_tpd, u1_tpd, l1_nxt, u1_nxt, l1_tok, u1_tok, l1_tka, u1_tka, l1_val, u1_val, l1_opn, u1_opn, l1_hm, u1_hm, l1_row, u1_row, l1_ksp, u1_ksp, l1_kke, u1_kke, l1_kru, u1_kru, f1_0, f1_1, f1_2, f1_3, f1_4, f1_5, f1_6, f1_7, f1_8, f1_9⟩ := iv_31 iv
  refine w_getf m1 rfl (fun _ => rfl) (w_icI (x := 0) rfl (w_icI (x := 1) rfl ?_))
  obtain ⟨_, m2, A2, rfl⟩ := iv_56 iv
  refine w_astI m2 (by omega) (by omega) (by omega) (by omega) (by omega) (fun A6 h4 w7 s3 => ?_)
  have iv5 := is_56 iv s3 ⟨_, rfl⟩
  have F8 := fr_st F s3 (by rw [(ow_56 iv)]; rfl)
  have mv0 : w_mv g o h4 0 := ⟨_, s3.2.2.1, fun j j0 j1 j2 => by obtain rfl : j = 0 := (by omega); rw [w7 0 (by omega) (by omega), if_pos rfl, pw_00]⟩
  refine w_icI (x := 0) rfl (w_is (fun _ => rfl) (w_nur k_753673 ?_))
  exact l_mFindUnits_9          k0 (g_mH g - 0 + 1 : Int).toNat h4 0 iv5 F8 mv0 (by omega) (by omega)  (by omega) (by omega) (by omega)
theorem k_774144 : m_cg 774144 = g_189_0 := rfl
theorem k_774164 : m_cg 774164 = g_189_20 := rfl
theorem k_774163 : m_cg 774163 = g_189_19 := rfl
theorem c_mLawful {g : w_G} {o : w_O} {h : m_H} {d : Nat} {Q : Option m_V → m_H → Prop} (iv : w_Inv g o h) (k0 : ∀ (x : Int), ∀ h2 : m_H, w_Inv g o h2 → w_fr o [56] h h2 → -2147483648 ≤ x → x ≤ 2147483647 → Q (some (.inl (w_i x))) h2) : wp (d + 2) 774144 [.inr (.inl (some 31))] [] h Q := by
  have F := fr_rf (o := o) (h := h) (W := [56])
  have W := iv_wm iv
  refine w_run k_774144 (w_al (fun _ => rfl) ?_)
  obtain ⟨_, m1, spr1, kee1, rul1, tpd1, nxt1, tok1, tka1, val1, opn1, hm1, row1, ksp1, kke1, kru1, rfl, l1_spr, u1_spr, l1_kee, u1_kee, l1_rul, u1_rul, l1_tpd, u1_tpd, l1_nxt, u1_nxt, l1_tok, u1_tok, l1_tka, u1_tka, l1_val, u1_val, l1_opn, u1_opn, l1_hm, u1_hm, l1_row, u1_row, l1_ksp, u1_ksp, l1_kke, u1_kke, l1_kru, u1_kru, f1_0, f1_1, f1_2, f1_3, f1_4, f1_5, f1_6, f1_7, f1_8, f1_9⟩ := iv_31 iv
  refine w_this (fun _ => rfl) m1 ?_
  refine w_cv (fun _ => rfl) rfl (c_mFindUnits (d := (d + 1)) iv     (fun h2 iv3 F4 b5 => ⟨rfl, ?_⟩))
  have F6 := fr_ca F F4 (fun t ht => by exact ht)
  refine w_al (fun _ => rfl) (w_al (fun _ => rfl) ?_)
  have m7 := fr_at F4 m1 iv (ow_31 iv) rfl rfl
  refine w_this (fun _ => rfl) m7 ?_
  refine w_ca (fun _ => rfl) rfl (c_mTownNow (d := (d + 1)) iv3     (fun y8 b9 b10 b11 b12 => ⟨_, rfl, ?_⟩))
  refine w_this (fun _ => rfl) m7 ?_
  refine w_ca (fun _ => rfl) rfl (c_mIsLawful (d := d) iv3 (tn := y8) (by omega) (by omega) (by omega) b5 ⟨_, rfl, ?_⟩ ⟨_, rfl, ?_⟩)
  · refine w_eqzf (by omega) (by omega) (by omega)  (w_icI (x := 1) rfl (w_go (w_run k_774164 (w_ri ?_))))
    exact k0 1 h2 iv3 F6 (by omega) (by omega)
  · refine w_eqzt (by omega) (by omega) (by omega)  (w_run k_774163 (w_icI (x := 0) rfl (w_ri ?_)))
    exact k0 0 h2 iv3 F6 (by omega) (by omega)
theorem k_761885 : m_cg 761885 = g_186_29 := rfl
theorem k_761935 : m_cg 761935 = g_186_79 := rfl
theorem k_761929 : m_cg 761929 = g_186_73 := rfl
theorem l_mCostIn_29 {g : w_G} {o : w_O} {h : m_H} {d : Nat} {Q : Option m_V → m_H → Prop} (iv : w_Inv g o h) {tn : Int} {ii : Int} {t : Int} (tn_lo : -2147483648 ≤ tn) (tn_hi : tn ≤ 2147483647) (ii_lo : -2147483648 ≤ ii) (ii_hi : ii ≤ 2147483647) (t_lo : -2147483648 ≤ t) (t_hi : t ≤ 2147483647) (t0_ : 0 ≤ tn) (i0_ : 0 ≤ ii) (i1_ : ii < g_mH g) (c0_ : 0 ≤ t) (c1_ : t < g_mC g) (k0 : ∀ (x : Int), -2147483648 ≤ x → x ≤ 2147483647 → x ≤ 2000 → Q (some (.inl (w_i x))) h) : ∀ (k : Nat) (f va j : Int) (mu : w_mu g o h) (f_lo : -2147483648 ≤ f) (f_hi : f ≤ 2147483647) (va_lo : -2147483648 ≤ va) (va_hi : va ≤ 2147483647) (j_lo : -2147483648 ≤ j) (j_hi : j ≤ 2147483647) (j0 : 0 ≤ j) (j1 : j ≤ g_mH g) (v2 : va ≤ 2000), g_mH g - j < (k : Int) → wp (d + 1) 761885 [.inr (.inl (some 31)), .inl (w_i tn), .inl (w_i ii), .inl (w_i t), .inl (w_i f), .inl (w_i va), .inl (w_i j)] [] h Q := by
  intro k
  induction k with
  | zero => intro f va j mu f_lo f_hi va_lo va_hi j_lo j_hi j0 j1 v2 hk; exact absurd hk (by omega)
  | succ k ih =>
    intro f va j mu f_lo f_hi va_lo va_hi j_lo j_hi j0 j1 v2 hk
    have W := iv_wm iv
    refine w_run k_761885 (w_il (fun _ => rfl) (w_al (fun _ => rfl) ?_))
    obtain ⟨_, m1, spr1, kee1, rul1, tpd1, nxt1, tok1, tka1, val1, opn1, hm1, row1, ksp1, kke1, kru1, rfl, l1_spr, u1_spr, l1_kee, u1_kee, l1_rul, u1_rul, l1_tpd, u1_tpd, l1_nxt, u1_nxt, l1_tok, u1_tok, l1_tka, u1_tka, l1_val, u1_val, l1_opn, u1_opn, l1_hm, u1_hm, l1_row, u1_row, l1_ksp, u1_ksp, l1_kke, u1_kke, l1_kru, u1_kru, f1_0, f1_1, f1_2, f1_3, f1_4, f1_5, f1_6, f1_7, f1_8, f1_9⟩ := iv_31 iv
    refine w_getf m1 rfl (fun _ => rfl) ?_
    refine w_ge2 (by omega) (by omega) (by omega) (by omega)  (fun c2 => ?_) (fun c2 => ?_)
    · refine w_run k_761935 (w_il (fun _ => rfl) (w_ri ?_))
      exact k0 va (by omega) (by omega) (by omega)
    · refine w_il (fun _ => rfl) ?_
      refine w_ltz2 (by omega) (by omega)  (fun c3 => ?_) (fun c3 => ?_)
      · refine w_run k_761935 (w_il (fun _ => rfl) (w_ri ?_))
        exact k0 va (by omega) (by omega) (by omega)
      · refine w_al (fun _ => rfl) (w_getf m1 rfl (fun _ => rfl) (w_il (fun _ => rfl) ?_))
        obtain ⟨_, m4, A4, rfl, e4⟩ := iv_32 iv
        refine w_aldI m4 (by omega) (by omega) (by omega) ?_
        obtain ⟨b5, b6⟩ := ag_rg A4 ii
        have e7 := e4 ii (by omega) (by omega)
        refine w_il (fun _ => rfl) (w_opR shr_lt (fun x8 x80 x81 x8e => ?_))
        refine w_icI (x := 1) rfl (w_op01 and_1 (fun x9 x90 x91 x9e => ?_))
        refine w_icI (x := 1) rfl ?_
        refine w_ne2 (by omega) (by omega) (by omega) (by omega)  (fun c10 => ?_) (fun c10 => ?_)
        · refine w_run k_761929 (w_inc (c := w_i (j + 1)) (fun _ => rfl) (i_addL (y := 1) rfl j) (fun _ => rfl) (w_go ?_))
          exact ih f va (j + 1) mu (by omega) (by omega) (by omega) (by omega) (by omega) (by omega)  (by omega) (by omega) (by omega) (by omega)
        · refine w_al (fun _ => rfl) (w_il (fun _ => rfl) (w_il (fun _ => rfl) (w_this (fun _ => rfl) m1 ?_)))
          refine w_ca (fun _ => rfl) rfl (c_mColourIn (d := d) iv (tn := tn) (ii := j) (by omega) (by omega) (by omega) (by omega) (by omega) (by omega) (by omega) mu (fun y11 b12 b13 b14 b15 => ⟨_, rfl, ?_⟩))
          refine w_il (fun _ => rfl) ?_
          refine w_ne2 (by omega) (by omega) (by omega) (by omega)  (fun c16 => ?_) (fun c16 => ?_)
          · refine w_run k_761929 (w_inc (c := w_i (j + 1)) (fun _ => rfl) (i_addL (y := 1) rfl j) (fun _ => rfl) (w_go ?_))
            exact ih f va (j + 1) mu (by omega) (by omega) (by omega) (by omega) (by omega) (by omega)  (by omega) (by omega) (by omega) (by omega)
          · refine w_icI (x := (-5)) wn_5 (w_is (fun _ => rfl) (w_inc (c := w_i (j + 1)) (fun _ => rfl) (i_addL (y := 1) rfl j) (fun _ => rfl) (w_go ?_)))
            exact ih f (-5) (j + 1) mu (by omega) (by omega) (by omega) (by omega) (by omega) (by omega)  (by omega) (by omega) (by omega) (by omega)
theorem k_761856 : m_cg 761856 = g_186_0 := rfl
theorem c_mCostIn {g : w_G} {o : w_O} {h : m_H} {d : Nat} {Q : Option m_V → m_H → Prop} (iv : w_Inv g o h) {tn : Int} {ii : Int} {t : Int} (tn_lo : -2147483648 ≤ tn) (tn_hi : tn ≤ 2147483647) (ii_lo : -2147483648 ≤ ii) (ii_hi : ii ≤ 2147483647) (t_lo : -2147483648 ≤ t) (t_hi : t ≤ 2147483647) (t0_ : 0 ≤ tn) (i0_ : 0 ≤ ii) (i1_ : ii < g_mH g) (c0_ : 0 ≤ t) (c1_ : t < g_mC g) (mu : w_mu g o h) (k0 : ∀ (x : Int), -2147483648 ≤ x → x ≤ 2147483647 → x ≤ 2000 → Q (some (.inl (w_i x))) h) : wp (d + 1) 761856 [.inr (.inl (some 31)), .inl (w_i tn), .inl (w_i ii), .inl (w_i t), .inr (.inr (.inl 0)), .inr (.inr (.inl 0)), .inr (.inr (.inl 0))] [] h Q := by
  have W := iv_wm iv
  refine w_run k_761856 (w_al (fun _ => rfl) (w_il (fun _ => rfl) (w_il (fun _ => rfl) ?_)))
  obtain ⟨_, m1, spr1, kee1, rul1, tpd1, nxt1, tok1, tka1, val1, opn1, hm1, row1, ksp1, kke1, kru1, rfl, l1_spr, u1_spr, l1_kee, u1_kee, l1_rul, u1_rul, l1_tpd, u1_tpd, l1_nxt, u1_nxt, l1_tok, u1_tok, l1_tka, u1_tka, l1_val, u1_val, l1_opn, u1_opn, l1_hm, u1_hm, l1_row, u1_row, l1_ksp, u1_ksp, l1_kke, u1_kke, l1_kru, u1_kru, f1_0, f1_1, f1_2, f1_3, f1_4, f1_5, f1_6, f1_7, f1_8, f1_9⟩ := iv_31 iv
  refine w_this (fun _ => rfl) m1 ?_
  refine w_ca (fun _ => rfl) rfl (c_mColourIn (d := d) iv (tn := tn) (ii := ii) (by omega) (by omega) (by omega) (by omega) (by omega) (by omega) (by omega) mu (fun y2 b3 b4 b5 b6 => ⟨_, rfl, ?_⟩))
  refine w_is (fun _ => rfl) (w_al (fun _ => rfl) (w_getf m1 rfl (fun _ => rfl) (w_icI (x := 25) rfl (w_il (fun _ => rfl) (w_op (c := w_i (25 * ii)) (i_mul 25 ii) (w_icI (x := 5) rfl (w_il (fun _ => rfl) (w_op (c := w_i (5 * y2)) (i_mul 5 y2) (w_op (c := w_i ((25 * ii) + (5 * y2))) (i_add (25 * ii) (5 * y2)) (w_il (fun _ => rfl) (w_op (c := w_i (((25 * ii) + (5 * y2)) + t)) (i_add ((25 * ii) + (5 * y2)) t) ?_)))))))))))
  obtain ⟨_, m7, A7, rfl, e7⟩ := iv_55 iv
  refine w_aldI m7 (by omega) (by omega) (by omega) ?_
  obtain ⟨b8, b9⟩ := ag_rg A7 (((25 * ii) + (5 * y2)) + t)
  have e10 := e7 (((25 * ii) + (5 * y2)) + t) (by omega) (by omega)
  refine w_is (fun _ => rfl) (w_icI (x := 0) rfl (w_is (fun _ => rfl) (w_nur k_761885 ?_)))
  exact l_mCostIn_29 iv    tn_lo tn_hi ii_lo ii_hi t_lo t_hi t0_ i0_ i1_ c0_ c1_    k0 (g_mH g - 0 + 1 : Int).toNat y2 (a_g A7 (((25 * ii) + (5 * y2)) + t)) 0 mu (by omega) (by omega) (by omega) (by omega) (by omega) (by omega)  (by omega) (by omega) (by omega) (by omega)
