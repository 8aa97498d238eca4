theorem k_307200 : m_cg 307200 = g_75_0 := rfl
theorem k_307244 : m_cg 307244 = g_75_44 := rfl
theorem k_307252 : m_cg 307252 = g_75_52 := rfl
theorem k_307257 : m_cg 307257 = g_75_57 := rfl
theorem k_307256 : m_cg 307256 = g_75_56 := rfl
theorem k_307258 : m_cg 307258 = g_75_58 := rfl
theorem k_307270 : m_cg 307270 = g_75_70 := rfl
theorem k_307271 : m_cg 307271 = g_75_71 := rfl
theorem k_307302 : m_cg 307302 = g_75_102 := rfl
theorem k_307272 : m_cg 307272 = g_75_72 := rfl
theorem k_307281 : m_cg 307281 = g_75_81 := rfl
theorem k_307282 : m_cg 307282 = g_75_82 := rfl
theorem k_307283 : m_cg 307283 = g_75_83 := rfl
theorem k_307292 : m_cg 307292 = g_75_92 := rfl
theorem k_307293 : m_cg 307293 = g_75_93 := rfl
theorem k_307294 : m_cg 307294 = g_75_94 := rfl
theorem k_307298 : m_cg 307298 = g_75_98 := rfl
theorem c_joined {g : w_G} {o : w_O} {h : m_H} {d : Nat} {Q : Option m_V → m_H → Prop} (iv : w_Inv g o h) {w_ : Int} {a : Int} {b : Int} (w__lo : -2147483648 ≤ w_) (w__hi : w_ ≤ 2147483647) (a_lo : -2147483648 ≤ a) (a_hi : a ≤ 2147483647) (b_lo : -2147483648 ≤ b) (b_hi : b ≤ 2147483647) (k0 : ∀ (x : Int), -2147483648 ≤ x → x ≤ 2147483647 → Q (some (.inl (w_i x))) h) : wp d 307200 [.inl (w_i w_), .inl (w_i a), .inl (w_i b)] [] h Q := by
  have W := iv_wc iv
  refine w_run k_307200 (w_il (fun _ => rfl) ?_)
  by_cases c1 : w_ = 6
  · rw [show (w_ : Int) = 6 from c1]
    refine w_tsw (t := 307244) (fun _ => rfl) (w_run k_307244 (w_il (fun _ => rfl) ?_))
    refine w_nez2 (by omega) (by omega)  (fun c2 => ?_) (fun c2 => ?_)
    · refine w_run k_307252 (w_icI (x := 1) rfl (w_go (w_run k_307257 (w_ri ?_))))
      exact k0 1 (by omega) (by omega)
    · refine w_il (fun _ => rfl) ?_
      refine w_eqz2 (by omega) (by omega)  (fun c3 => ?_) (fun c3 => ?_)
      · refine w_run k_307256 (w_icI (x := 0) rfl (w_ri ?_))
        exact k0 0 (by omega) (by omega)
      · refine w_icI (x := 1) rfl (w_go (w_run k_307257 (w_ri ?_)))
        exact k0 1 (by omega) (by omega)
  by_cases c4 : w_ = 7
  · rw [show (w_ : Int) = 7 from c4]
    refine w_tsw (t := 307258) (fun _ => rfl) (w_run k_307258 (w_il (fun _ => rfl) ?_))
    refine w_eqz2 (by omega) (by omega)  (fun c5 => ?_) (fun c5 => ?_)
    · refine w_run k_307270 (w_icI (x := 0) rfl (w_ri ?_))
      exact k0 0 (by omega) (by omega)
    · refine w_il (fun _ => rfl) ?_
      refine w_eqz2 (by omega) (by omega)  (fun c6 => ?_) (fun c6 => ?_)
      · refine w_run k_307270 (w_icI (x := 0) rfl (w_ri ?_))
        exact k0 0 (by omega) (by omega)
      · refine w_icI (x := 1) rfl (w_go (w_run k_307271 (w_ri ?_)))
        exact k0 1 (by omega) (by omega)
  by_cases c7 : w_ = 8
  · rw [show (w_ : Int) = 8 from c7]
    refine w_tsw (t := 307302) (fun _ => rfl) (w_run k_307302 (w_il (fun _ => rfl) (w_il (fun _ => rfl) (w_opR mul_lt (fun x8 x80 x81 x8e => ?_)))))
    refine w_ri ?_
    exact k0 x8 (by omega) (by omega)
  by_cases c9 : w_ = 9
  · rw [show (w_ : Int) = 9 from c9]
    refine w_tsw (t := 307272) (fun _ => rfl) (w_run k_307272 (w_il (fun _ => rfl) (w_il (fun _ => rfl) ?_)))
    refine w_ge2 (by omega) (by omega) (by omega) (by omega)  (fun c10 => ?_) (fun c10 => ?_)
    · refine w_run k_307281 (w_icI (x := 0) rfl (w_ri ?_))
      exact k0 0 (by omega) (by omega)
    · refine w_icI (x := 1) rfl (w_go (w_run k_307282 (w_ri ?_)))
      exact k0 1 (by omega) (by omega)
  by_cases c11 : w_ = 10
  · rw [show (w_ : Int) = 10 from c11]
    refine w_tsw (t := 307283) (fun _ => rfl) (w_run k_307283 (w_il (fun _ => rfl) (w_il (fun _ => rfl) ?_)))
    refine w_ne2 (by omega) (by omega) (by omega) (by omega)  (fun c12 => ?_) (fun c12 => ?_)
    · refine w_run k_307292 (w_icI (x := 0) rfl (w_ri ?_))
      exact k0 0 (by omega) (by omega)
    · refine w_icI (x := 1) rfl (w_go (w_run k_307293 (w_ri ?_)))
      exact k0 1 (by omega) (by omega)
  by_cases c13 : w_ = 11
  · rw [show (w_ : Int) = 11 from c13]
    refine w_tsw (t := 307294) (fun _ => rfl) (w_run k_307294 (w_il (fun _ => rfl) (w_il (fun _ => rfl) (w_opR add_lt (fun x14 x140 x141 x14e => ?_)))))
    refine w_ri ?_
    exact k0 x14 (by omega) (by omega)
  by_cases c15 : w_ = 12
  · rw [show (w_ : Int) = 12 from c15]
    refine w_tsw (t := 307298) (fun _ => rfl) (w_run k_307298 (w_il (fun _ => rfl) (w_il (fun _ => rfl) (w_opR sub_lt (fun x16 x160 x161 x16e => ?_)))))
    refine w_ri ?_
    exact k0 x16 (by omega) (by omega)
  refine w_tswL (by omega) (by omega) (by show _ < ((6 : Nat) : Int) ∨ ((13 : Nat) : Int) ≤ _; omega) (by decide) (w_run k_307302 (w_il (fun _ => rfl) (w_il (fun _ => rfl) (w_opR mul_lt (fun x17 x170 x171 x17e => ?_)))))
  refine w_ri ?_
  exact k0 x17 (by omega) (by omega)
theorem k_303110 : m_cg 303110 = g_74_6 := rfl
theorem k_303298 : m_cg 303298 = g_74_194 := rfl
theorem k_303313 : m_cg 303313 = g_74_209 := rfl
theorem k_303314 : m_cg 303314 = g_74_210 := rfl
theorem k_303139 : m_cg 303139 = g_74_35 := rfl
theorem k_303148 : m_cg 303148 = g_74_44 := rfl
theorem k_303173 : m_cg 303173 = g_74_69 := rfl
theorem k_303292 : m_cg 303292 = g_74_188 := rfl
theorem k_303180 : m_cg 303180 = g_74_76 := rfl
theorem k_303194 : m_cg 303194 = g_74_90 := rfl
theorem k_303202 : m_cg 303202 = g_74_98 := rfl
theorem k_303230 : m_cg 303230 = g_74_126 := rfl
theorem k_303246 : m_cg 303246 = g_74_142 := rfl
theorem k_303247 : m_cg 303247 = g_74_143 := rfl
theorem k_303251 : m_cg 303251 = g_74_147 := rfl
theorem k_303259 : m_cg 303259 = g_74_155 := rfl
theorem k_303169 : m_cg 303169 = g_74_65 := rfl
theorem l_value_6 {g : w_G} {o : w_O} {h0 : m_H} {d : Nat} {Q : Option m_V → m_H → Prop} {p : Nat} {cod : Nat} {me : Int} {fe : Int} {stk : Nat} {beg : Int} {end_ : Int} (beg_lo : -2147483648 ≤ beg) (beg_hi : beg ≤ 2147483647) (end__lo : -2147483648 ≤ end_) (end__hi : end_ ≤ 2147483647) (b0 : 0 ≤ beg) (b1 : beg ≤ 200) (e1 : end_ ≤ ((o cod).2 : Int)) (k0 : ∀ (x : Int), ∀ h2 : m_H, w_Inv g o h2 → w_fr o [112] h0 h2 → -2147483648 ≤ x → x ≤ 2147483647 → Q (some (.inl (w_i x))) h2) : ∀ (k : Nat) (h : m_H) (top i : Int) (x6_ : m_V) (iv : w_Inv g o h) (F : w_fr o [112] h0 h) (tx : w_tx g o h p cod me fe stk) (top_lo : -2147483648 ≤ top) (top_hi : top ≤ 2147483647) (i_lo : -2147483648 ≤ i) (i_hi : i ≤ 2147483647) (p0 : 0 ≤ top) (p1 : top ≤ 31) (i0 : 0 ≤ i) (i1 : i ≤ 200), 200 - i < (k : Int) → wp (d + 1) 303110 [.inr (.inl (some p)), .inl (w_i beg), .inl (w_i end_), .inr (.inl (some 25)), .inl (w_i top), .inl (w_i i), x6_] [] h Q := by
  intro k
  induction k with
  | zero => intro h top i x6_ iv F tx top_lo top_hi i_lo i_hi p0 p1 i0 i1 hk; exact absurd hk (by omega)
  | succ k ih =>
    intro h top i x6_ iv F tx top_lo top_hi i_lo i_hi p0 p1 i0 i1 hk
    have W := iv_wc iv
    obtain ⟨xt1, mt1, t1_1, t1_2, t1_3, t1_4, t1_5, t1_6⟩ := (id tx)
    refine w_run k_303110 (w_il (fun _ => rfl) (w_il (fun _ => rfl) ?_))
    refine w_ge2 (by omega) (by omega) (by omega) (by omega)  (fun c2 => ?_) (fun c2 => ?_)
    · refine w_run k_303298 (w_il (fun _ => rfl) (w_icI (x := 1) rfl ?_))
      refine w_ne2 (by omega) (by omega) (by omega) (by omega)  (fun c3 => ?_) (fun c3 => ?_)
      · refine w_run k_303313 (w_icI (x := 0) rfl (w_ri ?_))
        exact k0 0 h iv F (by omega) (by omega)
      · refine w_al (fun _ => rfl) (w_getf mt1 rfl (fun _ => rfl) (w_icI (x := 0) rfl ?_))
        obtain ⟨_, m4, A4, rfl⟩ := iv_112 iv t1_2
        refine w_aldI m4 (by omega) (by omega) (by omega) ?_
        obtain ⟨b5, b6⟩ := ag_rg A4 0
        refine w_go (w_run k_303314 (w_ri ?_))
        exact k0 (a_g A4 0) h iv F (by omega) (by omega)
    · refine w_al (fun _ => rfl) (w_getf mt1 rfl (fun _ => rfl) (w_il (fun _ => rfl) ?_))
      obtain ⟨_, m7, A7, rfl, e7, g7_0⟩ := iv_111 iv t1_1
      refine w_aldI m7 (by omega) (by omega) (by omega) ?_
      obtain ⟨b8, b9⟩ := ag_rg A7 i
      have e10 := e7 i (by omega) (by omega)
      refine w_is (fun _ => rfl) (w_il (fun _ => rfl) (w_icI (x := 32) rfl ?_))
      refine w_ge2 (by omega) (by omega) (by omega) (by omega)  (fun c11 => ?_) (fun c11 => ?_)
      · refine w_run k_303139 (w_il (fun _ => rfl) (w_icI (x := 31) rfl ?_))
        refine w_lt2 (by omega) (by omega) (by omega) (by omega)  (fun c12 => ?_) (fun c12 => ?_)
        · refine w_run k_303148 (w_al (fun _ => rfl) (w_getf mt1 rfl (fun _ => rfl) (w_il (fun _ => rfl) (w_il (fun _ => rfl) (w_icI (x := 32) rfl (w_ltf (by omega) (by omega) (by omega) (by omega) (by omega)  (w_il (fun _ => rfl) (w_icI (x := 32) rfl (w_op (c := w_i ((a_g A7 i) - 32)) (i_sub (a_g A7 i) 32) (w_go (w_run k_303173 ?_)))))))))))
          obtain ⟨_, m13, A13, rfl⟩ := iv_112 iv t1_2
          refine w_astI m13 (by omega) (by omega) (by omega) (by omega) (by omega) (fun A17 h15 w18 s14 => ?_)
          have iv16 := is_112 iv t1_2 s14 ⟨_, rfl⟩
          have F19 := fr_st F s14 (by rw [t1_2]; rfl)
          refine w_inc (c := w_i (top + 1)) (fun _ => rfl) (i_addL (y := 1) rfl top) (fun _ => rfl) (w_go (w_run k_303292 (w_inc (c := w_i (i + 1)) (fun _ => rfl) (i_addL (y := 1) rfl i) (fun _ => rfl) (w_go ?_))))
          have tx20 := tx_fr iv tx (fr_st (W := [112]) fr_rf s14 (by rw [t1_2]; rfl)) rfl
          exact ih h15 (top + 1) (i + 1) (.inl (w_i (a_g A7 i))) iv16 F19 tx20 (by omega) (by omega) (by omega) (by omega)  (by omega) (by omega) (by omega) (by omega) (by omega)
        · refine w_icI (x := 0) rfl (w_ri ?_)
          exact k0 0 h iv F (by omega) (by omega)
      · refine w_il (fun _ => rfl) (w_icI (x := 6) rfl ?_)
        refine w_ge2 (by omega) (by omega) (by omega) (by omega)  (fun c21 => ?_) (fun c21 => ?_)
        · refine w_run k_303180 (w_il (fun _ => rfl) (w_icI (x := 8) rfl ?_))
          refine w_eq2 (by omega) (by omega) (by omega) (by omega)  (fun c22 => ?_) (fun c22 => ?_)
          · refine w_run k_303194 (w_il (fun _ => rfl) (w_icI (x := 1) rfl ?_))
            refine w_ge2 (by omega) (by omega) (by omega) (by omega)  (fun c23 => ?_) (fun c23 => ?_)
            · refine w_run k_303202 (w_al (fun _ => rfl) (w_getf mt1 rfl (fun _ => rfl) (w_il (fun _ => rfl) (w_icI (x := 1) rfl (w_op (c := w_i (top - 1)) (i_sub top 1) (w_il (fun _ => rfl) (w_icI (x := 14) rfl (w_net (by omega) (by omega) (by omega) (by omega) (by omega)  (w_run k_303230 (w_al (fun _ => rfl) (w_getf mt1 rfl (fun _ => rfl) (w_il (fun _ => rfl) (w_icI (x := 1) rfl (w_op (c := w_i (top - 1)) (i_sub top 1) ?_))))))))))))))
              obtain ⟨_, m24, A24, rfl⟩ := iv_112 iv t1_2
              refine w_aldI m24 (by omega) (by omega) (by omega) ?_
              obtain ⟨b25, b26⟩ := ag_rg A24 (top - 1)
              refine w_nez2 (by omega) (by omega)  (fun c27 => ?_) (fun c27 => ?_)
              · refine w_run k_303246 (w_icI (x := 0) rfl (w_astI m24 (by omega) (by omega) (by omega) (by omega) (by omega) (fun A31 h29 w32 s28 => ?_)))
                have iv30 := is_112 iv t1_2 s28 ⟨_, rfl⟩
                have F33 := fr_st F s28 (by rw [t1_2]; rfl)
                refine w_go (w_run k_303292 (w_inc (c := w_i (i + 1)) (fun _ => rfl) (i_addL (y := 1) rfl i) (fun _ => rfl) (w_go ?_)))
                have tx34 := tx_fr iv tx (fr_st (W := [112]) fr_rf s28 (by rw [t1_2]; rfl)) rfl
                exact ih h29 top (i + 1) (.inl (w_i (a_g A7 i))) iv30 F33 tx34 (by omega) (by omega) (by omega) (by omega)  (by omega) (by omega) (by omega) (by omega) (by omega)
              · refine w_icI (x := 1) rfl (w_go (w_run k_303247 (w_astI m24 (by omega) (by omega) (by omega) (by omega) (by omega) (fun A38 h36 w39 s35 => ?_))))
                have iv37 := is_112 iv t1_2 s35 ⟨_, rfl⟩
                have F40 := fr_st F s35 (by rw [t1_2]; rfl)
                refine w_go (w_run k_303292 (w_inc (c := w_i (i + 1)) (fun _ => rfl) (i_addL (y := 1) rfl i) (fun _ => rfl) (w_go ?_)))
                have tx41 := tx_fr iv tx (fr_st (W := [112]) fr_rf s35 (by rw [t1_2]; rfl)) rfl
                exact ih h36 top (i + 1) (.inl (w_i (a_g A7 i))) iv37 F40 tx41 (by omega) (by omega) (by omega) (by omega)  (by omega) (by omega) (by omega) (by omega) (by omega)
            · refine w_icI (x := 0) rfl (w_ri ?_)
              exact k0 0 h iv F (by omega) (by omega)
          · refine w_il (fun _ => rfl) (w_icI (x := 14) rfl ?_)
            refine w_ne2 (by omega) (by omega) (by omega) (by omega)  (fun c42 => ?_) (fun c42 => ?_)
            · refine w_run k_303251 (w_il (fun _ => rfl) (w_icI (x := 2) rfl ?_))
              refine w_ge2 (by omega) (by omega) (by omega) (by omega)  (fun c43 => ?_) (fun c43 => ?_)
              · refine w_run k_303259 (w_inc (c := w_i (top + (-1))) (fun _ => rfl) (i_addL (y := (-1)) wn_1 top) (fun _ => rfl) (w_al (fun _ => rfl) (w_getf mt1 rfl (fun _ => rfl) (w_il (fun _ => rfl) (w_icI (x := 1) rfl (w_op (c := w_i ((top + (-1)) - 1)) (i_sub (top + (-1)) 1) (w_il (fun _ => rfl) (w_al (fun _ => rfl) (w_getf mt1 rfl (fun _ => rfl) (w_il (fun _ => rfl) (w_icI (x := 1) rfl (w_op (c := w_i ((top + (-1)) - 1)) (i_sub (top + (-1)) 1) ?_))))))))))))
                obtain ⟨_, m44, A44, rfl⟩ := iv_112 iv t1_2
                refine w_aldI m44 (by omega) (by omega) (by omega) ?_
                obtain ⟨b45, b46⟩ := ag_rg A44 ((top + (-1)) - 1)
                refine w_al (fun _ => rfl) (w_getf mt1 rfl (fun _ => rfl) (w_il (fun _ => rfl) (w_aldI m44 (by omega) (by omega) (by omega) ?_)))
                obtain ⟨b47, b48⟩ := ag_rg A44 (top + (-1))
                refine w_ca (fun _ => rfl) rfl (c_joined (d := d) iv (w_ := (a_g A7 i)) (a := (a_g A44 ((top + (-1)) - 1))) (b := (a_g A44 (top + (-1)))) (by omega) (by omega) (by omega) (by omega) (by omega) (by omega)   (fun y49 b50 b51 => ⟨_, rfl, ?_⟩))
                refine w_astI m44 (by omega) (by omega) (by omega) (by omega) (by omega) (fun A55 h53 w56 s52 => ?_)
                have iv54 := is_112 iv t1_2 s52 ⟨_, rfl⟩
                have F57 := fr_st F s52 (by rw [t1_2]; rfl)
                refine w_inc (c := w_i (i + 1)) (fun _ => rfl) (i_addL (y := 1) rfl i) (fun _ => rfl) (w_go ?_)
                have tx58 := tx_fr iv tx (fr_st (W := [112]) fr_rf s52 (by rw [t1_2]; rfl)) rfl
                exact ih h53 (top + (-1)) (i + 1) (.inl (w_i (a_g A7 i))) iv54 F57 tx58 (by omega) (by omega) (by omega) (by omega)  (by omega) (by omega) (by omega) (by omega) (by omega)
              · refine w_icI (x := 0) rfl (w_ri ?_)
                exact k0 0 h iv F (by omega) (by omega)
            · refine w_il (fun _ => rfl) (w_icI (x := 1) rfl ?_)
              refine w_ge2 (by omega) (by omega) (by omega) (by omega)  (fun c59 => ?_) (fun c59 => ?_)
              · refine w_run k_303202 (w_al (fun _ => rfl) (w_getf mt1 rfl (fun _ => rfl) (w_il (fun _ => rfl) (w_icI (x := 1) rfl (w_op (c := w_i (top - 1)) (i_sub top 1) (w_il (fun _ => rfl) (w_icI (x := 14) rfl (w_nef (by omega) (by omega) (by omega) (by omega) (by omega)  (w_al (fun _ => rfl) (w_getf mt1 rfl (fun _ => rfl) (w_il (fun _ => rfl) (w_icI (x := 1) rfl (w_op (c := w_i (top - 1)) (i_sub top 1) ?_)))))))))))))
                obtain ⟨_, m60, A60, rfl⟩ := iv_112 iv t1_2
                refine w_aldI m60 (by omega) (by omega) (by omega) ?_
                obtain ⟨b61, b62⟩ := ag_rg A60 (top - 1)
                refine w_unR neg_lt (fun x63 x630 x631 x63e => ?_)
                refine w_go (w_run k_303247 (w_astI m60 (by omega) (by omega) (by omega) (by omega) (by omega) (fun A67 h65 w68 s64 => ?_)))
                have iv66 := is_112 iv t1_2 s64 ⟨_, rfl⟩
                have F69 := fr_st F s64 (by rw [t1_2]; rfl)
                refine w_go (w_run k_303292 (w_inc (c := w_i (i + 1)) (fun _ => rfl) (i_addL (y := 1) rfl i) (fun _ => rfl) (w_go ?_)))
                have tx70 := tx_fr iv tx (fr_st (W := [112]) fr_rf s64 (by rw [t1_2]; rfl)) rfl
                exact ih h65 top (i + 1) (.inl (w_i (a_g A7 i))) iv66 F69 tx70 (by omega) (by omega) (by omega) (by omega)  (by omega) (by omega) (by omega) (by omega) (by omega)
              · refine w_icI (x := 0) rfl (w_ri ?_)
                exact k0 0 h iv F (by omega) (by omega)
        · refine w_il (fun _ => rfl) (w_icI (x := 31) rfl ?_)
          refine w_lt2 (by omega) (by omega) (by omega) (by omega)  (fun c71 => ?_) (fun c71 => ?_)
          · refine w_run k_303148 (w_al (fun _ => rfl) (w_getf mt1 rfl (fun _ => rfl) (w_il (fun _ => rfl) (w_il (fun _ => rfl) (w_icI (x := 32) rfl (w_ltt (by omega) (by omega) (by omega) (by omega) (by omega)  (w_run k_303169 (w_al (fun _ => rfl) (w_il (fun _ => rfl) ?_)))))))))
            obtain ⟨_, m72, A72, rfl⟩ := iv_25 iv
            refine w_aldI m72 (by omega) (by omega) (by omega) ?_
            obtain ⟨b73, b74⟩ := ag_rg A72 (a_g A7 i)
            obtain ⟨_, m75, A75, rfl⟩ := iv_112 iv t1_2
            refine w_astI m75 (by omega) (by omega) (by omega) (by omega) (by omega) (fun A79 h77 w80 s76 => ?_)
            have iv78 := is_112 iv t1_2 s76 ⟨_, rfl⟩
            have F81 := fr_st F s76 (by rw [t1_2]; rfl)
            refine w_inc (c := w_i (top + 1)) (fun _ => rfl) (i_addL (y := 1) rfl top) (fun _ => rfl) (w_go (w_run k_303292 (w_inc (c := w_i (i + 1)) (fun _ => rfl) (i_addL (y := 1) rfl i) (fun _ => rfl) (w_go ?_))))
            have tx82 := tx_fr iv tx (fr_st (W := [112]) fr_rf s76 (by rw [t1_2]; rfl)) rfl
            exact ih h77 (top + 1) (i + 1) (.inl (w_i (a_g A7 i))) iv78 F81 tx82 (by omega) (by omega) (by omega) (by omega)  (by omega) (by omega) (by omega) (by omega) (by omega)
          · refine w_icI (x := 0) rfl (w_ri ?_)
            exact k0 0 h iv F (by omega) (by omega)
theorem k_303104 : m_cg 303104 = g_74_0 := rfl
theorem c_value {g : w_G} {o : w_O} {h : m_H} {d : Nat} {Q : Option m_V → m_H → Prop} (iv : w_Inv g o h) {p : Nat} {cod : Nat} {me : Int} {fe : Int} {stk : Nat} {beg : Int} {end_ : Int} (beg_lo : -2147483648 ≤ beg) (beg_hi : beg ≤ 2147483647) (end__lo : -2147483648 ≤ end_) (end__hi : end_ ≤ 2147483647) (b0 : 0 ≤ beg) (b1 : beg ≤ 200) (e1 : end_ ≤ ((o cod).2 : Int)) (tx : w_tx g o h p cod me fe stk) (k0 : ∀ (x : Int), ∀ h2 : m_H, w_Inv g o h2 → w_fr o [112] h h2 → -2147483648 ≤ x → x ≤ 2147483647 → Q (some (.inl (w_i x))) h2) : wp (d + 1) 303104 [.inr (.inl (some p)), .inl (w_i beg), .inl (w_i end_), .inr (.inl (some 25)), .inr (.inr (.inl 0)), .inr (.inr (.inl 0)), .inr (.inr (.inl 0))] [] h Q := by
  have F := fr_rf (o := o) (h := h) (W := [112])
  have W := iv_wc iv
  obtain ⟨xt1, mt1, t1_1, t1_2, t1_3, t1_4, t1_5, t1_6⟩ := (id tx)
  refine w_run k_303104 (w_icI (x := 0) rfl (w_is (fun _ => rfl) (w_il (fun _ => rfl) (w_is (fun _ => rfl) (w_nur k_303110 ?_)))))
  exact l_value_6  (p := p) (cod := cod) (me := me) (fe := fe) (stk := stk)   beg_lo beg_hi end__lo end__hi b0 b1 e1    k0 (200 - beg + 1 : Int).toNat h 0 beg (.inr (.inr (.inl 0))) iv F tx (by omega) (by omega) (by omega) (by omega)  (by omega) (by omega) (by omega) (by omega) (by omega)
theorem k_290816 : m_cg 290816 = g_71_0 := rfl
theorem c_may {g : w_G} {o : w_O} {h : m_H} {d : Nat} {Q : Option m_V → m_H → Prop} (iv : w_Inv g o h) {p : Nat} (hp : (o p).1 = 110) (k0 : ∀ (x : Int), ∀ h2 : m_H, w_Inv g o h2 → w_fr o [112] h h2 → -2147483648 ≤ x → x ≤ 2147483647 → Q (some (.inl (w_i x))) h2) : wp (d + 2) 290816 [.inr (.inl (some p)), .inr (.inl (some 25))] [] h Q := by
  have F := fr_rf (o := o) (h := h) (W := [112])
  have W := iv_wc iv
  obtain ⟨cod, me, fe, stk, tx⟩ := tx_of iv hp
  obtain ⟨xt1, mt1, t1_1, t1_2, t1_3, t1_4, t1_5, t1_6⟩ := (id tx)
  refine w_run k_290816 (w_al (fun _ => rfl) (w_icI (x := 0) rfl (w_al (fun _ => rfl) (w_getf mt1 rfl (fun _ => rfl) (w_al (fun _ => rfl) (w_this (fun _ => rfl) mt1 ?_))))))
  refine w_ca (fun _ => rfl) rfl (c_value (d := d) iv (beg := 0) (end_ := me) (p := p) (by omega) (by omega) (by omega) (by omega) (by omega) (by omega) (by omega) tx (fun y2 h3 iv4 F5 b6 b7 => ⟨_, rfl, ?_⟩))
  have F8 := fr_ca F F5 (fun t ht => by exact ht)
  refine w_ri ?_
  exact k0 y2 h3 iv4 F8 (by omega) (by omega)
theorem k_294912 : m_cg 294912 = g_72_0 := rfl
theorem c_fee {g : w_G} {o : w_O} {h : m_H} {d : Nat} {Q : Option m_V → m_H → Prop} (iv : w_Inv g o h) {p : Nat} (hp : (o p).1 = 110) (k0 : ∀ (x : Int), ∀ h2 : m_H, w_Inv g o h2 → w_fr o [112] h h2 → -2147483648 ≤ x → x ≤ 2147483647 → Q (some (.inl (w_i x))) h2) : wp (d + 2) 294912 [.inr (.inl (some p)), .inr (.inl (some 25))] [] h Q := by
  have F := fr_rf (o := o) (h := h) (W := [112])
  have W := iv_wc iv
  obtain ⟨cod, me, fe, stk, tx⟩ := tx_of iv hp
  obtain ⟨xt1, mt1, t1_1, t1_2, t1_3, t1_4, t1_5, t1_6⟩ := (id tx)
  refine w_run k_294912 (w_al (fun _ => rfl) (w_al (fun _ => rfl) (w_getf mt1 rfl (fun _ => rfl) (w_al (fun _ => rfl) (w_getf mt1 rfl (fun _ => rfl) (w_al (fun _ => rfl) (w_this (fun _ => rfl) mt1 ?_)))))))
  refine w_ca (fun _ => rfl) rfl (c_value (d := d) iv (beg := me) (end_ := fe) (p := p) (by omega) (by omega) (by omega) (by omega) (by omega) (by omega) (by omega) tx (fun y2 h3 iv4 F5 b6 b7 => ⟨_, rfl, ?_⟩))
  have F8 := fr_ca F F5 (fun t ht => by exact ht)
  refine w_ri ?_
  exact k0 y2 h3 iv4 F8 (by omega) (by omega)
theorem k_299008 : m_cg 299008 = g_73_0 := rfl
theorem c_joy {g : w_G} {o : w_O} {h : m_H} {d : Nat} {Q : Option m_V → m_H → Prop} (iv : w_Inv g o h) {p : Nat} (hp : (o p).1 = 110) (k0 : ∀ (x : Int), ∀ h2 : m_H, w_Inv g o h2 → w_fr o [112] h h2 → -2147483648 ≤ x → x ≤ 2147483647 → Q (some (.inl (w_i x))) h2) : wp (d + 2) 299008 [.inr (.inl (some p)), .inr (.inl (some 25))] [] h Q := by
  have F := fr_rf (o := o) (h := h) (W := [112])
  have W := iv_wc iv
  obtain ⟨cod, me, fe, stk, tx⟩ := tx_of iv hp
  obtain ⟨xt1, mt1, t1_1, t1_2, t1_3, t1_4, t1_5, t1_6⟩ := (id tx)
  refine w_run k_299008 (w_al (fun _ => rfl) (w_al (fun _ => rfl) (w_getf mt1 rfl (fun _ => rfl) (w_al (fun _ => rfl) (w_getf mt1 rfl (fun _ => rfl) ?_)))))
  obtain ⟨_, m2, A2, rfl, e2, g2_0⟩ := iv_111 iv t1_1
  refine w_len m2 (w_nat (by omega) (w_al (fun _ => rfl) (w_this (fun _ => rfl) mt1 ?_)))
  refine w_ca (fun _ => rfl) rfl (c_value (d := d) iv (beg := fe) (end_ := ((o cod).2 : Int)) (p := p) (by omega) (by omega) (by omega) (by omega) (by omega) (by omega) (by omega) tx (fun y3 h4 iv5 F6 b7 b8 => ⟨_, rfl, ?_⟩))
  have F9 := fr_ca F F6 (fun t ht => by exact ht)
  refine w_ri ?_
  exact k0 y3 h4 iv5 F9 (by omega) (by omega)
theorem k_540689 : m_cg 540689 = g_132_17 := rfl
theorem k_540763 : m_cg 540763 = g_132_91 := rfl
theorem k_45056 : m_cg 45056 = g_11_0 := rfl
theorem k_40960 : m_cg 40960 = g_10_0 := rfl
theorem k_540748 : m_cg 540748 = g_132_76 := rfl
theorem k_540755 : m_cg 540755 = g_132_83 := rfl
theorem k_282624 : m_cg 282624 = g_69_0 := rfl
theorem k_274432 : m_cg 274432 = g_67_0 := rfl
theorem k_274447 : m_cg 274447 = g_67_15 := rfl
theorem k_540757 : m_cg 540757 = g_132_85 := rfl
theorem k_274448 : m_cg 274448 = g_67_16 := rfl
theorem k_270336 : m_cg 270336 = g_66_0 := rfl
theorem k_24576 : m_cg 24576 = g_6_0 := rfl
theorem k_24590 : m_cg 24590 = g_6_14 := rfl
theorem k_24591 : m_cg 24591 = g_6_15 := rfl
theorem k_20480 : m_cg 20480 = g_5_0 := rfl
theorem k_32768 : m_cg 32768 = g_8_0 := rfl
theorem k_12288 : m_cg 12288 = g_3_0 := rfl
theorem k_12309 : m_cg 12309 = g_3_21 := rfl
theorem k_12310 : m_cg 12310 = g_3_22 := rfl
theorem k_8192 : m_cg 8192 = g_2_0 := rfl
theorem l_leastAsked_17 {g : w_G} {o : w_O} {h : m_H} {d : Nat} {Q : Option m_V → m_H → Prop} (iv : w_Inv g o h) {house : Int} {f : Int} {t : Int} (house_lo : -2147483648 ≤ house) (house_hi : house ≤ 2147483647) (f_lo : -2147483648 ≤ f) (f_hi : f ≤ 2147483647) (t_lo : -2147483648 ≤ t) (t_hi : t ≤ 2147483647) (k0 : ∀ (x : Int), -2147483648 ≤ x → x ≤ 2147483647 → Q (some (.inl (w_i x))) h) : ∀ (k : Nat) (lea i : Int) (x6_ : m_V) (x7_ : m_V) (lea_lo : -2147483648 ≤ lea) (lea_hi : lea ≤ 2147483647) (i_lo : -2147483648 ≤ i) (i_hi : i ≤ 2147483647) (i0 : 0 ≤ i) (i1 : i ≤ g_np g), g_np g - i < (k : Int) → wp (d + 2) 540689 [.inr (.inl (some 0)), .inl (w_i house), .inl (w_i f), .inl (w_i t), .inl (w_i lea), .inl (w_i i), x6_, x7_] [] h Q := by
  intro k
  induction k with
  | zero => intro lea i x6_ x7_ lea_lo lea_hi i_lo i_hi i0 i1 hk; exact absurd hk (by omega)
  | succ k ih =>
    intro lea i x6_ x7_ lea_lo lea_hi i_lo i_hi i0 i1 hk
    have W := iv_wc iv
    refine w_run k_540689 (w_il (fun _ => rfl) (w_al (fun _ => rfl) ?_))
    obtain ⟨_, m1, rfl⟩ := iv_0 iv
    refine w_getf m1 rfl (fun _ => rfl) ?_
    refine w_ge2 (by omega) (by omega) (by omega) (by omega)  (fun c2 => ?_) (fun c2 => ?_)
    · refine w_run k_540763 (w_il (fun _ => rfl) (w_ri ?_))
      exact k0 lea (by omega) (by omega)
    · refine w_al (fun _ => rfl) (w_getf m1 rfl (fun _ => rfl) (w_il (fun _ => rfl) ?_))
      obtain ⟨_, m3, l3, rfl, ll3, lp3, ln3⟩ := iv_17 iv
      obtain ⟨p4, b5, b6⟩ := lp3 (i).toNat (by omega) (by omega)
      refine w_aaldI m3 (by omega) (by omega) (by decide) b5 (w_as (fun _ => rfl) (w_al (fun _ => rfl) (w_ifn1 (w_al (fun _ => rfl) (w_il (fun _ => rfl) (w_il (fun _ => rfl) (w_il (fun _ => rfl) ?_)))))))
      obtain ⟨_, mk7, ck7, rfl, lk7, uk7, nk7, hk7⟩ := iv_120 iv (congrArg Prod.fst b6)
      rcases hk7 with ⟨kk7, rfl⟩ | ⟨kk7, rfl⟩ | ⟨kk7, rfl⟩ | ⟨kk7, rfl⟩ | ⟨kk7, rfl⟩ | ⟨kk7, rfl⟩
      · refine w_vc (3, 45056, []) (fun _ => rfl) mk7 (fun _ => rfl) (w_ca (fun _ => rfl) rfl (w_run k_45056 (w_icI (x := 1) rfl (w_rz (by decide) ⟨_, rfl, ?_⟩))))
        refine w_eqzf (by omega) (by omega) (by omega)  (w_icI (x := 0) rfl (w_al (fun _ => rfl) (w_il (fun _ => rfl) (w_il (fun _ => rfl) (w_il (fun _ => rfl) (w_vc (3, 40960, []) (fun _ => rfl) mk7 (fun _ => rfl) (w_ca (fun _ => rfl) rfl (w_run k_40960 (w_al (fun _ => rfl) (w_getf mk7 rfl (fun _ => rfl) (w_ri ⟨_, rfl, ?_⟩)))))))))))
        refine w_max (by omega) (by omega) (by omega) (by omega) rfl (fun x8 b9 => ?_)
        refine w_is (fun _ => rfl) (w_il (fun _ => rfl) (w_icI (x := (-1)) wn_1 ?_))
        refine w_ne2 (by omega) (by omega) (by omega) (by omega)  (fun c10 => ?_) (fun c10 => ?_)
        · refine w_run k_540748 (w_il (fun _ => rfl) (w_il (fun _ => rfl) (w_min (by omega) (by omega) (by omega) (by omega) rfl (fun x11 b12 => ?_))))
          refine w_is (fun _ => rfl) (w_inc (c := w_i (i + 1)) (fun _ => rfl) (i_addL (y := 1) rfl i) (fun _ => rfl) (w_go ?_))
          exact ih x11 (i + 1) (.inr (.inl (some p4))) (.inl (w_i x8)) (by omega) (by omega) (by omega) (by omega)  (by omega) (by omega) (by omega)
        · refine w_il (fun _ => rfl) (w_go (w_run k_540755 (w_is (fun _ => rfl) (w_inc (c := w_i (i + 1)) (fun _ => rfl) (i_addL (y := 1) rfl i) (fun _ => rfl) (w_go ?_)))))
          exact ih x8 (i + 1) (.inr (.inl (some p4))) (.inl (w_i x8)) (by omega) (by omega) (by omega) (by omega)  (by omega) (by omega) (by omega)
      · refine w_vc (8, 45056, []) (fun _ => rfl) mk7 (fun _ => rfl) (w_ca (fun _ => rfl) rfl (w_run k_45056 (w_icI (x := 1) rfl (w_rz (by decide) ⟨_, rfl, ?_⟩))))
        refine w_eqzf (by omega) (by omega) (by omega)  (w_icI (x := 0) rfl (w_al (fun _ => rfl) (w_il (fun _ => rfl) (w_il (fun _ => rfl) (w_il (fun _ => rfl) (w_vc (8, 282624, []) (fun _ => rfl) mk7 (fun _ => rfl) (w_ca (fun _ => rfl) rfl (w_run k_282624 (w_al (fun _ => rfl) (w_getf mk7 rfl (fun _ => rfl) (w_il (fun _ => rfl) (w_icI (x := 1) rfl (w_opR add_lt (fun x13 x130 x131 x13e => ?_))))))))))))))
        refine w_opR mul_lt (fun x14 x140 x141 x14e => ?_)
        refine w_ri ⟨_, rfl, ?_⟩
        refine w_max (by omega) (by omega) (by omega) (by omega) rfl (fun x15 b16 => ?_)
        refine w_is (fun _ => rfl) (w_il (fun _ => rfl) (w_icI (x := (-1)) wn_1 ?_))
        refine w_ne2 (by omega) (by omega) (by omega) (by omega)  (fun c17 => ?_) (fun c17 => ?_)
        · refine w_run k_540748 (w_il (fun _ => rfl) (w_il (fun _ => rfl) (w_min (by omega) (by omega) (by omega) (by omega) rfl (fun x18 b19 => ?_))))
          refine w_is (fun _ => rfl) (w_inc (c := w_i (i + 1)) (fun _ => rfl) (i_addL (y := 1) rfl i) (fun _ => rfl) (w_go ?_))
          exact ih x18 (i + 1) (.inr (.inl (some p4))) (.inl (w_i x15)) (by omega) (by omega) (by omega) (by omega)  (by omega) (by omega) (by omega)
        · refine w_il (fun _ => rfl) (w_go (w_run k_540755 (w_is (fun _ => rfl) (w_inc (c := w_i (i + 1)) (fun _ => rfl) (i_addL (y := 1) rfl i) (fun _ => rfl) (w_go ?_)))))
          exact ih x15 (i + 1) (.inr (.inl (some p4))) (.inl (w_i x15)) (by omega) (by omega) (by omega) (by omega)  (by omega) (by omega) (by omega)
      · refine w_vc (7, 274432, []) (fun _ => rfl) mk7 (fun _ => rfl) (w_ca (fun _ => rfl) rfl (w_run k_274432 (w_il (fun _ => rfl) (w_al (fun _ => rfl) (w_getf mk7 rfl (fun _ => rfl) (w_icI (x := 6) rfl (w_opz (c := w_i ((g_PN g ((o p4).2 : Int)) % 6)) (beq0 (by omega) (by omega) (by omega)) (i_rem (by omega) (by omega) (by omega) (by omega)) ?_)))))))
        have b20 : 0 ≤ ((g_PN g ((o p4).2 : Int)) % 6) ∧ ((g_PN g ((o p4).2 : Int)) % 6) < 6 := ⟨Int.emod_nonneg _ (by omega), Int.emod_lt_of_pos _ (by omega)⟩
        refine w_eq2 (by omega) (by omega) (by omega) (by omega)  (fun c21 => ?_) (fun c21 => ?_)
        · refine w_run k_274447 (w_icI (x := 0) rfl (w_rz (by decide) ⟨_, rfl, ?_⟩))
          refine w_eqzt (by omega) (by omega) (by omega)  (w_run k_540757 (w_inc (c := w_i (i + 1)) (fun _ => rfl) (i_addL (y := 1) rfl i) (fun _ => rfl) (w_go ?_)))
          exact ih lea (i + 1) (.inr (.inl (some p4))) (x7_) (by omega) (by omega) (by omega) (by omega)  (by omega) (by omega) (by omega)
        · refine w_icI (x := 1) rfl (w_go (w_run k_274448 (w_rz (by decide) ⟨_, rfl, ?_⟩)))
          refine w_eqzf (by omega) (by omega) (by omega)  (w_icI (x := 0) rfl (w_al (fun _ => rfl) (w_il (fun _ => rfl) (w_il (fun _ => rfl) (w_il (fun _ => rfl) (w_vc (7, 270336, []) (fun _ => rfl) mk7 (fun _ => rfl) (w_ca (fun _ => rfl) rfl (w_run k_270336 (w_al (fun _ => rfl) (w_getf mk7 rfl (fun _ => rfl) (w_icI (x := 3) rfl (w_op (c := w_i ((1 + (g_PN g ((o p4).2 : Int))) + 3)) (i_add (1 + (g_PN g ((o p4).2 : Int))) 3) (w_ri ⟨_, rfl, ?_⟩)))))))))))))
          refine w_max (by omega) (by omega) (by omega) (by omega) rfl (fun x22 b23 => ?_)
          refine w_is (fun _ => rfl) (w_il (fun _ => rfl) (w_icI (x := (-1)) wn_1 ?_))
          refine w_ne2 (by omega) (by omega) (by omega) (by omega)  (fun c24 => ?_) (fun c24 => ?_)
          · refine w_run k_540748 (w_il (fun _ => rfl) (w_il (fun _ => rfl) (w_min (by omega) (by omega) (by omega) (by omega) rfl (fun x25 b26 => ?_))))
            refine w_is (fun _ => rfl) (w_inc (c := w_i (i + 1)) (fun _ => rfl) (i_addL (y := 1) rfl i) (fun _ => rfl) (w_go ?_))
            exact ih x25 (i + 1) (.inr (.inl (some p4))) (.inl (w_i x22)) (by omega) (by omega) (by omega) (by omega)  (by omega) (by omega) (by omega)
          · refine w_il (fun _ => rfl) (w_go (w_run k_540755 (w_is (fun _ => rfl) (w_inc (c := w_i (i + 1)) (fun _ => rfl) (i_addL (y := 1) rfl i) (fun _ => rfl) (w_go ?_)))))
            exact ih x22 (i + 1) (.inr (.inl (some p4))) (.inl (w_i x22)) (by omega) (by omega) (by omega) (by omega)  (by omega) (by omega) (by omega)
      · refine w_vc (1, 24576, []) (fun _ => rfl) mk7 (fun _ => rfl) (w_ca (fun _ => rfl) rfl (w_run k_24576 (w_il (fun _ => rfl) (w_al (fun _ => rfl) (w_getf mk7 rfl (fun _ => rfl) (w_icI (x := 5) rfl (w_opz (c := w_i ((g_PN g ((o p4).2 : Int)) % 5)) (beq0 (by omega) (by omega) (by omega)) (i_rem (by omega) (by omega) (by omega) (by omega)) ?_)))))))
        have b27 : 0 ≤ ((g_PN g ((o p4).2 : Int)) % 5) ∧ ((g_PN g ((o p4).2 : Int)) % 5) < 5 := ⟨Int.emod_nonneg _ (by omega), Int.emod_lt_of_pos _ (by omega)⟩
        refine w_eq2 (by omega) (by omega) (by omega) (by omega)  (fun c28 => ?_) (fun c28 => ?_)
        · refine w_run k_24590 (w_icI (x := 0) rfl (w_rz (by decide) ⟨_, rfl, ?_⟩))
          refine w_eqzt (by omega) (by omega) (by omega)  (w_run k_540757 (w_inc (c := w_i (i + 1)) (fun _ => rfl) (i_addL (y := 1) rfl i) (fun _ => rfl) (w_go ?_)))
          exact ih lea (i + 1) (.inr (.inl (some p4))) (x7_) (by omega) (by omega) (by omega) (by omega)  (by omega) (by omega) (by omega)
        · refine w_icI (x := 1) rfl (w_go (w_run k_24591 (w_rz (by decide) ⟨_, rfl, ?_⟩)))
          refine w_eqzf (by omega) (by omega) (by omega)  (w_icI (x := 0) rfl (w_al (fun _ => rfl) (w_il (fun _ => rfl) (w_il (fun _ => rfl) (w_il (fun _ => rfl) (w_vc (1, 20480, []) (fun _ => rfl) mk7 (fun _ => rfl) (w_ca (fun _ => rfl) rfl (w_run k_20480 (w_al (fun _ => rfl) (w_il (fun _ => rfl) (w_il (fun _ => rfl) (w_il (fun _ => rfl) (w_this (fun _ => rfl) mk7 (w_ca (fun _ => rfl) rfl (w_run k_282624 (w_al (fun _ => rfl) (w_getf mk7 rfl (fun _ => rfl) (w_il (fun _ => rfl) (w_icI (x := 1) rfl (w_opR add_lt (fun x29 x290 x291 x29e => ?_)))))))))))))))))))))
          refine w_opR mul_lt (fun x30 x300 x301 x30e => ?_)
          refine w_ri ⟨_, rfl, ?_⟩
          refine w_il (fun _ => rfl) (w_al (fun _ => rfl) (w_getf mk7 rfl (fun _ => rfl) (w_opR mul_lt (fun x31 x310 x311 x31e => ?_))))
          refine w_opR sub_lt (fun x32 x320 x321 x32e => ?_)
          refine w_ri ⟨_, rfl, ?_⟩
          refine w_max (by omega) (by omega) (by omega) (by omega) rfl (fun x33 b34 => ?_)
          refine w_is (fun _ => rfl) (w_il (fun _ => rfl) (w_icI (x := (-1)) wn_1 ?_))
          refine w_ne2 (by omega) (by omega) (by omega) (by omega)  (fun c35 => ?_) (fun c35 => ?_)
          · refine w_run k_540748 (w_il (fun _ => rfl) (w_il (fun _ => rfl) (w_min (by omega) (by omega) (by omega) (by omega) rfl (fun x36 b37 => ?_))))
            refine w_is (fun _ => rfl) (w_inc (c := w_i (i + 1)) (fun _ => rfl) (i_addL (y := 1) rfl i) (fun _ => rfl) (w_go ?_))
            exact ih x36 (i + 1) (.inr (.inl (some p4))) (.inl (w_i x33)) (by omega) (by omega) (by omega) (by omega)  (by omega) (by omega) (by omega)
          · refine w_il (fun _ => rfl) (w_go (w_run k_540755 (w_is (fun _ => rfl) (w_inc (c := w_i (i + 1)) (fun _ => rfl) (i_addL (y := 1) rfl i) (fun _ => rfl) (w_go ?_)))))
            exact ih x33 (i + 1) (.inr (.inl (some p4))) (.inl (w_i x33)) (by omega) (by omega) (by omega) (by omega)  (by omega) (by omega) (by omega)
      · refine w_vc (2, 274432, []) (fun _ => rfl) mk7 (fun _ => rfl) (w_ca (fun _ => rfl) rfl (w_run k_274432 (w_il (fun _ => rfl) (w_al (fun _ => rfl) (w_getf mk7 rfl (fun _ => rfl) (w_icI (x := 6) rfl (w_opz (c := w_i ((g_PN g ((o p4).2 : Int)) % 6)) (beq0 (by omega) (by omega) (by omega)) (i_rem (by omega) (by omega) (by omega) (by omega)) ?_)))))))
        have b38 : 0 ≤ ((g_PN g ((o p4).2 : Int)) % 6) ∧ ((g_PN g ((o p4).2 : Int)) % 6) < 6 := ⟨Int.emod_nonneg _ (by omega), Int.emod_lt_of_pos _ (by omega)⟩
        refine w_eq2 (by omega) (by omega) (by omega) (by omega)  (fun c39 => ?_) (fun c39 => ?_)
        · refine w_run k_274447 (w_icI (x := 0) rfl (w_rz (by decide) ⟨_, rfl, ?_⟩))
          refine w_eqzt (by omega) (by omega) (by omega)  (w_run k_540757 (w_inc (c := w_i (i + 1)) (fun _ => rfl) (i_addL (y := 1) rfl i) (fun _ => rfl) (w_go ?_)))
          exact ih lea (i + 1) (.inr (.inl (some p4))) (x7_) (by omega) (by omega) (by omega) (by omega)  (by omega) (by omega) (by omega)
        · refine w_icI (x := 1) rfl (w_go (w_run k_274448 (w_rz (by decide) ⟨_, rfl, ?_⟩)))
          refine w_eqzf (by omega) (by omega) (by omega)  (w_icI (x := 0) rfl (w_al (fun _ => rfl) (w_il (fun _ => rfl) (w_il (fun _ => rfl) (w_il (fun _ => rfl) (w_vc (2, 32768, []) (fun _ => rfl) mk7 (fun _ => rfl) (w_ca (fun _ => rfl) rfl (w_run k_32768 (w_al (fun _ => rfl) (w_il (fun _ => rfl) (w_il (fun _ => rfl) (w_il (fun _ => rfl) (w_this (fun _ => rfl) mk7 (w_ca (fun _ => rfl) rfl (w_run k_270336 (w_al (fun _ => rfl) (w_getf mk7 rfl (fun _ => rfl) (w_icI (x := 3) rfl (w_op (c := w_i ((1 + (g_PN g ((o p4).2 : Int))) + 3)) (i_add (1 + (g_PN g ((o p4).2 : Int))) 3) (w_ri ⟨_, rfl, ?_⟩))))))))))))))))))))
          refine w_icI (x := 2) rfl (w_opz (c := w_i (((1 + (g_PN g ((o p4).2 : Int))) + 3) / 2)) (beq0 (by omega) (by omega) (by omega)) (i_div (by omega) (by omega) (by omega) (by omega)) ?_)
          have b40 : 0 ≤ (((1 + (g_PN g ((o p4).2 : Int))) + 3) / 2) ∧ (((1 + (g_PN g ((o p4).2 : Int))) + 3) / 2) ≤ ((1 + (g_PN g ((o p4).2 : Int))) + 3) := ⟨Int.ediv_nonneg (by omega) (by omega), Int.ediv_le_self _ (by omega)⟩
          refine w_ri ⟨_, rfl, ?_⟩
          refine w_max (by omega) (by omega) (by omega) (by omega) rfl (fun x41 b42 => ?_)
          refine w_is (fun _ => rfl) (w_il (fun _ => rfl) (w_icI (x := (-1)) wn_1 ?_))
          refine w_ne2 (by omega) (by omega) (by omega) (by omega)  (fun c43 => ?_) (fun c43 => ?_)
          · refine w_run k_540748 (w_il (fun _ => rfl) (w_il (fun _ => rfl) (w_min (by omega) (by omega) (by omega) (by omega) rfl (fun x44 b45 => ?_))))
            refine w_is (fun _ => rfl) (w_inc (c := w_i (i + 1)) (fun _ => rfl) (i_addL (y := 1) rfl i) (fun _ => rfl) (w_go ?_))
            exact ih x44 (i + 1) (.inr (.inl (some p4))) (.inl (w_i x41)) (by omega) (by omega) (by omega) (by omega)  (by omega) (by omega) (by omega)
          · refine w_il (fun _ => rfl) (w_go (w_run k_540755 (w_is (fun _ => rfl) (w_inc (c := w_i (i + 1)) (fun _ => rfl) (i_addL (y := 1) rfl i) (fun _ => rfl) (w_go ?_)))))
            exact ih x41 (i + 1) (.inr (.inl (some p4))) (.inl (w_i x41)) (by omega) (by omega) (by omega) (by omega)  (by omega) (by omega) (by omega)
      · refine w_vc (0, 12288, []) (fun _ => rfl) mk7 (fun _ => rfl) (w_ca (fun _ => rfl) rfl (w_run k_12288 (w_al (fun _ => rfl) (w_il (fun _ => rfl) (w_il (fun _ => rfl) (w_il (fun _ => rfl) (w_this (fun _ => rfl) mk7 (w_ca (fun _ => rfl) rfl (w_run k_274432 (w_il (fun _ => rfl) (w_al (fun _ => rfl) (w_getf mk7 rfl (fun _ => rfl) (w_icI (x := 6) rfl (w_opz (c := w_i ((g_PN g ((o p4).2 : Int)) % 6)) (beq0 (by omega) (by omega) (by omega)) (i_rem (by omega) (by omega) (by omega) (by omega)) ?_))))))))))))))
        have b46 : 0 ≤ ((g_PN g ((o p4).2 : Int)) % 6) ∧ ((g_PN g ((o p4).2 : Int)) % 6) < 6 := ⟨Int.emod_nonneg _ (by omega), Int.emod_lt_of_pos _ (by omega)⟩
        refine w_eq2 (by omega) (by omega) (by omega) (by omega)  (fun c47 => ?_) (fun c47 => ?_)
        · refine w_run k_274447 (w_icI (x := 0) rfl (w_rz (by decide) ⟨_, rfl, ?_⟩))
          refine w_eqzt (by omega) (by omega) (by omega)  (w_run k_12309 (w_icI (x := 0) rfl (w_rz (by decide) ⟨_, rfl, ?_⟩)))
          refine w_eqzt (by omega) (by omega) (by omega)  (w_run k_540757 (w_inc (c := w_i (i + 1)) (fun _ => rfl) (i_addL (y := 1) rfl i) (fun _ => rfl) (w_go ?_)))
          exact ih lea (i + 1) (.inr (.inl (some p4))) (x7_) (by omega) (by omega) (by omega) (by omega)  (by omega) (by omega) (by omega)
        · refine w_icI (x := 1) rfl (w_go (w_run k_274448 (w_rz (by decide) ⟨_, rfl, ?_⟩)))
          refine w_eqzf (by omega) (by omega) (by omega)  (w_il (fun _ => rfl) (w_il (fun _ => rfl) (w_icI (x := 1) rfl (w_opR sub_lt (fun x48 x480 x481 x48e => ?_)))))
          refine w_eq2 (by omega) (by omega) (by omega) (by omega)  (fun c49 => ?_) (fun c49 => ?_)
          · refine w_run k_12309 (w_icI (x := 0) rfl (w_rz (by decide) ⟨_, rfl, ?_⟩))
            refine w_eqzt (by omega) (by omega) (by omega)  (w_run k_540757 (w_inc (c := w_i (i + 1)) (fun _ => rfl) (i_addL (y := 1) rfl i) (fun _ => rfl) (w_go ?_)))
            exact ih lea (i + 1) (.inr (.inl (some p4))) (x7_) (by omega) (by omega) (by omega) (by omega)  (by omega) (by omega) (by omega)
          · refine w_icI (x := 1) rfl (w_go (w_run k_12310 (w_rz (by decide) ⟨_, rfl, ?_⟩)))
            refine w_eqzf (by omega) (by omega) (by omega)  (w_icI (x := 0) rfl (w_al (fun _ => rfl) (w_il (fun _ => rfl) (w_il (fun _ => rfl) (w_il (fun _ => rfl) (w_vc (0, 8192, []) (fun _ => rfl) mk7 (fun _ => rfl) (w_ca (fun _ => rfl) rfl (w_run k_8192 (w_al (fun _ => rfl) (w_il (fun _ => rfl) (w_il (fun _ => rfl) (w_il (fun _ => rfl) (w_this (fun _ => rfl) mk7 (w_ca (fun _ => rfl) rfl (w_run k_270336 (w_al (fun _ => rfl) (w_getf mk7 rfl (fun _ => rfl) (w_icI (x := 3) rfl (w_op (c := w_i ((1 + (g_PN g ((o p4).2 : Int))) + 3)) (i_add (1 + (g_PN g ((o p4).2 : Int))) 3) (w_ri ⟨_, rfl, ?_⟩))))))))))))))))))))
            refine w_il (fun _ => rfl) (w_opR add_lt (fun x50 x500 x501 x50e => ?_))
            refine w_ri ⟨_, rfl, ?_⟩
            refine w_max (by omega) (by omega) (by omega) (by omega) rfl (fun x51 b52 => ?_)
            refine w_is (fun _ => rfl) (w_il (fun _ => rfl) (w_icI (x := (-1)) wn_1 ?_))
            refine w_ne2 (by omega) (by omega) (by omega) (by omega)  (fun c53 => ?_) (fun c53 => ?_)
            · refine w_run k_540748 (w_il (fun _ => rfl) (w_il (fun _ => rfl) (w_min (by omega) (by omega) (by omega) (by omega) rfl (fun x54 b55 => ?_))))
              refine w_is (fun _ => rfl) (w_inc (c := w_i (i + 1)) (fun _ => rfl) (i_addL (y := 1) rfl i) (fun _ => rfl) (w_go ?_))
              exact ih x54 (i + 1) (.inr (.inl (some p4))) (.inl (w_i x51)) (by omega) (by omega) (by omega) (by omega)  (by omega) (by omega) (by omega)
            · refine w_il (fun _ => rfl) (w_go (w_run k_540755 (w_is (fun _ => rfl) (w_inc (c := w_i (i + 1)) (fun _ => rfl) (i_addL (y := 1) rfl i) (fun _ => rfl) (w_go ?_)))))
              exact ih x51 (i + 1) (.inr (.inl (some p4))) (.inl (w_i x51)) (by omega) (by omega) (by omega) (by omega)  (by omega) (by omega) (by omega)
theorem k_540672 : m_cg 540672 = g_132_0 := rfl
theorem k_540683 : m_cg 540683 = g_132_11 := rfl
theorem k_540684 : m_cg 540684 = g_132_12 := rfl
theorem c_leastAsked {g : w_G} {o : w_O} {h : m_H} {d : Nat} {Q : Option m_V → m_H → Prop} (iv : w_Inv g o h) {house : Int} {f : Int} {t : Int} (house_lo : -2147483648 ≤ house) (house_hi : house ≤ 2147483647) (f_lo : -2147483648 ≤ f) (f_hi : f ≤ 2147483647) (t_lo : -2147483648 ≤ t) (t_hi : t ≤ 2147483647) (k0 : ∀ (x : Int), -2147483648 ≤ x → x ≤ 2147483647 → Q (some (.inl (w_i x))) h) : wp (d + 2) 540672 [.inr (.inl (some 0)), .inl (w_i house), .inl (w_i f), .inl (w_i t), .inr (.inr (.inl 0)), .inr (.inr (.inl 0)), .inr (.inr (.inl 0)), .inr (.inr (.inl 0))] [] h Q := by
  have W := iv_wc iv
  refine w_run k_540672 (w_al (fun _ => rfl) ?_)
  obtain ⟨_, m1, rfl⟩ := iv_0 iv
  refine w_getf m1 rfl (fun _ => rfl) ?_
  refine w_nez2 (by omega) (by omega)  (fun c2 => ?_) (fun c2 => ?_)
  · refine w_run k_540683 (w_icI (x := (-1)) wn_1 (w_is (fun _ => rfl) (w_icI (x := 0) rfl (w_is (fun _ => rfl) (w_nur k_540689 ?_)))))
    exact l_leastAsked_17 iv    house_lo house_hi f_lo f_hi t_lo t_hi     k0 (g_np g - 0 + 1 : Int).toNat (-1) 0 (.inr (.inr (.inl 0))) (.inr (.inr (.inl 0))) (by omega) (by omega) (by omega) (by omega)  (by omega) (by omega) (by omega)
  · refine w_icI (x := 0) rfl (w_go (w_run k_540684 (w_is (fun _ => rfl) (w_icI (x := 0) rfl (w_is (fun _ => rfl) (w_nur k_540689 ?_))))))
    exact l_leastAsked_17 iv    house_lo house_hi f_lo f_hi t_lo t_hi     k0 (g_np g - 0 + 1 : Int).toNat 0 0 (.inr (.inr (.inl 0))) (.inr (.inr (.inl 0))) (by omega) (by omega) (by omega) (by omega)  (by omega) (by omega) (by omega)
theorem k_536576 : m_cg 536576 = g_131_0 := rfl
theorem k_536602 : m_cg 536602 = g_131_26 := rfl
theorem k_536624 : m_cg 536624 = g_131_48 := rfl
theorem k_536644 : m_cg 536644 = g_131_68 := rfl
theorem k_536662 : m_cg 536662 = g_131_86 := rfl
theorem c_price {g : w_G} {o : w_O} {h : m_H} {d : Nat} {Q : Option m_V → m_H → Prop} (iv : w_Inv g o h) {house : Int} {f : Int} {t : Int} (house_lo : -2147483648 ≤ house) (house_hi : house ≤ 2147483647) (f_lo : -2147483648 ≤ f) (f_hi : f ≤ 2147483647) (t_lo : -2147483648 ≤ t) (t_hi : t ≤ 2147483647) (h0_ : 0 ≤ house) (h1_ : house < 6) (k0 : ∀ (x : Int), ∀ h2 : m_H, w_Inv g o h2 → w_fr o [25, 112] h h2 → -2147483648 ≤ x → x ≤ 2147483647 → Q (some (.inl (w_i x))) h2) : wp (d + 3) 536576 [.inr (.inl (some 0)), .inl (w_i house), .inl (w_i f), .inl (w_i t), .inr (.inr (.inl 0)), .inr (.inr (.inl 0))] [] h Q := by
  have F := fr_rf (o := o) (h := h) (W := [25, 112])
  have W := iv_wc iv
  refine w_run k_536576 (w_al (fun _ => rfl) ?_)
  obtain ⟨_, m1, rfl⟩ := iv_0 iv
  refine w_this (fun _ => rfl) m1 ?_
  refine w_ca (fun _ => rfl) rfl (c_ruleNow (d := (d + 1)) iv     (fun p2 b3 => ⟨_, rfl, ?_⟩))
  refine w_as (fun _ => rfl) (w_al (fun _ => rfl) (w_ifn1 (w_al (fun _ => rfl) (w_getf m1 rfl (fun _ => rfl) (w_il (fun _ => rfl) ?_)))))
  obtain ⟨_, m4, kp4, sp4, rl4, rfl, l4_kp, u4_kp, l4_sp, u4_sp, l4_rl, u4_rl, f4_0, f4_1⟩ := iv_1 iv
  refine w_this (fun _ => rfl) m4 ?_
  refine w_ca (fun _ => rfl) rfl (c_keepBit (d := (d + 2)) iv (n := house) (by omega) (by omega)   (fun y5 b6 b7 b8 b9 => ⟨_, rfl, ?_⟩))
  refine w_icI (x := 1) rfl ?_
  refine w_ne2 (by omega) (by omega) (by omega) (by omega)  (fun c10 => ?_) (fun c10 => ?_)
  · refine w_run k_536602 (w_al (fun _ => rfl) (w_il (fun _ => rfl) (w_il (fun _ => rfl) (w_il (fun _ => rfl) (w_this (fun _ => rfl) m1 ?_)))))
    refine w_cv (fun _ => rfl) rfl (c_tellNames (d := (d + 1)) iv (house := house) (f := f) (t := t) (by omega) (by omega) (by omega) (by omega) (by omega) (by omega) (by omega) (by omega)  (fun h11 iv12 F13 => ⟨rfl, ?_⟩))
    have F14 := fr_ca F F13 (fun t ht => by simp at ht ⊢; omega)
    refine w_al (fun _ => rfl) (w_al (fun _ => rfl) ?_)
    have m15 := fr_at F13 m1 iv (ow_0 iv) rfl rfl
    refine w_getf m15 rfl (fun _ => rfl) ?_
    obtain ⟨_, m16, me16, fe16, cod16, stk16, rfl, l16_me, u16_me, l16_fe, u16_fe, f16_0, f16_1, f16_2, f16_3, f16_4⟩ := iv_110 iv12 b3
    refine w_this (fun _ => rfl) m16 ?_
    refine w_ca (fun _ => rfl) rfl (c_may (d := d) iv12 (p := p2)  b3  (fun y17 h18 iv19 F20 b21 b22 => ⟨_, rfl, ?_⟩))
    have F23 := fr_ca F14 F20 (fun t ht => by simp at ht ⊢; omega)
    refine w_nez2 (by omega) (by omega)  (fun c24 => ?_) (fun c24 => ?_)
    · refine w_run k_536624 (w_al (fun _ => rfl) (w_il (fun _ => rfl) (w_il (fun _ => rfl) (w_il (fun _ => rfl) ?_))))
      have m25 := fr_at F20 m15 iv12 (ow_0 iv12) rfl rfl
      refine w_this (fun _ => rfl) m25 ?_
      refine w_ca (fun _ => rfl) rfl (c_leastAsked (d := d) iv19 (house := house) (f := f) (t := t) (by omega) (by omega) (by omega) (by omega) (by omega) (by omega)   (fun y26 b27 b28 => ⟨_, rfl, ?_⟩))
      refine w_is (fun _ => rfl) (w_il (fun _ => rfl) (w_icI (x := (-1)) wn_1 ?_))
      refine w_ne2 (by omega) (by omega) (by omega) (by omega)  (fun c29 => ?_) (fun c29 => ?_)
      · refine w_run k_536644 (w_il (fun _ => rfl) (w_al (fun _ => rfl) (w_al (fun _ => rfl) (w_getf m25 rfl (fun _ => rfl) ?_))))
        have m30 := fr_at F20 m16 iv12 b3 rfl rfl
        refine w_this (fun _ => rfl) m30 ?_
        refine w_ca (fun _ => rfl) rfl (c_fee (d := d) iv19 (p := p2)  b3  (fun y31 h32 iv33 F34 b35 b36 => ⟨_, rfl, ?_⟩))
        have F37 := fr_ca F23 F34 (fun t ht => by simp at ht ⊢; omega)
        refine w_icI (x := 999) rfl ?_
        refine w_ca (fun _ => rfl) rfl (c_bounded (d := (d + 2)) iv33 (n := y31) (most := 999) (by omega) (by omega) (by omega) (by omega)   (fun y38 b39 b40 b41 b42 => ⟨_, rfl, ?_⟩))
        refine w_opR add_lt (fun x43 x430 x431 x43e => ?_)
        refine w_ri ?_
        exact k0 x43 h32 iv33 F37 (by omega) (by omega)
      · refine w_icI (x := (-5)) wn_5 (w_go (w_run k_536662 (w_ri ?_)))
        exact k0 (-5) h18 iv19 F23 (by omega) (by omega)
    · refine w_icI (x := (-5)) wn_5 (w_ri ?_)
      exact k0 (-5) h18 iv19 F23 (by omega) (by omega)
  · refine w_icI (x := (-5)) wn_5 (w_ri ?_)
    exact k0 (-5) h iv F (by omega) (by omega)
theorem k_528384 : m_cg 528384 = g_129_0 := rfl
theorem k_528416 : m_cg 528416 = g_129_32 := rfl
theorem k_528444 : m_cg 528444 = g_129_60 := rfl
theorem k_528413 : m_cg 528413 = g_129_29 := rfl
theorem c_costIn {g : w_G} {o : w_O} {h : m_H} {d : Nat} {Q : Option m_V → m_H → Prop} (iv : w_Inv g o h) {q : Nat} {A : Nat} {house : Int} {t : Int} (house_lo : -2147483648 ≤ house) (house_hi : house ≤ 2147483647) (t_lo : -2147483648 ≤ t) (t_hi : t ≤ 2147483647) (ha_A : m_at h.2.2 q = some (.inl (false, 6, A))) (k0 : ∀ (x : Int), ∀ h2 : m_H, w_Inv g o h2 → w_fr o [25, 112] h h2 → -2147483648 ≤ x → x ≤ 2147483647 → (x < 0 ∨ (0 ≤ house ∧ house < g_H g ∧ 0 ≤ t ∧ t < g_C g)) → Q (some (.inl (w_i x))) h2) : wp (d + 4) 528384 [.inr (.inl (some 0)), .inr (.inl (some q)), .inl (w_i house), .inl (w_i t)] [] h Q := by
  have F := fr_rf (o := o) (h := h) (W := [25, 112])
  have W := iv_wc iv
  refine w_run k_528384 (w_al (fun _ => rfl) ?_)
  obtain ⟨_, m1, rfl⟩ := iv_0 iv
  refine w_getf m1 rfl (fun _ => rfl) (w_il (fun _ => rfl) ?_)
  obtain ⟨_, m2, kp2, sp2, rl2, rfl, l2_kp, u2_kp, l2_sp, u2_sp, l2_rl, u2_rl, f2_0, f2_1⟩ := iv_1 iv
  refine w_this (fun _ => rfl) m2 ?_
  refine w_ca (fun _ => rfl) rfl (c_isHouse (d := (d + 3)) iv (n := house) (by omega) (by omega)   (fun b3 b4 => ⟨_, rfl, ?_⟩) (fun b5 => ⟨_, rfl, ?_⟩))
  · refine w_eqzf (by omega) (by omega) (by omega)  (w_al (fun _ => rfl) (w_getf m1 rfl (fun _ => rfl) (w_il (fun _ => rfl) (w_this (fun _ => rfl) m2 ?_))))
    refine w_ca (fun _ => rfl) rfl (c_isColour (d := (d + 3)) iv (n := t) (by omega) (by omega)   (fun b6 b7 => ⟨_, rfl, ?_⟩) (fun b8 => ⟨_, rfl, ?_⟩))
    · refine w_eqzf (by omega) (by omega) (by omega)  (w_al (fun _ => rfl) (w_il (fun _ => rfl) (w_aldI ha_A (by omega) (by omega) (by omega) ?_)))
      obtain ⟨b9, b10⟩ := ag_rg A house
      refine w_il (fun _ => rfl) ?_
      refine w_ne2 (by omega) (by omega) (by omega) (by omega)  (fun c11 => ?_) (fun c11 => ?_)
      · refine w_run k_528416 (w_al (fun _ => rfl) (w_getf m1 rfl (fun _ => rfl) (w_al (fun _ => rfl) (w_getf m1 rfl (fun _ => rfl) (w_getf m2 rfl (fun _ => rfl) (w_il (fun _ => rfl) ?_))))))
        obtain ⟨_, m12, A12, rfl, e12⟩ := iv_2 iv
        refine w_aldI m12 (by omega) (by omega) (by omega) ?_
        obtain ⟨b13, b14⟩ := ag_rg A12 house
        have e15 := e12 house (by omega) (by omega)
        refine w_al (fun _ => rfl) (w_this (fun _ => rfl) m2 ?_)
        refine w_ca (fun _ => rfl) rfl (c_coloursOf (d := (d + 3)) iv (told := (a_g A12 house)) (q := q) (by omega) (by omega) ha_A  (fun y16 b17 b18 => ⟨_, rfl, ?_⟩))
        refine w_il (fun _ => rfl) (w_opR shr_lt (fun x19 x190 x191 x19e => ?_))
        refine w_icI (x := 1) rfl (w_op01 and_1 (fun x20 x200 x201 x20e => ?_))
        refine w_icI (x := 1) rfl ?_
        refine w_ne2 (by omega) (by omega) (by omega) (by omega)  (fun c21 => ?_) (fun c21 => ?_)
        · refine w_run k_528444 (w_al (fun _ => rfl) (w_il (fun _ => rfl) (w_al (fun _ => rfl) (w_il (fun _ => rfl) (w_aldI ha_A (by omega) (by omega) (by omega) ?_)))))
          obtain ⟨b22, b23⟩ := ag_rg A house
          refine w_il (fun _ => rfl) (w_this (fun _ => rfl) m1 ?_)
          refine w_ca (fun _ => rfl) rfl (c_price (d := d) iv (house := house) (f := (a_g A house)) (t := t) (by omega) (by omega) (by omega) (by omega) (by omega) (by omega) (by omega) (by omega)  (fun y24 h25 iv26 F27 b28 b29 => ⟨_, rfl, ?_⟩))
          have F30 := fr_ca F F27 (fun t ht => by exact ht)
          refine w_ri ?_
          exact k0 y24 h25 iv26 F30 (by omega) (by omega) (by omega)
        · refine w_icI (x := (-5)) wn_5 (w_ri ?_)
          exact k0 (-5) h iv F (by omega) (by omega) (by omega)
      · refine w_icI (x := (-2)) wn_2 (w_ri ?_)
        exact k0 (-2) h iv F (by omega) (by omega) (by omega)
    · refine w_eqzt (by omega) (by omega) (by omega)  (w_run k_528413 (w_icI (x := (-2)) wn_2 (w_ri ?_)))
      exact k0 (-2) h iv F (by omega) (by omega) (by omega)
  · refine w_eqzt (by omega) (by omega) (by omega)  (w_run k_528413 (w_icI (x := (-2)) wn_2 (w_ri ?_)))
    exact k0 (-2) h iv F (by omega) (by omega) (by omega)
theorem k_532480 : m_cg 532480 = g_130_0 := rfl
theorem k_532487 : m_cg 532487 = g_130_7 := rfl
theorem k_532526 : m_cg 532526 = g_130_46 := rfl
theorem c_tryStep {g : w_G} {o : w_O} {h : m_H} {d : Nat} {Q : Option m_V → m_H → Prop} (iv : w_Inv g o h) {step : Int} (step_lo : -2147483648 ≤ step) (step_hi : step ≤ 2147483647) (k0 : ∀ (x : Int), ∀ h2 : m_H, w_Inv g o h2 → w_fr o [25, 27, 112] h h2 → -2147483648 ≤ x → x ≤ 2147483647 → Q (some (.inl (w_i x))) h2) : wp (d + 5) 532480 [.inr (.inl (some 0)), .inl (w_i step), .inr (.inr (.inl 0)), .inr (.inr (.inl 0))] [] h Q := by
  have F := fr_rf (o := o) (h := h) (W := [25, 27, 112])
  have W := iv_wc iv
  refine w_run k_532480 (w_il (fun _ => rfl) ?_)
  refine w_gez2 (by omega) (by omega)  (fun c1 => ?_) (fun c1 => ?_)
  · refine w_run k_532487 (w_il (fun _ => rfl) (w_icI (x := 5) rfl (w_opz (c := w_i (step / 5)) (beq0 (by omega) (by omega) (by omega)) (i_div (by omega) (by omega) (by omega) (by omega)) ?_)))
    have b2 : 0 ≤ (step / 5) ∧ (step / 5) ≤ step := ⟨Int.ediv_nonneg (by omega) (by omega), Int.ediv_le_self _ (by omega)⟩
    refine w_is (fun _ => rfl) (w_al (fun _ => rfl) (w_al (fun _ => rfl) ?_))
    obtain ⟨_, m3, rfl⟩ := iv_0 iv
    refine w_getf m3 rfl (fun _ => rfl) (w_il (fun _ => rfl) (w_il (fun _ => rfl) (w_icI (x := 5) rfl (w_opz (c := w_i (step % 5)) (beq0 (by omega) (by omega) (by omega)) (i_rem (by omega) (by omega) (by omega) (by omega)) ?_))))
    have b4 : 0 ≤ (step % 5) ∧ (step % 5) < 5 := ⟨Int.emod_nonneg _ (by omega), Int.emod_lt_of_pos _ (by omega)⟩
    refine w_this (fun _ => rfl) m3 ?_
    obtain ⟨_, m5, A5, rfl⟩ := iv_27 iv
    refine w_ca (fun _ => rfl) rfl (c_costIn (d := d) iv (house := (step / 5)) (t := (step % 5)) (q := 27) (by omega) (by omega) (by omega) (by omega) m5  (fun y6 h7 iv8 F9 b10 b11 b12 => ⟨_, rfl, ?_⟩))
    have F13 := fr_ca F F9 (fun t ht => by simp at ht ⊢; omega)
    refine w_is (fun _ => rfl) (w_il (fun _ => rfl) ?_)
    refine w_ltz2 (by omega) (by omega)  (fun c14 => ?_) (fun c14 => ?_)
    · refine w_run k_532526 (w_il (fun _ => rfl) (w_ri ?_))
      exact k0 y6 h7 iv8 F13 (by omega) (by omega)
    · refine w_il (fun _ => rfl) (w_al (fun _ => rfl) ?_)
      have m15 := fr_at F9 m3 iv (ow_0 iv) rfl rfl
      refine w_getf m15 rfl (fun _ => rfl) ?_
      have m16 := fr_at F9 m5 iv (ow_27 iv) rfl rfl
      refine w_len m16 (w_cst (x := 6) rfl ?_)
      refine w_ge2 (by omega) (by omega) (by omega) (by omega)  (fun c17 => ?_) (fun c17 => ?_)
      · refine w_run k_532526 (w_il (fun _ => rfl) (w_ri ?_))
        exact k0 y6 h7 iv8 F13 (by omega) (by omega)
      · refine w_al (fun _ => rfl) (w_getf m15 rfl (fun _ => rfl) (w_il (fun _ => rfl) (w_il (fun _ => rfl) (w_icI (x := 5) rfl (w_opz (c := w_i (step % 5)) (beq0 (by omega) (by omega) (by omega)) (i_rem (by omega) (by omega) (by omega) (by omega)) ?_)))))
        have b18 : 0 ≤ (step % 5) ∧ (step % 5) < 5 := ⟨Int.emod_nonneg _ (by omega), Int.emod_lt_of_pos _ (by omega)⟩
        refine w_astI m16 (by omega) (by omega) (by omega) (by omega) (by omega) (fun A22 h20 w23 s19 => ?_)
        have iv21 := is_27 iv8 s19 ⟨_, rfl⟩
        have F24 := fr_st F13 s19 (by rw [(ow_27 iv8)]; rfl)
        refine w_il (fun _ => rfl) (w_ri ?_)
        exact k0 y6 h20 iv21 F24 (by omega) (by omega)
  · refine w_icI (x := (-2)) wn_2 (w_ri ?_)
    exact k0 (-2) h iv F (by omega) (by omega)
theorem k_544768 : m_cg 544768 = g_133_0 := rfl
theorem k_544792 : m_cg 544792 = g_133_24 := rfl
theorem c_joyOf {g : w_G} {o : w_O} {h : m_H} {d : Nat} {Q : Option m_V → m_H → Prop} (iv : w_Inv g o h) {house : Int} (house_lo : -2147483648 ≤ house) (house_hi : house ≤ 2147483647) (h0_ : 0 ≤ house) (h1_ : house < 6) (k0 : ∀ (x : Int), ∀ h2 : m_H, w_Inv g o h2 → w_fr o [25, 112] h h2 → -2147483648 ≤ x → x ≤ 2147483647 → Q (some (.inl (w_i x))) h2) : wp (d + 3) 544768 [.inr (.inl (some 0)), .inl (w_i house), .inr (.inr (.inl 0))] [] h Q := by
  have F := fr_rf (o := o) (h := h) (W := [25, 112])
  have W := iv_wc iv
  refine w_run k_544768 (w_al (fun _ => rfl) ?_)
  obtain ⟨_, m1, rfl⟩ := iv_0 iv
  refine w_this (fun _ => rfl) m1 ?_
  refine w_ca (fun _ => rfl) rfl (c_ruleNow (d := (d + 1)) iv     (fun p2 b3 => ⟨_, rfl, ?_⟩))
  refine w_as (fun _ => rfl) (w_al (fun _ => rfl) (w_ifn1 (w_al (fun _ => rfl) (w_getf m1 rfl (fun _ => rfl) ?_))))
  obtain ⟨_, m4, kp4, sp4, rl4, rfl, l4_kp, u4_kp, l4_sp, u4_sp, l4_rl, u4_rl, f4_0, f4_1⟩ := iv_1 iv
  refine w_getf m4 rfl (fun _ => rfl) (w_il (fun _ => rfl) ?_)
  obtain ⟨_, m5, A5, rfl⟩ := iv_4 iv
  refine w_aldI m5 (by omega) (by omega) (by omega) ?_
  obtain ⟨b6, b7⟩ := ag_rg A5 house
  refine w_icI (x := (-1)) wn_1 ?_
  refine w_ne2 (by omega) (by omega) (by omega) (by omega)  (fun c8 => ?_) (fun c8 => ?_)
  · refine w_run k_544792 (w_al (fun _ => rfl) (w_il (fun _ => rfl) (w_al (fun _ => rfl) (w_getf m1 rfl (fun _ => rfl) (w_getf m4 rfl (fun _ => rfl) (w_il (fun _ => rfl) ?_))))))
    obtain ⟨_, m9, A9, rfl, e9⟩ := iv_3 iv
    refine w_aldI m9 (by omega) (by omega) (by omega) ?_
    obtain ⟨b10, b11⟩ := ag_rg A9 house
    have e12 := e9 house (by omega) (by omega)
    refine w_al (fun _ => rfl) (w_getf m1 rfl (fun _ => rfl) (w_getf m4 rfl (fun _ => rfl) (w_il (fun _ => rfl) (w_aldI m5 (by omega) (by omega) (by omega) ?_))))
    obtain ⟨b13, b14⟩ := ag_rg A5 house
    refine w_this (fun _ => rfl) m1 ?_
    refine w_cv (fun _ => rfl) rfl (c_tellNames (d := (d + 1)) iv (house := house) (f := (a_g A9 house)) (t := (a_g A5 house)) (by omega) (by omega) (by omega) (by omega) (by omega) (by omega) (by omega) (by omega)  (fun h15 iv16 F17 => ⟨rfl, ?_⟩))
    have F18 := fr_ca F F17 (fun t ht => by simp at ht ⊢; omega)
    refine w_al (fun _ => rfl) (w_al (fun _ => rfl) ?_)
    have m19 := fr_at F17 m1 iv (ow_0 iv) rfl rfl
    refine w_getf m19 rfl (fun _ => rfl) ?_
    obtain ⟨_, m20, me20, fe20, cod20, stk20, rfl, l20_me, u20_me, l20_fe, u20_fe, f20_0, f20_1, f20_2, f20_3, f20_4⟩ := iv_110 iv16 b3
    refine w_this (fun _ => rfl) m20 ?_
    refine w_ca (fun _ => rfl) rfl (c_joy (d := d) iv16 (p := p2)  b3  (fun y21 h22 iv23 F24 b25 b26 => ⟨_, rfl, ?_⟩))
    have F27 := fr_ca F18 F24 (fun t ht => by simp at ht ⊢; omega)
    refine w_icI (x := 99) rfl ?_
    refine w_ca (fun _ => rfl) rfl (c_bounded (d := (d + 2)) iv23 (n := y21) (most := 99) (by omega) (by omega) (by omega) (by omega)   (fun y28 b29 b30 b31 b32 => ⟨_, rfl, ?_⟩))
    refine w_ri ?_
    exact k0 y28 h22 iv23 F27 (by omega) (by omega)
  · refine w_icI (x := 0) rfl (w_ri ?_)
    exact k0 0 h iv F (by omega) (by omega)
