theorem k_114688 : m_cg 114688 = g_28_0 := rfl
theorem k_114704 : m_cg 114704 = g_28_16 := rfl
theorem k_114705 : m_cg 114705 = g_28_17 := rfl
theorem c_isLetter {g : w_G} {o : w_O} {h : m_H} {d : Nat} {Q : Option m_V → m_H → Prop} (iv : w_Inv g o h) {n : Int} (n_lo : -2147483648 ≤ n) (n_hi : n ≤ 2147483647) (k0 : 97 ≤ n → n ≤ 122 → Q (some (.inl (w_i 1))) h) (k1 : (n < 97 ∨ 122 < n) → Q (some (.inl (w_i 0))) h) : wp d 114688 [.inl (w_i n)] [] h Q := by
  have W := iv_wc iv
  refine w_run k_114688 (w_il (fun _ => rfl) (w_icI (x := 97) rfl ?_))
  refine w_lt2 (by omega) (by omega) (by omega) (by omega)  (fun c1 => ?_) (fun c1 => ?_)
  · refine w_run k_114704 (w_icI (x := 0) rfl (w_rz (by decide) ?_))
    exact k1 (by omega)
  · refine w_il (fun _ => rfl) (w_icI (x := 122) rfl ?_)
    refine w_gt2 (by omega) (by omega) (by omega) (by omega)  (fun c2 => ?_) (fun c2 => ?_)
    · refine w_run k_114704 (w_icI (x := 0) rfl (w_rz (by decide) ?_))
      exact k1 (by omega)
    · refine w_icI (x := 1) rfl (w_go (w_run k_114705 (w_rz (by decide) ?_)))
      exact k0 (by omega) (by omega)
theorem k_118784 : m_cg 118784 = g_29_0 := rfl
theorem k_118800 : m_cg 118800 = g_29_16 := rfl
theorem k_118801 : m_cg 118801 = g_29_17 := rfl
theorem c_isDigit {g : w_G} {o : w_O} {h : m_H} {d : Nat} {Q : Option m_V → m_H → Prop} (iv : w_Inv g o h) {n : Int} (n_lo : -2147483648 ≤ n) (n_hi : n ≤ 2147483647) (k0 : 48 ≤ n → n ≤ 57 → Q (some (.inl (w_i 1))) h) (k1 : (n < 48 ∨ 57 < n) → Q (some (.inl (w_i 0))) h) : wp d 118784 [.inl (w_i n)] [] h Q := by
  have W := iv_wc iv
  refine w_run k_118784 (w_il (fun _ => rfl) (w_icI (x := 48) rfl ?_))
  refine w_lt2 (by omega) (by omega) (by omega) (by omega)  (fun c1 => ?_) (fun c1 => ?_)
  · refine w_run k_118800 (w_icI (x := 0) rfl (w_rz (by decide) ?_))
    exact k1 (by omega)
  · refine w_il (fun _ => rfl) (w_icI (x := 57) rfl ?_)
    refine w_gt2 (by omega) (by omega) (by omega) (by omega)  (fun c2 => ?_) (fun c2 => ?_)
    · refine w_run k_118800 (w_icI (x := 0) rfl (w_rz (by decide) ?_))
      exact k1 (by omega)
    · refine w_icI (x := 1) rfl (w_go (w_run k_118801 (w_rz (by decide) ?_)))
      exact k0 (by omega) (by omega)
theorem k_143360 : m_cg 143360 = g_35_0 := rfl
theorem k_143464 : m_cg 143464 = g_35_104 := rfl
theorem k_143467 : m_cg 143467 = g_35_107 := rfl
theorem k_143479 : m_cg 143479 = g_35_119 := rfl
theorem k_143473 : m_cg 143473 = g_35_113 := rfl
theorem k_143488 : m_cg 143488 = g_35_128 := rfl
theorem k_143476 : m_cg 143476 = g_35_116 := rfl
theorem k_143470 : m_cg 143470 = g_35_110 := rfl
theorem k_143482 : m_cg 143482 = g_35_122 := rfl
theorem k_143485 : m_cg 143485 = g_35_125 := rfl
theorem c_signOf {g : w_G} {o : w_O} {h : m_H} {d : Nat} {Q : Option m_V → m_H → Prop} (iv : w_Inv g o h) {n : Int} (n_lo : -2147483648 ≤ n) (n_hi : n ≤ 2147483647) (k0 : ∀ (x : Int), -2147483648 ≤ x → x ≤ 2147483647 → 0 ≤ x → Q (some (.inl (w_i x))) h) : wp d 143360 [.inl (w_i n)] [] h Q := by
  have W := iv_wc iv
  refine w_run k_143360 (w_il (fun _ => rfl) ?_)
  by_cases c1 : n = 40
  · rw [show (n : Int) = 40 from c1]
    refine w_tsw (t := 143464) (fun _ => rfl) (w_run k_143464 (w_icI (x := 18) rfl (w_ri ?_)))
    exact k0 18 (by omega) (by omega) (by omega)
  by_cases c2 : n = 41
  · rw [show (n : Int) = 41 from c2]
    refine w_tsw (t := 143467) (fun _ => rfl) (w_run k_143467 (w_icI (x := 19) rfl (w_ri ?_)))
    exact k0 19 (by omega) (by omega) (by omega)
  by_cases c3 : n = 42
  · rw [show (n : Int) = 42 from c3]
    refine w_tsw (t := 143479) (fun _ => rfl) (w_run k_143479 (w_icI (x := 13) rfl (w_ri ?_)))
    exact k0 13 (by omega) (by omega) (by omega)
  by_cases c4 : n = 43
  · rw [show (n : Int) = 43 from c4]
    refine w_tsw (t := 143473) (fun _ => rfl) (w_run k_143473 (w_icI (x := 11) rfl (w_ri ?_)))
    exact k0 11 (by omega) (by omega) (by omega)
  by_cases c5 : n = 44
  · rw [show (n : Int) = 44 from c5]
    refine w_tsw (t := 143488) (fun _ => rfl) (w_run k_143488 (w_icI (x := 22) rfl (w_ri ?_)))
    exact k0 22 (by omega) (by omega) (by omega)
  by_cases c6 : n = 45
  · rw [show (n : Int) = 45 from c6]
    refine w_tsw (t := 143476) (fun _ => rfl) (w_run k_143476 (w_icI (x := 12) rfl (w_ri ?_)))
    exact k0 12 (by omega) (by omega) (by omega)
  by_cases c7 : n = 46
  · rw [show (n : Int) = 46 from c7]
    refine w_tsw (t := 143488) (fun _ => rfl) (w_run k_143488 (w_icI (x := 22) rfl (w_ri ?_)))
    exact k0 22 (by omega) (by omega) (by omega)
  by_cases c8 : n = 47
  · rw [show (n : Int) = 47 from c8]
    refine w_tsw (t := 143488) (fun _ => rfl) (w_run k_143488 (w_icI (x := 22) rfl (w_ri ?_)))
    exact k0 22 (by omega) (by omega) (by omega)
  by_cases c9 : n = 48
  · rw [show (n : Int) = 48 from c9]
    refine w_tsw (t := 143488) (fun _ => rfl) (w_run k_143488 (w_icI (x := 22) rfl (w_ri ?_)))
    exact k0 22 (by omega) (by omega) (by omega)
  by_cases c10 : n = 49
  · rw [show (n : Int) = 49 from c10]
    refine w_tsw (t := 143488) (fun _ => rfl) (w_run k_143488 (w_icI (x := 22) rfl (w_ri ?_)))
    exact k0 22 (by omega) (by omega) (by omega)
  by_cases c11 : n = 50
  · rw [show (n : Int) = 50 from c11]
    refine w_tsw (t := 143488) (fun _ => rfl) (w_run k_143488 (w_icI (x := 22) rfl (w_ri ?_)))
    exact k0 22 (by omega) (by omega) (by omega)
  by_cases c12 : n = 51
  · rw [show (n : Int) = 51 from c12]
    refine w_tsw (t := 143488) (fun _ => rfl) (w_run k_143488 (w_icI (x := 22) rfl (w_ri ?_)))
    exact k0 22 (by omega) (by omega) (by omega)
  by_cases c13 : n = 52
  · rw [show (n : Int) = 52 from c13]
    refine w_tsw (t := 143488) (fun _ => rfl) (w_run k_143488 (w_icI (x := 22) rfl (w_ri ?_)))
    exact k0 22 (by omega) (by omega) (by omega)
  by_cases c14 : n = 53
  · rw [show (n : Int) = 53 from c14]
    refine w_tsw (t := 143488) (fun _ => rfl) (w_run k_143488 (w_icI (x := 22) rfl (w_ri ?_)))
    exact k0 22 (by omega) (by omega) (by omega)
  by_cases c15 : n = 54
  · rw [show (n : Int) = 54 from c15]
    refine w_tsw (t := 143488) (fun _ => rfl) (w_run k_143488 (w_icI (x := 22) rfl (w_ri ?_)))
    exact k0 22 (by omega) (by omega) (by omega)
  by_cases c16 : n = 55
  · rw [show (n : Int) = 55 from c16]
    refine w_tsw (t := 143488) (fun _ => rfl) (w_run k_143488 (w_icI (x := 22) rfl (w_ri ?_)))
    exact k0 22 (by omega) (by omega) (by omega)
  by_cases c17 : n = 56
  · rw [show (n : Int) = 56 from c17]
    refine w_tsw (t := 143488) (fun _ => rfl) (w_run k_143488 (w_icI (x := 22) rfl (w_ri ?_)))
    exact k0 22 (by omega) (by omega) (by omega)
  by_cases c18 : n = 57
  · rw [show (n : Int) = 57 from c18]
    refine w_tsw (t := 143488) (fun _ => rfl) (w_run k_143488 (w_icI (x := 22) rfl (w_ri ?_)))
    exact k0 22 (by omega) (by omega) (by omega)
  by_cases c19 : n = 58
  · rw [show (n : Int) = 58 from c19]
    refine w_tsw (t := 143488) (fun _ => rfl) (w_run k_143488 (w_icI (x := 22) rfl (w_ri ?_)))
    exact k0 22 (by omega) (by omega) (by omega)
  by_cases c20 : n = 59
  · rw [show (n : Int) = 59 from c20]
    refine w_tsw (t := 143470) (fun _ => rfl) (w_run k_143470 (w_icI (x := 20) rfl (w_ri ?_)))
    exact k0 20 (by omega) (by omega) (by omega)
  by_cases c21 : n = 60
  · rw [show (n : Int) = 60 from c21]
    refine w_tsw (t := 143482) (fun _ => rfl) (w_run k_143482 (w_icI (x := 9) rfl (w_ri ?_)))
    exact k0 9 (by omega) (by omega) (by omega)
  by_cases c22 : n = 61
  · rw [show (n : Int) = 61 from c22]
    refine w_tsw (t := 143485) (fun _ => rfl) (w_run k_143485 (w_icI (x := 10) rfl (w_ri ?_)))
    exact k0 10 (by omega) (by omega) (by omega)
  refine w_tswL (by omega) (by omega) (by show _ < ((40 : Nat) : Int) ∨ ((62 : Nat) : Int) ≤ _; omega) (by decide) (w_run k_143488 (w_icI (x := 22) rfl (w_ri ?_)))
  exact k0 22 (by omega) (by omega) (by omega)
theorem k_139279 : m_cg 139279 = g_34_15 := rfl
theorem k_139314 : m_cg 139314 = g_34_50 := rfl
theorem k_139308 : m_cg 139308 = g_34_44 := rfl
theorem l_isWord_15 {g : w_G} {o : w_O} {h : m_H} {d : Nat} {Q : Option m_V → m_H → Prop} (iv : w_Inv g o h) {sk : Nat} {beg : Int} {end_ : Int} (beg_lo : -2147483648 ≤ beg) (beg_hi : beg ≤ 2147483647) (end__lo : -2147483648 ≤ end_) (end__hi : end_ ≤ 2147483647) (hs : sk < 13) (b0 : 0 ≤ beg) (b1 : beg < end_) (e1 : end_ ≤ 160) (k0 : Q (some (.inl (w_i 1))) h) (k1 : Q (some (.inl (w_i 0))) h) : ∀ (k : Nat) (i : Int) (i_lo : -2147483648 ≤ i) (i_hi : i ≤ 2147483647) (i0 : 0 ≤ i) (i1 : i ≤ 40) (el : end_ - beg = ((m_len sk : Nat) : Int)), 40 - i < (k : Int) → wp d 139279 [.inr (.inl (some 18)), .inr (.inr (.inr (sk + 1))), .inl (w_i beg), .inl (w_i end_), .inl (w_i i)] [] h Q := by
  intro k
  induction k with
  | zero => intro i i_lo i_hi i0 i1 el hk; exact absurd hk (by omega)
  | succ k ih =>
    intro i i_lo i_hi i0 i1 el hk
    have W := iv_wc iv
    refine w_run k_139279 (w_il (fun _ => rfl) (w_als (fun _ => rfl) (w_sl hs rfl ?_)))
    refine w_ge2 (by omega) (by omega) (by omega) (by omega)  (fun c1 => ?_) (fun c1 => ?_)
    · refine w_run k_139314 (w_icI (x := 1) rfl (w_rz (by decide) ?_))
      exact k0 
    · refine w_al (fun _ => rfl) ?_
      obtain ⟨_, m2, siz2, atp2, tok2, flt2, wri2, rfl, l2_siz, u2_siz, l2_atp, u2_atp, l2_tok, u2_tok, l2_flt, u2_flt, l2_wri, u2_wri, f2_0, f2_1, f2_2, f2_3, f2_4, f2_5, f2_6⟩ := iv_18 iv
      refine w_getf m2 rfl (fun _ => rfl) (w_il (fun _ => rfl) (w_il (fun _ => rfl) (w_op (c := w_i (beg + i)) (i_add beg i) ?_)))
      obtain ⟨_, m3, A3, rfl, e3⟩ := iv_19 iv
      refine w_aldI m3 (by omega) (by omega) (by omega) ?_
      obtain ⟨b4, b5⟩ := ag_rg A3 (beg + i)
      have e6 := e3 (beg + i) (by omega) (by omega)
      refine w_als (fun _ => rfl) (w_il (fun _ => rfl) (w_sch hs (by omega) (by omega) rfl (fun x7 x70 x71 => ?_)))
      refine w_eq2 (by omega) (by omega) (by omega) (by omega)  (fun c8 => ?_) (fun c8 => ?_)
      · refine w_run k_139308 (w_inc (c := w_i (i + 1)) (fun _ => rfl) (i_addL (y := 1) rfl i) (fun _ => rfl) (w_go ?_))
        exact ih (i + 1) (by omega) (by omega)  (by omega) (by omega) (by omega) (by omega)
      · refine w_icI (x := 0) rfl (w_rz (by decide) ?_)
        exact k1 
theorem k_139264 : m_cg 139264 = g_34_0 := rfl
theorem k_139276 : m_cg 139276 = g_34_12 := rfl
theorem c_isWord {g : w_G} {o : w_O} {h : m_H} {d : Nat} {Q : Option m_V → m_H → Prop} (iv : w_Inv g o h) {sk : Nat} {beg : Int} {end_ : Int} (beg_lo : -2147483648 ≤ beg) (beg_hi : beg ≤ 2147483647) (end__lo : -2147483648 ≤ end_) (end__hi : end_ ≤ 2147483647) (hs : sk < 13) (b0 : 0 ≤ beg) (b1 : beg < end_) (e1 : end_ ≤ 160) (k0 : Q (some (.inl (w_i 1))) h) (k1 : Q (some (.inl (w_i 0))) h) : wp d 139264 [.inr (.inl (some 18)), .inr (.inr (.inr (sk + 1))), .inl (w_i beg), .inl (w_i end_), .inr (.inr (.inl 0))] [] h Q := by
  have W := iv_wc iv
  refine w_run k_139264 (w_il (fun _ => rfl) (w_il (fun _ => rfl) (w_op (c := w_i (end_ - beg)) (i_sub end_ beg) (w_als (fun _ => rfl) (w_sl hs rfl ?_)))))
  refine w_eq2 (by omega) (by omega) (by omega) (by omega)  (fun c1 => ?_) (fun c1 => ?_)
  · refine w_run k_139276 (w_icI (x := 0) rfl (w_is (fun _ => rfl) (w_nur k_139279 ?_)))
    exact l_isWord_15 iv (sk := sk)   beg_lo beg_hi end__lo end__hi hs b0 b1 e1    k0 k1 (40 - 0 + 1 : Int).toNat 0 (by omega) (by omega)  (by omega) (by omega) (by omega) (by omega)
  · refine w_icI (x := 0) rfl (w_rz (by decide) ?_)
    exact k1 
theorem k_131072 : m_cg 131072 = g_32_0 := rfl
theorem k_131086 : m_cg 131086 = g_32_14 := rfl
theorem k_131100 : m_cg 131100 = g_32_28 := rfl
theorem k_131114 : m_cg 131114 = g_32_42 := rfl
theorem k_131128 : m_cg 131128 = g_32_56 := rfl
theorem k_131142 : m_cg 131142 = g_32_70 := rfl
theorem k_131160 : m_cg 131160 = g_32_88 := rfl
theorem k_131158 : m_cg 131158 = g_32_86 := rfl
theorem c_keyOf {g : w_G} {o : w_O} {h : m_H} {d : Nat} {Q : Option m_V → m_H → Prop} (iv : w_Inv g o h) {beg : Int} {end_ : Int} (beg_lo : -2147483648 ≤ beg) (beg_hi : beg ≤ 2147483647) (end__lo : -2147483648 ≤ end_) (end__hi : end_ ≤ 2147483647) (b0 : 0 ≤ beg) (b1 : beg < end_) (e1 : end_ ≤ 160) (k0 : ∀ (x : Int), -2147483648 ≤ x → x ≤ 2147483647 → 0 ≤ x → Q (some (.inl (w_i x))) h) : wp (d + 1) 131072 [.inr (.inl (some 18)), .inl (w_i beg), .inl (w_i end_)] [] h Q := by
  have W := iv_wc iv
  refine w_run k_131072 (w_al (fun _ => rfl) (w_sc (w_il (fun _ => rfl) (w_il (fun _ => rfl) ?_))))
  obtain ⟨_, m1, siz1, atp1, tok1, flt1, wri1, rfl, l1_siz, u1_siz, l1_atp, u1_atp, l1_tok, u1_tok, l1_flt, u1_flt, l1_wri, u1_wri, f1_0, f1_1, f1_2, f1_3, f1_4, f1_5, f1_6⟩ := iv_18 iv
  refine w_this (fun _ => rfl) m1 ?_
  refine w_ca (fun _ => rfl) rfl (c_isWord (d := d) iv (beg := beg) (end_ := end_) (sk := 1) (by omega) (by omega) (by omega) (by omega) (by omega) (by omega) (by omega) (by omega)  ⟨_, rfl, ?_⟩ ⟨_, rfl, ?_⟩)
  · refine w_eqzf (by omega) (by omega) (by omega)  (w_icI (x := 15) rfl (w_ri ?_))
    exact k0 15 (by omega) (by omega) (by omega)
  · refine w_eqzt (by omega) (by omega) (by omega)  (w_run k_131086 (w_al (fun _ => rfl) (w_sc (w_il (fun _ => rfl) (w_il (fun _ => rfl) (w_this (fun _ => rfl) m1 ?_))))))
    refine w_ca (fun _ => rfl) rfl (c_isWord (d := d) iv (beg := beg) (end_ := end_) (sk := 2) (by omega) (by omega) (by omega) (by omega) (by omega) (by omega) (by omega) (by omega)  ⟨_, rfl, ?_⟩ ⟨_, rfl, ?_⟩)
    · refine w_eqzf (by omega) (by omega) (by omega)  (w_icI (x := 16) rfl (w_ri ?_))
      exact k0 16 (by omega) (by omega) (by omega)
    · refine w_eqzt (by omega) (by omega) (by omega)  (w_run k_131100 (w_al (fun _ => rfl) (w_sc (w_il (fun _ => rfl) (w_il (fun _ => rfl) (w_this (fun _ => rfl) m1 ?_))))))
      refine w_ca (fun _ => rfl) rfl (c_isWord (d := d) iv (beg := beg) (end_ := end_) (sk := 3) (by omega) (by omega) (by omega) (by omega) (by omega) (by omega) (by omega) (by omega)  ⟨_, rfl, ?_⟩ ⟨_, rfl, ?_⟩)
      · refine w_eqzf (by omega) (by omega) (by omega)  (w_icI (x := 17) rfl (w_ri ?_))
        exact k0 17 (by omega) (by omega) (by omega)
      · refine w_eqzt (by omega) (by omega) (by omega)  (w_run k_131114 (w_al (fun _ => rfl) (w_sc (w_il (fun _ => rfl) (w_il (fun _ => rfl) (w_this (fun _ => rfl) m1 ?_))))))
        refine w_ca (fun _ => rfl) rfl (c_isWord (d := d) iv (beg := beg) (end_ := end_) (sk := 4) (by omega) (by omega) (by omega) (by omega) (by omega) (by omega) (by omega) (by omega)  ⟨_, rfl, ?_⟩ ⟨_, rfl, ?_⟩)
        · refine w_eqzf (by omega) (by omega) (by omega)  (w_icI (x := 6) rfl (w_ri ?_))
          exact k0 6 (by omega) (by omega) (by omega)
        · refine w_eqzt (by omega) (by omega) (by omega)  (w_run k_131128 (w_al (fun _ => rfl) (w_sc (w_il (fun _ => rfl) (w_il (fun _ => rfl) (w_this (fun _ => rfl) m1 ?_))))))
          refine w_ca (fun _ => rfl) rfl (c_isWord (d := d) iv (beg := beg) (end_ := end_) (sk := 5) (by omega) (by omega) (by omega) (by omega) (by omega) (by omega) (by omega) (by omega)  ⟨_, rfl, ?_⟩ ⟨_, rfl, ?_⟩)
          · refine w_eqzf (by omega) (by omega) (by omega)  (w_icI (x := 7) rfl (w_ri ?_))
            exact k0 7 (by omega) (by omega) (by omega)
          · refine w_eqzt (by omega) (by omega) (by omega)  (w_run k_131142 (w_al (fun _ => rfl) (w_sc (w_il (fun _ => rfl) (w_il (fun _ => rfl) (w_this (fun _ => rfl) m1 ?_))))))
            refine w_ca (fun _ => rfl) rfl (c_isWord (d := d) iv (beg := beg) (end_ := end_) (sk := 6) (by omega) (by omega) (by omega) (by omega) (by omega) (by omega) (by omega) (by omega)  ⟨_, rfl, ?_⟩ ⟨_, rfl, ?_⟩)
            · refine w_eqzf (by omega) (by omega) (by omega)  (w_icI (x := 8) rfl (w_go (w_run k_131160 (w_ri ?_))))
              exact k0 8 (by omega) (by omega) (by omega)
            · refine w_eqzt (by omega) (by omega) (by omega)  (w_run k_131158 (w_icI (x := 22) rfl (w_ri ?_)))
              exact k0 22 (by omega) (by omega) (by omega)
theorem k_135168 : m_cg 135168 = g_33_0 := rfl
theorem k_135181 : m_cg 135181 = g_33_13 := rfl
theorem k_135194 : m_cg 135194 = g_33_26 := rfl
theorem k_135207 : m_cg 135207 = g_33_39 := rfl
theorem k_135220 : m_cg 135220 = g_33_52 := rfl
theorem k_135233 : m_cg 135233 = g_33_65 := rfl
theorem k_135250 : m_cg 135250 = g_33_82 := rfl
theorem k_135248 : m_cg 135248 = g_33_80 := rfl
theorem c_nameOf {g : w_G} {o : w_O} {h : m_H} {d : Nat} {Q : Option m_V → m_H → Prop} (iv : w_Inv g o h) {beg : Int} {end_ : Int} (beg_lo : -2147483648 ≤ beg) (beg_hi : beg ≤ 2147483647) (end__lo : -2147483648 ≤ end_) (end__hi : end_ ≤ 2147483647) (b0 : 0 ≤ beg) (b1 : beg < end_) (e1 : end_ ≤ 160) (k0 : ∀ (x : Int), -2147483648 ≤ x → x ≤ 2147483647 → 0 ≤ x → Q (some (.inl (w_i x))) h) : wp (d + 1) 135168 [.inr (.inl (some 18)), .inl (w_i beg), .inl (w_i end_)] [] h Q := by
  have W := iv_wc iv
  refine w_run k_135168 (w_al (fun _ => rfl) (w_sc (w_il (fun _ => rfl) (w_il (fun _ => rfl) ?_))))
  obtain ⟨_, m1, siz1, atp1, tok1, flt1, wri1, rfl, l1_siz, u1_siz, l1_atp, u1_atp, l1_tok, u1_tok, l1_flt, u1_flt, l1_wri, u1_wri, f1_0, f1_1, f1_2, f1_3, f1_4, f1_5, f1_6⟩ := iv_18 iv
  refine w_this (fun _ => rfl) m1 ?_
  refine w_ca (fun _ => rfl) rfl (c_isWord (d := d) iv (beg := beg) (end_ := end_) (sk := 7) (by omega) (by omega) (by omega) (by omega) (by omega) (by omega) (by omega) (by omega)  ⟨_, rfl, ?_⟩ ⟨_, rfl, ?_⟩)
  · refine w_eqzf (by omega) (by omega) (by omega)  (w_icI (x := 0) rfl (w_ri ?_))
    exact k0 0 (by omega) (by omega) (by omega)
  · refine w_eqzt (by omega) (by omega) (by omega)  (w_run k_135181 (w_al (fun _ => rfl) (w_sc (w_il (fun _ => rfl) (w_il (fun _ => rfl) (w_this (fun _ => rfl) m1 ?_))))))
    refine w_ca (fun _ => rfl) rfl (c_isWord (d := d) iv (beg := beg) (end_ := end_) (sk := 8) (by omega) (by omega) (by omega) (by omega) (by omega) (by omega) (by omega) (by omega)  ⟨_, rfl, ?_⟩ ⟨_, rfl, ?_⟩)
    · refine w_eqzf (by omega) (by omega) (by omega)  (w_icI (x := 1) rfl (w_ri ?_))
      exact k0 1 (by omega) (by omega) (by omega)
    · refine w_eqzt (by omega) (by omega) (by omega)  (w_run k_135194 (w_al (fun _ => rfl) (w_sc (w_il (fun _ => rfl) (w_il (fun _ => rfl) (w_this (fun _ => rfl) m1 ?_))))))
      refine w_ca (fun _ => rfl) rfl (c_isWord (d := d) iv (beg := beg) (end_ := end_) (sk := 9) (by omega) (by omega) (by omega) (by omega) (by omega) (by omega) (by omega) (by omega)  ⟨_, rfl, ?_⟩ ⟨_, rfl, ?_⟩)
      · refine w_eqzf (by omega) (by omega) (by omega)  (w_icI (x := 2) rfl (w_ri ?_))
        exact k0 2 (by omega) (by omega) (by omega)
      · refine w_eqzt (by omega) (by omega) (by omega)  (w_run k_135207 (w_al (fun _ => rfl) (w_sc (w_il (fun _ => rfl) (w_il (fun _ => rfl) (w_this (fun _ => rfl) m1 ?_))))))
        refine w_ca (fun _ => rfl) rfl (c_isWord (d := d) iv (beg := beg) (end_ := end_) (sk := 10) (by omega) (by omega) (by omega) (by omega) (by omega) (by omega) (by omega) (by omega)  ⟨_, rfl, ?_⟩ ⟨_, rfl, ?_⟩)
        · refine w_eqzf (by omega) (by omega) (by omega)  (w_icI (x := 3) rfl (w_ri ?_))
          exact k0 3 (by omega) (by omega) (by omega)
        · refine w_eqzt (by omega) (by omega) (by omega)  (w_run k_135220 (w_al (fun _ => rfl) (w_sc (w_il (fun _ => rfl) (w_il (fun _ => rfl) (w_this (fun _ => rfl) m1 ?_))))))
          refine w_ca (fun _ => rfl) rfl (c_isWord (d := d) iv (beg := beg) (end_ := end_) (sk := 11) (by omega) (by omega) (by omega) (by omega) (by omega) (by omega) (by omega) (by omega)  ⟨_, rfl, ?_⟩ ⟨_, rfl, ?_⟩)
          · refine w_eqzf (by omega) (by omega) (by omega)  (w_icI (x := 4) rfl (w_ri ?_))
            exact k0 4 (by omega) (by omega) (by omega)
          · refine w_eqzt (by omega) (by omega) (by omega)  (w_run k_135233 (w_al (fun _ => rfl) (w_sc (w_il (fun _ => rfl) (w_il (fun _ => rfl) (w_this (fun _ => rfl) m1 ?_))))))
            refine w_ca (fun _ => rfl) rfl (c_isWord (d := d) iv (beg := beg) (end_ := end_) (sk := 12) (by omega) (by omega) (by omega) (by omega) (by omega) (by omega) (by omega) (by omega)  ⟨_, rfl, ?_⟩ ⟨_, rfl, ?_⟩)
            · refine w_eqzf (by omega) (by omega) (by omega)  (w_icI (x := 5) rfl (w_go (w_run k_135250 (w_ri ?_))))
              exact k0 5 (by omega) (by omega) (by omega)
            · refine w_eqzt (by omega) (by omega) (by omega)  (w_run k_135248 (w_icI (x := 22) rfl (w_ri ?_)))
              exact k0 22 (by omega) (by omega) (by omega)
theorem k_126991 : m_cg 126991 = g_31_15 := rfl
theorem k_127019 : m_cg 127019 = g_31_43 := rfl
theorem l_numberOfR_15 {g : w_G} {o : w_O} {h : m_H} {d : Nat} {Q : Option m_V → m_H → Prop} (iv : w_Inv g o h) {A : Nat} {beg : Int} {end_ : Int} (beg_lo : -2147483648 ≤ beg) (beg_hi : beg ≤ 2147483647) (end__lo : -2147483648 ≤ end_) (end__hi : end_ ≤ 2147483647) (ha : m_at h.2.2 19 = some (.inl (false, 160, A))) (hA : ∀ j : Int, 0 ≤ j → j < 160 → 0 ≤ a_g A j ∧ a_g A j ≤ 255) (b0 : 0 ≤ beg) (b1 : beg < end_) (e1 : end_ ≤ 160) (dg : ∀ j : Int, beg ≤ j → j < end_ → 48 ≤ a_g A j ∧ a_g A j ≤ 57) (k0 : ∀ (x : Int), -2147483648 ≤ x → x ≤ 2147483647 → 0 ≤ x → Q (some (.inl (w_i x))) h) : ∀ (k : Nat) (num i : Int) (num_lo : -2147483648 ≤ num) (num_hi : num ≤ 2147483647) (i_lo : -2147483648 ≤ i) (i_hi : i ≤ 2147483647) (i0 : beg ≤ i) (i1 : i ≤ end_) (i2 : end_ - beg ≤ 4) (n9 : 0 ≤ num) (n0 : (i = beg ∧ num = 0) ∨ (i = beg + 1 ∧ num ≤ 9) ∨ (i = beg + 2 ∧ num ≤ 99) ∨ (i = beg + 3 ∧ num ≤ 999) ∨ (i = beg + 4 ∧ num ≤ 9999)), end_ - i < (k : Int) → wp d 126991 [.inr (.inl (some 18)), .inl (w_i beg), .inl (w_i end_), .inl (w_i num), .inl (w_i i)] [] h Q := by
  intro k
  induction k with
  | zero => intro num i num_lo num_hi i_lo i_hi i0 i1 i2 n9 n0 hk; exact absurd hk (by omega)
  | succ k ih =>
    intro num i num_lo num_hi i_lo i_hi i0 i1 i2 n9 n0 hk
    have W := iv_wc iv
    refine w_run k_126991 (w_il (fun _ => rfl) (w_il (fun _ => rfl) ?_))
    refine w_ge2 (by omega) (by omega) (by omega) (by omega)  (fun c1 => ?_) (fun c1 => ?_)
    · refine w_run k_127019 (w_icI (x := 32) rfl (w_il (fun _ => rfl) (w_op (c := w_i (32 + num)) (i_add 32 num) (w_ri ?_))))
      exact k0 (32 + num) (by omega) (by omega) (by omega)
    · refine w_il (fun _ => rfl) (w_icI (x := 10) rfl (w_op (c := w_i (num * 10)) (i_mul num 10) (w_al (fun _ => rfl) ?_)))
      obtain ⟨_, m2, siz2, atp2, tok2, flt2, wri2, rfl, l2_siz, u2_siz, l2_atp, u2_atp, l2_tok, u2_tok, l2_flt, u2_flt, l2_wri, u2_wri, f2_0, f2_1, f2_2, f2_3, f2_4, f2_5, f2_6⟩ := iv_18 iv
      refine w_getf m2 rfl (fun _ => rfl) (w_il (fun _ => rfl) (w_aldI ha (by omega) (by omega) (by omega) ?_))
      obtain ⟨b3, b4⟩ := ag_rg A i
      have e5 := hA i (by omega) (by omega)
      refine w_op (c := w_i ((num * 10) + (a_g A i))) (i_add (num * 10) (a_g A i)) (w_icI (x := 48) rfl (w_op (c := w_i (((num * 10) + (a_g A i)) - 48)) (i_sub ((num * 10) + (a_g A i)) 48) (w_is (fun _ => rfl) (w_inc (c := w_i (i + 1)) (fun _ => rfl) (i_addL (y := 1) rfl i) (fun _ => rfl) (w_go ?_)))))
      exact ih (((num * 10) + (a_g A i)) - 48) (i + 1) (by omega) (by omega) (by omega) (by omega)  (by omega) (by omega) (by omega) (by omega) (by omega) (by omega)
theorem k_126976 : m_cg 126976 = g_31_0 := rfl
theorem k_126986 : m_cg 126986 = g_31_10 := rfl
theorem c_numberOfR {g : w_G} {o : w_O} {h : m_H} {d : Nat} {Q : Option m_V → m_H → Prop} (iv : w_Inv g o h) {A : Nat} {beg : Int} {end_ : Int} (beg_lo : -2147483648 ≤ beg) (beg_hi : beg ≤ 2147483647) (end__lo : -2147483648 ≤ end_) (end__hi : end_ ≤ 2147483647) (ha : m_at h.2.2 19 = some (.inl (false, 160, A))) (hA : ∀ j : Int, 0 ≤ j → j < 160 → 0 ≤ a_g A j ∧ a_g A j ≤ 255) (b0 : 0 ≤ beg) (b1 : beg < end_) (e1 : end_ ≤ 160) (dg : ∀ j : Int, beg ≤ j → j < end_ → 48 ≤ a_g A j ∧ a_g A j ≤ 57) (k0 : ∀ (x : Int), -2147483648 ≤ x → x ≤ 2147483647 → 0 ≤ x → Q (some (.inl (w_i x))) h) : wp d 126976 [.inr (.inl (some 18)), .inl (w_i beg), .inl (w_i end_), .inr (.inr (.inl 0)), .inr (.inr (.inl 0))] [] h Q := by
  have W := iv_wc iv
  refine w_run k_126976 (w_il (fun _ => rfl) (w_il (fun _ => rfl) (w_op (c := w_i (end_ - beg)) (i_sub end_ beg) (w_icI (x := 4) rfl ?_))))
  refine w_le2 (by omega) (by omega) (by omega) (by omega)  (fun c1 => ?_) (fun c1 => ?_)
  · refine w_run k_126986 (w_icI (x := 0) rfl (w_is (fun _ => rfl) (w_il (fun _ => rfl) (w_is (fun _ => rfl) (w_nur k_126991 ?_)))))
    exact l_numberOfR_15 iv (A := A)   beg_lo beg_hi end__lo end__hi ha hA b0 b1 e1 dg    k0 (end_ - beg + 1 : Int).toNat 0 beg (by omega) (by omega) (by omega) (by omega)  (by omega) (by omega) (by omega) (by omega) (by omega) (by omega)
  · refine w_icI (x := 22) rfl (w_ri ?_)
    exact k0 22 (by omega) (by omega) (by omega)
theorem k_122880 : m_cg 122880 = g_30_0 := rfl
theorem k_122914 : m_cg 122914 = g_30_34 := rfl
theorem k_122915 : m_cg 122915 = g_30_35 := rfl
theorem k_122916 : m_cg 122916 = g_30_36 := rfl
theorem k_122946 : m_cg 122946 = g_30_66 := rfl
theorem k_122937 : m_cg 122937 = g_30_57 := rfl
theorem c_tokenOf {g : w_G} {o : w_O} {h : m_H} {d : Nat} {Q : Option m_V → m_H → Prop} (iv : w_Inv g o h) {A : Nat} {beg : Int} {end_ : Int} (beg_lo : -2147483648 ≤ beg) (beg_hi : beg ≤ 2147483647) (end__lo : -2147483648 ≤ end_) (end__hi : end_ ≤ 2147483647) (ha : m_at h.2.2 19 = some (.inl (false, 160, A))) (hA : ∀ j : Int, 0 ≤ j → j < 160 → 0 ≤ a_g A j ∧ a_g A j ≤ 255) (b0 : 0 ≤ beg) (b1 : beg < end_) (e1 : end_ ≤ 160) (dg : 48 ≤ a_g A beg → a_g A beg ≤ 57 → ∀ j : Int, beg ≤ j → j < end_ → 48 ≤ a_g A j ∧ a_g A j ≤ 57) (k0 : ∀ (x : Int), -2147483648 ≤ x → x ≤ 2147483647 → 0 ≤ x → Q (some (.inl (w_i x))) h) : wp (d + 2) 122880 [.inr (.inl (some 18)), .inl (w_i beg), .inl (w_i end_), .inr (.inr (.inl 0))] [] h Q := by
  have W := iv_wc iv
  refine w_run k_122880 (w_al (fun _ => rfl) ?_)
  obtain ⟨_, m1, siz1, atp1, tok1, flt1, wri1, rfl, l1_siz, u1_siz, l1_atp, u1_atp, l1_tok, u1_tok, l1_flt, u1_flt, l1_wri, u1_wri, f1_0, f1_1, f1_2, f1_3, f1_4, f1_5, f1_6⟩ := iv_18 iv
  refine w_getf m1 rfl (fun _ => rfl) (w_il (fun _ => rfl) (w_aldI ha (by omega) (by omega) (by omega) ?_))
  obtain ⟨b2, b3⟩ := ag_rg A beg
  have e4 := hA beg (by omega) (by omega)
  refine w_ca (fun _ => rfl) rfl (c_isLetter (d := (d + 1)) iv (n := (a_g A beg)) (by omega) (by omega)   (fun b5 b6 => ⟨_, rfl, ?_⟩) (fun b7 => ⟨_, rfl, ?_⟩))
  · refine w_eqzf (by omega) (by omega) (by omega)  (w_al (fun _ => rfl) (w_il (fun _ => rfl) (w_il (fun _ => rfl) (w_this (fun _ => rfl) m1 ?_))))
    refine w_ca (fun _ => rfl) rfl (c_keyOf (d := d) iv (beg := beg) (end_ := end_) (by omega) (by omega) (by omega) (by omega) (by omega) (by omega) (by omega)  (fun y8 b9 b10 b11 => ⟨_, rfl, ?_⟩))
    refine w_is (fun _ => rfl) (w_il (fun _ => rfl) (w_icI (x := 22) rfl ?_))
    refine w_ne2 (by omega) (by omega) (by omega) (by omega)  (fun c12 => ?_) (fun c12 => ?_)
    · refine w_run k_122914 (w_il (fun _ => rfl) (w_ri ?_))
      exact k0 y8 (by omega) (by omega) (by omega)
    · refine w_al (fun _ => rfl) (w_il (fun _ => rfl) (w_il (fun _ => rfl) (w_this (fun _ => rfl) m1 ?_)))
      refine w_ca (fun _ => rfl) rfl (c_nameOf (d := d) iv (beg := beg) (end_ := end_) (by omega) (by omega) (by omega) (by omega) (by omega) (by omega) (by omega)  (fun y13 b14 b15 b16 => ⟨_, rfl, ?_⟩))
      refine w_go (w_run k_122915 (w_ri ?_))
      exact k0 y13 (by omega) (by omega) (by omega)
  · refine w_eqzt (by omega) (by omega) (by omega)  (w_run k_122916 (w_al (fun _ => rfl) (w_getf m1 rfl (fun _ => rfl) (w_il (fun _ => rfl) (w_aldI ha (by omega) (by omega) (by omega) ?_)))))
    obtain ⟨b17, b18⟩ := ag_rg A beg
    have e19 := hA beg (by omega) (by omega)
    refine w_ca (fun _ => rfl) rfl (c_isDigit (d := (d + 1)) iv (n := (a_g A beg)) (by omega) (by omega)   (fun b20 b21 => ⟨_, rfl, ?_⟩) (fun b22 => ⟨_, rfl, ?_⟩))
    · refine w_eqzf (by omega) (by omega) (by omega)  (w_al (fun _ => rfl) (w_il (fun _ => rfl) (w_il (fun _ => rfl) (w_this (fun _ => rfl) m1 ?_))))
      refine w_ca (fun _ => rfl) rfl (c_numberOfR (d := (d + 1)) iv (beg := beg) (end_ := end_) (by omega) (by omega) (by omega) (by omega) ha hA (by omega) (by omega) (by omega) (dg (by omega) (by omega))  (fun y23 b24 b25 b26 => ⟨_, rfl, ?_⟩))
      refine w_go (w_run k_122946 (w_ri ?_))
      exact k0 y23 (by omega) (by omega) (by omega)
    · refine w_eqzt (by omega) (by omega) (by omega)  (w_run k_122937 (w_al (fun _ => rfl) (w_getf m1 rfl (fun _ => rfl) (w_il (fun _ => rfl) (w_aldI ha (by omega) (by omega) (by omega) ?_)))))
      obtain ⟨b27, b28⟩ := ag_rg A beg
      have e29 := hA beg (by omega) (by omega)
      refine w_ca (fun _ => rfl) rfl (c_signOf (d := (d + 1)) iv (n := (a_g A beg)) (by omega) (by omega)   (fun y30 b31 b32 b33 => ⟨_, rfl, ?_⟩))
      refine w_ri ?_
      exact k0 y30 (by omega) (by omega) (by omega)
theorem k_110608 : m_cg 110608 = g_27_16 := rfl
theorem k_110672 : m_cg 110672 = g_27_80 := rfl
theorem l_endOf_16 {g : w_G} {o : w_O} {h : m_H} {d : Nat} {Q : Option m_V → m_H → Prop} (iv : w_Inv g o h) {A : Nat} {beg : Int} (beg_lo : -2147483648 ≤ beg) (beg_hi : beg ≤ 2147483647) (ha : m_at h.2.2 19 = some (.inl (false, 160, A))) (hA : ∀ j : Int, 0 ≤ j → j < 160 → 0 ≤ a_g A j ∧ a_g A j ≤ 255) (b0 : 0 ≤ beg) (b1 : beg < 160) (k0 : ∀ (x : Int), -2147483648 ≤ x → x ≤ 2147483647 → beg + 1 ≤ x → x ≤ 160 → ((48 ≤ a_g A beg → a_g A beg ≤ 57 → ∀ j : Int, beg ≤ j → j < x → 48 ≤ a_g A j ∧ a_g A j ≤ 57)) → Q (some (.inl (w_i x))) h) : ∀ (k : Nat) (e : Int) (e_lo : -2147483648 ≤ e) (e_hi : e ≤ 2147483647) (e0 : beg + 1 ≤ e) (e1 : e ≤ 160) (le0 : 97 ≤ a_g A beg), 160 - e < (k : Int) → wp (d + 1) 110608 [.inr (.inl (some 18)), .inl (w_i beg), .inl (w_i e)] [] h Q := by
  intro k
  induction k with
  | zero => intro e e_lo e_hi e0 e1 le0 hk; exact absurd hk (by omega)
  | succ k ih =>
    intro e e_lo e_hi e0 e1 le0 hk
    have W := iv_wc iv
    refine w_run k_110608 (w_il (fun _ => rfl) (w_al (fun _ => rfl) ?_))
    obtain ⟨_, m1, siz1, atp1, tok1, flt1, wri1, rfl, l1_siz, u1_siz, l1_atp, u1_atp, l1_tok, u1_tok, l1_flt, u1_flt, l1_wri, u1_wri, f1_0, f1_1, f1_2, f1_3, f1_4, f1_5, f1_6⟩ := iv_18 iv
    refine w_getf m1 rfl (fun _ => rfl) ?_
    refine w_ge2 (by omega) (by omega) (by omega) (by omega)  (fun c2 => ?_) (fun c2 => ?_)
    · refine w_run k_110672 (w_il (fun _ => rfl) (w_ri ?_))
      exact k0 e (by omega) (by omega) (by omega) (by omega) (fun t0 t1 => by exfalso; omega)
    · refine w_al (fun _ => rfl) (w_getf m1 rfl (fun _ => rfl) (w_il (fun _ => rfl) (w_aldI ha (by omega) (by omega) (by omega) ?_)))
      obtain ⟨b3, b4⟩ := ag_rg A e
      have e5 := hA e (by omega) (by omega)
      refine w_ca (fun _ => rfl) rfl (c_isLetter (d := d) iv (n := (a_g A e)) (by omega) (by omega)   (fun b6 b7 => ⟨_, rfl, ?_⟩) (fun b8 => ⟨_, rfl, ?_⟩))
      · refine w_eqzf (by omega) (by omega) (by omega)  (w_inc (c := w_i (e + 1)) (fun _ => rfl) (i_addL (y := 1) rfl e) (fun _ => rfl) (w_go ?_))
        exact ih (e + 1) (by omega) (by omega)  (by omega) (by omega) (by omega) (by omega)
      · refine w_eqzt (by omega) (by omega) (by omega)  (w_run k_110672 (w_il (fun _ => rfl) (w_ri ?_)))
        exact k0 e (by omega) (by omega) (by omega) (by omega) (fun t0 t1 => by exfalso; omega)
theorem k_110646 : m_cg 110646 = g_27_54 := rfl
theorem l_endOf_54 {g : w_G} {o : w_O} {h : m_H} {d : Nat} {Q : Option m_V → m_H → Prop} (iv : w_Inv g o h) {A : Nat} {beg : Int} (beg_lo : -2147483648 ≤ beg) (beg_hi : beg ≤ 2147483647) (ha : m_at h.2.2 19 = some (.inl (false, 160, A))) (hA : ∀ j : Int, 0 ≤ j → j < 160 → 0 ≤ a_g A j ∧ a_g A j ≤ 255) (b0 : 0 ≤ beg) (b1 : beg < 160) (k0 : ∀ (x : Int), -2147483648 ≤ x → x ≤ 2147483647 → beg + 1 ≤ x → x ≤ 160 → ((48 ≤ a_g A beg → a_g A beg ≤ 57 → ∀ j : Int, beg ≤ j → j < x → 48 ≤ a_g A j ∧ a_g A j ≤ 57)) → Q (some (.inl (w_i x))) h) : ∀ (k : Nat) (e : Int) (e_lo : -2147483648 ≤ e) (e_hi : e ≤ 2147483647) (e0 : beg + 1 ≤ e) (e1 : e ≤ 160) (dg : ∀ j : Int, beg ≤ j → j < e → 48 ≤ a_g A j ∧ a_g A j ≤ 57), 160 - e < (k : Int) → wp (d + 1) 110646 [.inr (.inl (some 18)), .inl (w_i beg), .inl (w_i e)] [] h Q := by
  intro k
  induction k with
  | zero => intro e e_lo e_hi e0 e1 dg hk; exact absurd hk (by omega)
  | succ k ih =>
    intro e e_lo e_hi e0 e1 dg hk
    have W := iv_wc iv
    refine w_run k_110646 (w_il (fun _ => rfl) (w_al (fun _ => rfl) ?_))
    obtain ⟨_, m1, siz1, atp1, tok1, flt1, wri1, rfl, l1_siz, u1_siz, l1_atp, u1_atp, l1_tok, u1_tok, l1_flt, u1_flt, l1_wri, u1_wri, f1_0, f1_1, f1_2, f1_3, f1_4, f1_5, f1_6⟩ := iv_18 iv
    refine w_getf m1 rfl (fun _ => rfl) ?_
    refine w_ge2 (by omega) (by omega) (by omega) (by omega)  (fun c2 => ?_) (fun c2 => ?_)
    · refine w_run k_110672 (w_il (fun _ => rfl) (w_ri ?_))
      exact k0 e (by omega) (by omega) (by omega) (by omega) (fun _ _ => dg)
    · refine w_al (fun _ => rfl) (w_getf m1 rfl (fun _ => rfl) (w_il (fun _ => rfl) (w_aldI ha (by omega) (by omega) (by omega) ?_)))
      obtain ⟨b3, b4⟩ := ag_rg A e
      have e5 := hA e (by omega) (by omega)
      refine w_ca (fun _ => rfl) rfl (c_isDigit (d := d) iv (n := (a_g A e)) (by omega) (by omega)   (fun b6 b7 => ⟨_, rfl, ?_⟩) (fun b8 => ⟨_, rfl, ?_⟩))
      · refine w_eqzf (by omega) (by omega) (by omega)  (w_inc (c := w_i (e + 1)) (fun _ => rfl) (i_addL (y := 1) rfl e) (fun _ => rfl) (w_go ?_))
        exact ih (e + 1) (by omega) (by omega)  (by omega) (by omega) (fun j j0 j1 => if hj : j < e then dg j j0 hj else by obtain rfl : j = e := (by omega); omega) (by omega)
      · refine w_eqzt (by omega) (by omega) (by omega)  (w_run k_110672 (w_il (fun _ => rfl) (w_ri ?_)))
        exact k0 e (by omega) (by omega) (by omega) (by omega) (fun _ _ => dg)
theorem k_110592 : m_cg 110592 = g_27_0 := rfl
theorem k_110634 : m_cg 110634 = g_27_42 := rfl
theorem c_endOf {g : w_G} {o : w_O} {h : m_H} {d : Nat} {Q : Option m_V → m_H → Prop} (iv : w_Inv g o h) {A : Nat} {beg : Int} (beg_lo : -2147483648 ≤ beg) (beg_hi : beg ≤ 2147483647) (ha : m_at h.2.2 19 = some (.inl (false, 160, A))) (hA : ∀ j : Int, 0 ≤ j → j < 160 → 0 ≤ a_g A j ∧ a_g A j ≤ 255) (b0 : 0 ≤ beg) (b1 : beg < 160) (k0 : ∀ (x : Int), -2147483648 ≤ x → x ≤ 2147483647 → beg + 1 ≤ x → x ≤ 160 → ((48 ≤ a_g A beg → a_g A beg ≤ 57 → ∀ j : Int, beg ≤ j → j < x → 48 ≤ a_g A j ∧ a_g A j ≤ 57)) → Q (some (.inl (w_i x))) h) : wp (d + 1) 110592 [.inr (.inl (some 18)), .inl (w_i beg), .inr (.inr (.inl 0))] [] h Q := by
  have W := iv_wc iv
  refine w_run k_110592 (w_il (fun _ => rfl) (w_icI (x := 1) rfl (w_op (c := w_i (beg + 1)) (i_add beg 1) (w_is (fun _ => rfl) (w_al (fun _ => rfl) ?_)))))
  obtain ⟨_, m1, siz1, atp1, tok1, flt1, wri1, rfl, l1_siz, u1_siz, l1_atp, u1_atp, l1_tok, u1_tok, l1_flt, u1_flt, l1_wri, u1_wri, f1_0, f1_1, f1_2, f1_3, f1_4, f1_5, f1_6⟩ := iv_18 iv
  refine w_getf m1 rfl (fun _ => rfl) (w_il (fun _ => rfl) (w_aldI ha (by omega) (by omega) (by omega) ?_))
  obtain ⟨b2, b3⟩ := ag_rg A beg
  have e4 := hA beg (by omega) (by omega)
  refine w_ca (fun _ => rfl) rfl (c_isLetter (d := d) iv (n := (a_g A beg)) (by omega) (by omega)   (fun b5 b6 => ⟨_, rfl, ?_⟩) (fun b7 => ⟨_, rfl, ?_⟩))
  · refine w_eqzf (by omega) (by omega) (by omega)  (w_nur k_110608 ?_)
    exact l_endOf_16 iv (A := A)   beg_lo beg_hi ha hA b0 b1    k0 (160 - (beg + 1) + 1 : Int).toNat (beg + 1) (by omega) (by omega)  (by omega) (by omega) (by omega) (by omega)
  · refine w_eqzt (by omega) (by omega) (by omega)  (w_run k_110634 (w_al (fun _ => rfl) (w_getf m1 rfl (fun _ => rfl) (w_il (fun _ => rfl) (w_aldI ha (by omega) (by omega) (by omega) ?_)))))
    obtain ⟨b8, b9⟩ := ag_rg A beg
    have e10 := hA beg (by omega) (by omega)
    refine w_ca (fun _ => rfl) rfl (c_isDigit (d := d) iv (n := (a_g A beg)) (by omega) (by omega)   (fun b11 b12 => ⟨_, rfl, ?_⟩) (fun b13 => ⟨_, rfl, ?_⟩))
    · refine w_eqzf (by omega) (by omega) (by omega)  (w_nur k_110646 ?_)
      exact l_endOf_54 iv (A := A)   beg_lo beg_hi ha hA b0 b1    k0 (160 - (beg + 1) + 1 : Int).toNat (beg + 1) (by omega) (by omega)  (by omega) (by omega) (fun j j0 j1 => by obtain rfl : j = beg := (by omega); omega) (by omega)
    · refine w_eqzt (by omega) (by omega) (by omega)  (w_run k_110672 (w_il (fun _ => rfl) (w_ri ?_)))
      exact k0 (beg + 1) (by omega) (by omega) (by omega) (by omega) (fun t0 t1 => by exfalso; omega)
