theorem k_114688 : m_cg 114688 = g_28_0 := rfl
theorem k_114704 : m_cg 114704 = g_28_16 := rfl
theorem k_114705 : m_cg 114705 = g_28_17 := rfl
theorem c_isLetter {g : w_G} {o : w_O} {h : m_H} {d : Nat} {Q : Option m_V → m_H → Prop} (iv : w_Inv g o h) {n : Int} (n_lo : -2147483648 ≤ n) (n_hi : n ≤ 2147483647) (k0 : 97 ≤ n → n ≤ 122 → Q (some (.inl (w_i 1))) h) (k1 : (n < 97 ∨ 122 < n) → Q (some (.inl (w_i 0))) h) : wp d 114688 [.inl (w_i n)] [] h Q := by
  have W := iv_wc iv
  refine w_run k_114688 (w_il (fun _ => rfl) (w_icI (x := 97) rfl ?_))
  refine w_lt2 (by omega) (by omega) (by omega) (by omega)  (fun c1 => ?_) (fun c1 => ?_)
  · refine w_run k_114704 (w_icI (x := 0) rfl (w_rz (by decide) ?_))
    exact k1 (by omega)
  · refine w_il (fun _ => rfl) (w_icI (x := 122) rfl ?_)
    refine w_gt2 (by omega) (by omega) (by omega) (by omega)  (fun c2 => ?_) (fun c2 => ?_)
    · refine w_run k_114704 (w_icI (x := 0) rfl (w_rz (by decide) ?_))
      exact k1 (by omega)
    · refine w_icI (x := 1) rfl (w_go (w_run k_114705 (w_rz (by decide) ?_)))
      exact k0 (by omega) (by omega)
theorem k_118784 : m_cg 118784 = g_29_0 := rfl
theorem k_118800 : m_cg 118800 = g_29_16 := rfl
theorem k_118801 : m_cg 118801 = g_29_17 := rfl
theorem c_isDigit {g : w_G} {o : w_O} {h : m_H} {d : Nat} {Q : Option m_V → m_H → Prop} (iv : w_Inv g o h) {n : Int} (n_lo : -2147483648 ≤ n) (n_hi : n ≤ 2147483647) (k0 : 48 ≤ n → n ≤ 57 → Q (some (.inl (w_i 1))) h) (k1 : (n < 48 ∨ 57 < n) → Q (some (.inl (w_i 0))) h) : wp d 118784 [.inl (w_i n)] [] h Q := by
  have W := iv_wc iv
  refine w_run k_118784 (w_il (fun _ => rfl) (w_icI (x := 48) rfl ?_))
  refine w_lt2 (by omega) (by omega) (by omega) (by omega)  (fun c1 => ?_) (fun c1 => ?_)
  · refine w_run k_118800 (w_icI (x := 0) rfl (w_rz (by decide) ?_))
    exact k1 (by omega)
  · refine w_il (fun _ => rfl) (w_icI (x := 57) rfl ?_)
    refine w_gt2 (by omega) (by omega) (by omega) (by omega)  (fun c2 => ?_) (fun c2 => ?_)
    · refine w_run k_118800 (w_icI (x := 0) rfl (w_rz (by decide) ?_))
      exact k1 (by omega)
    · refine w_icI (x := 1) rfl (w_go (w_run k_118801 (w_rz (by decide) ?_)))
      exact k0 (by omega) (by omega)
theorem k_143360 : m_cg 143360 = g_35_0 := rfl
theorem k_143464 : m_cg 143464 = g_35_104 := rfl
theorem k_143467 : m_cg 143467 = g_35_107 := rfl
theorem k_143479 : m_cg 143479 = g_35_119 := rfl
theorem k_143473 : m_cg 143473 = g_35_113 := rfl
theorem k_143488 : m_cg 143488 = g_35_128 := rfl
theorem k_143476 : m_cg 143476 = g_35_116 := rfl
theorem k_143470 : m_cg 143470 = g_35_110 := rfl
theorem k_143482 : m_cg 143482 = g_35_122 := rfl
theorem k_143485 : m_cg 143485 = g_35_125 := rfl
theorem c_signOf {g : w_G} {o : w_O} {h : m_H} {d : Nat} {Q : Option m_V → m_H → Prop} (iv : w_Inv g o h) {n : Int} (n_lo : -2147483648 ≤ n) (n_hi : n ≤ 2147483647) (k0 : ∀ (x : Int), -2147483648 ≤ x → x ≤ 2147483647 → 0 ≤ x → Q (some (.inl (w_i x))) h) : wp d 143360 [.inl (w_i n)] [] h Q := by
  have W := iv_wc iv
  refine w_run k_143360 (w_il (fun _ => rfl) ?_)
  by_cases c1 : n = 40
  · rw [show (n : Int) = 40 from c1]
    refine w_tsw (t := 143464) (fun _ => rfl) (w_run k_143464 (w_icI (x := 18) rfl (w_ri ?_)))
    exact k0 18 (by omega) (by omega) (by omega)
  by_cases c2 : n = 41
  · rw [show (n : Int) = 41 from c2]
    refine w_tsw (t := 143467) (fun _ => rfl) (w_run k_143467 (w_icI (x := 19) rfl (w_ri ?_)))
    exact k0 19 (by omega) (by omega) (by omega)
  by_cases c3 : n = 42
  · rw [show (n : Int) = 42 from c3]
    refine w_tsw (t := 143479) (fun _ => rfl) (w_run k_143479 (w_icI (x := 13) rfl (w_ri ?_)))
    exact k0 13 (by omega) (by omega) (by omega)
  by_cases c4 : n = 43
  · rw [show (n : Int) = 43 from c4]
    refine w_tsw (t := 143473) (fun _ => rfl) (w_run k_143473 (w_icI (x := 11) rfl (w_ri ?_)))
    exact k0 11 (by omega) (by omega) (by omega)
  by_cases c5 : n = 44
  · rw [show (n : Int) = 44 from c5]
    refine w_tsw (t := 143488) (fun _ => rfl) (w_run k_143488 (w_icI (x := 22) rfl (w_ri ?_)))
    exact k0 22 (by omega) (by omega) (by omega)
  by_cases c6 : n = 45
  · rw [show (n : Int) = 45 from c6]
    refine w_tsw (t := 143476) (fun _ => rfl) (w_run k_143476 (w_icI (x := 12) rfl (w_ri ?_)))
    exact k0 12 (by omega) (by omega) (by omega)
  by_cases c7 : n = 46
  · rw [show (n : Int) = 46 from c7]
    refine w_tsw (t := 143488) (fun _ => rfl) (w_run k_143488 (w_icI (x := 22) rfl (w_ri ?_)))
    exact k0 22 (by omega) (by omega) (by omega)
  by_cases c8 : n = 47
  · rw [show (n : Int) = 47 from c8]
    refine w_tsw (t := 143488) (fun _ => rfl) (w_run k_143488 (w_icI (x := 22) rfl (w_ri ?_)))
    exact k0 22 (by omega) (by omega) (by omega)
  by_cases c9 : n = 48
  · rw [show (n : Int) = 48 from c9]
    refine w_tsw (t := 143488) (fun _ => rfl) (w_run k_143488 (w_icI (x := 22) rfl (w_ri ?_)))
    exact k0 22 (by omega) (by omega) (by omega)
  by_cases c10 : n = 49
  · rw [show (n : Int) = 49 from c10]
    refine w_tsw (t := 143488) (fun _ => rfl) (w_run k_143488 (w_icI (x := 22) rfl (w_ri ?_)))
    exact k0 22 (by omega) (by omega) (by omega)
  by_cases c11 : n = 50
  · rw [show (n : Int) = 50 from c11]
    refine w_tsw (t := 143488) (fun _ => rfl) (w_run k_143488 (w_icI (x := 22) rfl (w_ri ?_)))
    exact k0 22 (by omega) (by omega) (by omega)
  by_cases c12 : n = 51
  · rw [show (n : Int) = 51 from c12]
    refine w_tsw (t := 143488) (fun _ => rfl) (w_run k_143488 (w_icI (x := 22) rfl (w_ri ?_)))
    exact k0 22 (by omega) (by omega) (by omega)
  by_cases c13 : n = 52
  · rw [show (n : Int) = 52 from c13]
    refine w_tsw (t := 143488) (fun _ => rfl) (w_run k_143488 (w_icI (x := 22) rfl (w_ri ?_)))
    exact k0 22 (by omega) (by omega) (by omega)
  by_cases c14 : n = 53
  · rw [show (n : Int) = 53 from c14]
    refine w_tsw (t := 143488) (fun _ => rfl) (w_run k_143488 (w_icI (x := 22) rfl (w_ri ?_)))
    exact k0 22 (by omega) (by omega) (by omega)
  by_cases c15 : n = 54
  · rw [show (n : Int) = 54 from c15]
    refine w_tsw (t := 143488) (fun _ => rfl) (w_run k_143488 (w_icI (x := 22) rfl (w_ri ?_)))
    exact k0 22 (by omega) (by omega) (by omega)
  by_cases c16 : n = 55
  · rw [show (n : Int) = 55 from c16]
    refine w_tsw (t := 143488) (fun _ => rfl) (w_run k_143488 (w_icI (x := 22) rfl (w_ri ?_)))
    exact k0 22 (by omega) (by omega) (by omega)
  by_cases c17 : n = 56
  · rw [show (n : Int) = 56 from c17]
    refine w_tsw (t := 143488) (fun _ => rfl) (w_run k_143488 (w_icI (x := 22) rfl (w_ri ?_)))
    exact k0 22 (by omega) (by omega) (by omega)
  by_cases c18 : n = 57
  · rw [show (n : Int) = 57 from c18]
    refine w_tsw (t := 143488) (fun _ => rfl) (w_run k_143488 (w_icI (x := 22) rfl (w_ri ?_)))
    exact k0 22 (by omega) (by omega) (by omega)
  by_cases c19 : n = 58
  · rw [show (n : Int) = 58 from c19]
    refine w_tsw (t := 143488) (fun _ => rfl) (w_run k_143488 (w_icI (x := 22) rfl (w_ri ?_)))
    exact k0 22 (by omega) (by omega) (by omega)
  by_cases c20 : n = 59
  · rw [show (n : Int) = 59 from c20]
    refine w_tsw (t := 143470) (fun _ => rfl) (w_run k_143470 (w_icI (x := 20) rfl (w_ri ?_)))
    exact k0 20 (by omega) (by omega) (by omega)
  by_cases c21 : n = 60
  · rw [show (n : Int) = 60 from c21]
    refine w_tsw (t := 143482) (fun _ => rfl) (w_run k_143482 (w_icI (x := 9) rfl (w_ri ?_)))
    exact k0 9 (by omega) (by omega) (by omega)
  by_cases c22 : n = 61
  · rw [show (n : Int) = 61 from c22]
    refine w_tsw (t := 143485) (fun _ => rfl) (w_run k_143485 (w_icI (x := 10) rfl (w_ri ?_)))
    exact k0 10 (by omega) (by omega) (by omega)
  refine w_tswL (by omega) (by omega) (by show _ < ((40 : Nat) : Int) ∨ ((62 : Nat) : Int) ≤ _; omega) (by decide) (w_run k_143488 (w_icI (x := 22) rfl (w_ri ?_)))
  exact k0 22 (by omega) (by omega) (by omega)
theorem k_139279 : m_cg 139279 = g_34_15 := rfl
theorem k_139314 : m_cg 139314 = g_34_50 := rfl
theorem k_139308 : m_cg 139308 = g_34_44 := rfl
theorem l_isWord_15 {g : w_G} {o : w_O} {h : m_H} {d : Nat} {Q : Option m_V → m_H → Prop} (iv : w_Inv g o h) {sk : Nat} {beg : Int} {end_ : Int} (beg_lo : -2147483648 ≤ beg) (beg_hi : beg ≤ 2147483647) (end__lo : -2147483648 ≤ end_) (end__hi : end_ ≤ 2147483647) (hs : sk < 13) (b0 : 0 ≤ beg) (b1 : beg < end_) (e1 : end_ ≤ 160) (k0 : Q (some (.inl (w_i 1))) h) (k1 : Q (some (.inl (w_i 0))) h) : ∀ (k : Nat) (i : Int) (i_lo : -2147483648 ≤ i) (i_hi : i ≤ 2147483647) (i0 : 0 ≤ i) (i1 : i ≤ 40) (el : end_ - beg = ((m_len sk : Nat) : Int)), 40 - i < (k : Int) → wp d 139279 [.inr (.inl (some 18)), .inr (.inr (.inr (sk + 1))), .inl (w_i beg), .inl (w_i end_), .inl (w_i i)] [] h Q := by
  intro k
  induction k with
  | zero => intro i i_lo i_hi i0 i1 el hk; exact absurd hk (by omega)
  | succ k ih =>
    intro i i_lo i_hi i0 i1 el hk
    have W := iv_wc iv
    have hl := len_i sk hs
    refine w_run k_139279 (w_il (fun _ => rfl) (w_als (fun _ => rfl) (w_sl hs rfl ?_)))
    refine w_ge2 (by omega) (by omega) (by omega) (by omega)  (fun c1 => ?_) (fun c1 => ?_)
    · refine w_run k_139314 (w_icI (x := 1) rfl (w_rz (by decide) ?_))
      exact k0 
    · refine w_al (fun _ => rfl) ?_
      obtain ⟨_, m2, siz2, atp2, tok2, flt2, wri2, rfl, l2_siz, u2_siz, l2_atp, u2_atp, l2_tok, u2_tok, l2_flt, u2_flt, l2_wri, u2_wri, f2_0, f2_1, f2_2, f2_3, f2_4, f2_5, f2_6⟩ := iv_18 iv
      refine w_getf m2 rfl (fun _ => rfl) (w_il (fun _ => rfl) (w_il (fun _ => rfl) (w_op (c := w_i (beg + i)) (i_add beg i) ?_)))
      obtain ⟨_, m3, A3, rfl, e3⟩ := iv_19 iv
      refine w_aldI m3 (by omega) (by omega) (by omega) ?_
      obtain ⟨b4, b5⟩ := ag_rg A3 (beg + i)
      have e6 := e3 (beg + i) (by omega) (by omega)
      refine w_als (fun _ => rfl) (w_il (fun _ => rfl) (w_sch hs (by omega) (by omega) rfl (fun x7 x70 x71 => ?_)))
      refine w_eq2 (by omega) (by omega) (by omega) (by omega)  (fun c8 => ?_) (fun c8 => ?_)
      · refine w_run k_139308 (w_inc (c := w_i (i + 1)) (fun _ => rfl) (i_addL (y := 1) rfl i) (fun _ => rfl) (w_go ?_))
        exact ih (i + 1) (by omega) (by omega)  (by omega) (by omega) (by omega) (by omega)
      · refine w_icI (x := 0) rfl (w_rz (by decide) ?_)
        exact k1 
theorem k_139264 : m_cg 139264 = g_34_0 := rfl
theorem k_139276 : m_cg 139276 = g_34_12 := rfl
theorem c_isWord {g : w_G} {o : w_O} {h : m_H} {d : Nat} {Q : Option m_V → m_H → Prop} (iv : w_Inv g o h) {sk : Nat} {beg : Int} {end_ : Int} (beg_lo : -2147483648 ≤ beg) (beg_hi : beg ≤ 2147483647) (end__lo : -2147483648 ≤ end_) (end__hi : end_ ≤ 2147483647) (hs : sk < 13) (b0 : 0 ≤ beg) (b1 : beg < end_) (e1 : end_ ≤ 160) (k0 : Q (some (.inl (w_i 1))) h) (k1 : Q (some (.inl (w_i 0))) h) : wp d 139264 [.inr (.inl (some 18)), .inr (.inr (.inr (sk + 1))), .inl (w_i beg), .inl (w_i end_), .inr (.inr (.inl 0))] [] h Q := by
  have W := iv_wc iv
  have hl := len_i sk hs
  refine w_run k_139264 (w_il (fun _ => rfl) (w_il (fun _ => rfl) (w_op (c := w_i (end_ - beg)) (i_sub end_ beg) (w_als (fun _ => rfl) (w_sl hs rfl ?_)))))
  refine w_eq2 (by omega) (by omega) (by omega) (by omega)  (fun c1 => ?_) (fun c1 => ?_)
  · refine w_run k_139276 (w_icI (x := 0) rfl (w_is (fun _ => rfl) (w_nur k_139279 ?_)))
    exact l_isWord_15 iv (sk := sk)   beg_lo beg_hi end__lo end__hi hs b0 b1 e1    k0 k1 (40 - 0 + 1 : Int).toNat 0 (by omega) (by omega)  (by omega) (by omega) (by omega) (by omega)
  · refine w_icI (x := 0) rfl (w_rz (by decide) ?_)
    exact k1 
theorem k_131072 : m_cg 131072 = g_32_0 := rfl
theorem k_131086 : m_cg 131086 = g_32_14 := rfl
theorem k_131100 : m_cg 131100 = g_32_28 := rfl
theorem k_131114 : m_cg 131114 = g_32_42 := rfl
theorem k_131128 : m_cg 131128 = g_32_56 := rfl
theorem k_131142 : m_cg 131142 = g_32_70 := rfl
theorem k_131160 : m_cg 131160 = g_32_88 := rfl
theorem k_131158 : m_cg 131158 = g_32_86 := rfl
theorem c_keyOf {g : w_G} {o : w_O} {h : m_H} {d : Nat} {Q : Option m_V → m_H → Prop} (iv : w_Inv g o h) {beg : Int} {end_ : Int} (beg_lo : -2147483648 ≤ beg) (beg_hi : beg ≤ 2147483647) (end__lo : -2147483648 ≤ end_) (end__hi : end_ ≤ 2147483647) (b0 : 0 ≤ beg) (b1 : beg < end_) (e1 : end_ ≤ 160) (k0 : ∀ (x : Int), -2147483648 ≤ x → x ≤ 2147483647 → 0 ≤ x → Q (some (.inl (w_i x))) h) : wp (d + 1) 131072 [.inr (.inl (some 18)), .inl (w_i beg), .inl (w_i end_)] [] h Q := by
  have W := iv_wc iv
  refine w_run k_131072 (w_al (fun _ => rfl) (w_sc (w_il (fun _ => rfl) (w_il (fun _ => rfl) ?_))))
  obtain ⟨_, m1, siz1, atp1, tok1, flt1, wri1, rfl, l1_siz, u1_siz, l1_atp, u1_atp, l1_tok, u1_tok, l1_flt, u1_flt, l1_wri, u1_wri, f1_0, f1_1, f1_2, f1_3, f1_4, f1_5, f1_6⟩ := iv_18 iv
  refine w_this (fun _ => rfl) m1 ?_
  refine w_ca (fun _ => rfl) rfl (c_isWord (d := d) iv (beg := beg) (end_ := end_) (sk := 1) (by omega) (by omega) (by omega) (by omega) (by omega) (by omega) (by omega) (by omega)  ⟨_, rfl, ?_⟩ ⟨_, rfl, ?_⟩)
  · refine w_eqzf (by omega) (by omega) (by omega)  (w_icI (x := 15) rfl (w_ri ?_))
    exact k0 15 (by omega) (by omega) (by omega)
  · refine w_eqzt (by omega) (by omega) (by omega)  (w_run k_131086 (w_al (fun _ => rfl) (w_sc (w_il (fun _ => rfl) (w_il (fun _ => rfl) (w_this (fun _ => rfl) m1 ?_))))))
    refine w_ca (fun _ => rfl) rfl (c_isWord (d := d) iv (beg := beg) (end_ := end_) (sk := 2) (by omega) (by omega) (by omega) (by omega) (by omega) (by omega) (by omega) (by omega)  ⟨_, rfl, ?_⟩ ⟨_, rfl, ?_⟩)
    · refine w_eqzf (by omega) (by omega) (by omega)  (w_icI (x := 16) rfl (w_ri ?_))
      exact k0 16 (by omega) (by omega) (by omega)
    · refine w_eqzt (by omega) (by omega) (by omega)  (w_run k_131100 (w_al (fun _ => rfl) (w_sc (w_il (fun _ => rfl) (w_il (fun _ => rfl) (w_this (fun _ => rfl) m1 ?_))))))
      refine w_ca (fun _ => rfl) rfl (c_isWord (d := d) iv (beg := beg) (end_ := end_) (sk := 3) (by omega) (by omega) (by omega) (by omega) (by omega) (by omega) (by omega) (by omega)  ⟨_, rfl, ?_⟩ ⟨_, rfl, ?_⟩)
      · refine w_eqzf (by omega) (by omega) (by omega)  (w_icI (x := 17) rfl (w_ri ?_))
        exact k0 17 (by omega) (by omega) (by omega)
      · refine w_eqzt (by omega) (by omega) (by omega)  (w_run k_131114 (w_al (fun _ => rfl) (w_sc (w_il (fun _ => rfl) (w_il (fun _ => rfl) (w_this (fun _ => rfl) m1 ?_))))))
        refine w_ca (fun _ => rfl) rfl (c_isWord (d := d) iv (beg := beg) (end_ := end_) (sk := 4) (by omega) (by omega) (by omega) (by omega) (by omega) (by omega) (by omega) (by omega)  ⟨_, rfl, ?_⟩ ⟨_, rfl, ?_⟩)
        · refine w_eqzf (by omega) (by omega) (by omega)  (w_icI (x := 6) rfl (w_ri ?_))
          exact k0 6 (by omega) (by omega) (by omega)
        · refine w_eqzt (by omega) (by omega) (by omega)  (w_run k_131128 (w_al (fun _ => rfl) (w_sc (w_il (fun _ => rfl) (w_il (fun _ => rfl) (w_this (fun _ => rfl) m1 ?_))))))
          refine w_ca (fun _ => rfl) rfl (c_isWord (d := d) iv (beg := beg) (end_ := end_) (sk := 5) (by omega) (by omega) (by omega) (by omega) (by omega) (by omega) (by omega) (by omega)  ⟨_, rfl, ?_⟩ ⟨_, rfl, ?_⟩)
          · refine w_eqzf (by omega) (by omega) (by omega)  (w_icI (x := 7) rfl (w_ri ?_))
            exact k0 7 (by omega) (by omega) (by omega)
          · refine w_eqzt (by omega) (by omega) (by omega)  (w_run k_131142 (w_al (fun _ => rfl) (w_sc (w_il (fun _ => rfl) (w_il (fun _ => rfl) (w_this (fun _ => rfl) m1 ?_))))))
            refine w_ca (fun _ => rfl) rfl (c_isWord (d := d) iv (beg := beg) (end_ := end_) (sk := 6) (by omega) (by omega) (by omega) (by omega) (by omega) (by omega) (by omega) (by omega)  ⟨_, rfl, ?_⟩ ⟨_, rfl, ?_⟩)
            · refine w_eqzf (by omega) (by omega) (by omega)  (w_icI (x := 8) rfl (w_go (w_run k_131160 (w_ri ?_))))
              exact k0 8 (by omega) (by omega) (by omega)
            · refine w_eqzt (by omega) (by omega) (by omega)  (w_run k_131158 (w_icI (x := 22) rfl (w_ri ?_)))
              exact k0 22 (by omega) (by omega) (by omega)
theorem k_135168 : m_cg 135168 = g_33_0 := rfl
theorem k_135181 : m_cg 135181 = g_33_13 := rfl
theorem k_135194 : m_cg 135194 = g_33_26 := rfl
theorem k_135207 : m_cg 135207 = g_33_39 := rfl
theorem k_135220 : m_cg 135220 = g_33_52 := rfl
theorem k_135233 : m_cg 135233 = g_33_65 := rfl
theorem k_135250 : m_cg 135250 = g_33_82 := rfl
theorem k_135248 : m_cg 135248 = g_33_80 := rfl
theorem c_nameOf {g : w_G} {o : w_O} {h : m_H} {d : Nat} {Q : Option m_V → m_H → Prop} (iv : w_Inv g o h) {beg : Int} {end_ : Int} (beg_lo : -2147483648 ≤ beg) (beg_hi : beg ≤ 2147483647) (end__lo : -2147483648 ≤ end_) (end__hi : end_ ≤ 2147483647) (b0 : 0 ≤ beg) (b1 : beg < end_) (e1 : end_ ≤ 160) (k0 : ∀ (x : Int), -2147483648 ≤ x → x ≤ 2147483647 → 0 ≤ x → Q (some (.inl (w_i x))) h) : wp (d + 1) 135168 [.inr (.inl (some 18)), .inl (w_i beg), .inl (w_i end_)] [] h Q := by
  have W := iv_wc iv
  refine w_run k_135168 (w_al (fun _ => rfl) (w_sc (w_il (fun _ => rfl) (w_il (fun _ => rfl) ?_))))
  obtain ⟨_, m1, siz1, atp1, tok1, flt1, wri1, rfl, l1_siz, u1_siz, l1_atp, u1_atp, l1_tok, u1_tok, l1_flt, u1_flt, l1_wri, u1_wri, f1_0, f1_1, f1_2, f1_3, f1_4, f1_5, f1_6⟩ := iv_18 iv
  refine w_this (fun _ => rfl) m1 ?_
  refine w_ca (fun _ => rfl) rfl (c_isWord (d := d) iv (beg := beg) (end_ := end_) (sk := 7) (by omega) (by omega) (by omega) (by omega) (by omega) (by omega) (by omega) (by omega)  ⟨_, rfl, ?_⟩ ⟨_, rfl, ?_⟩)
  · refine w_eqzf (by omega) (by omega) (by omega)  (w_icI (x := 0) rfl (w_ri ?_))
    exact k0 0 (by omega) (by omega) (by omega)
  · refine w_eqzt (by omega) (by omega) (by omega)  (w_run k_135181 (w_al (fun _ => rfl) (w_sc (w_il (fun _ => rfl) (w_il (fun _ => rfl) (w_this (fun _ => rfl) m1 ?_))))))
    refine w_ca (fun _ => rfl) rfl (c_isWord (d := d) iv (beg := beg) (end_ := end_) (sk := 8) (by omega) (by omega) (by omega) (by omega) (by omega) (by omega) (by omega) (by omega)  ⟨_, rfl, ?_⟩ ⟨_, rfl, ?_⟩)
    · refine w_eqzf (by omega) (by omega) (by omega)  (w_icI (x := 1) rfl (w_ri ?_))
      exact k0 1 (by omega) (by omega) (by omega)
    · refine w_eqzt (by omega) (by omega) (by omega)  (w_run k_135194 (w_al (fun _ => rfl) (w_sc (w_il (fun _ => rfl) (w_il (fun _ => rfl) (w_this (fun _ => rfl) m1 ?_))))))
      refine w_ca (fun _ => rfl) rfl (c_isWord (d := d) iv (beg := beg) (end_ := end_) (sk := 9) (by omega) (by omega) (by omega) (by omega) (by omega) (by omega) (by omega) (by omega)  ⟨_, rfl, ?_⟩ ⟨_, rfl, ?_⟩)
      · refine w_eqzf (by omega) (by omega) (by omega)  (w_icI (x := 2) rfl (w_ri ?_))
        exact k0 2 (by omega) (by omega) (by omega)
      · refine w_eqzt (by omega) (by omega) (by omega)  (w_run k_135207 (w_al (fun _ => rfl) (w_sc (w_il (fun _ => rfl) (w_il (fun _ => rfl) (w_this (fun _ => rfl) m1 ?_))))))
        refine w_ca (fun _ => rfl) rfl (c_isWord (d := d) iv (beg := beg) (end_ := end_) (sk := 10) (by omega) (by omega) (by omega) (by omega) (by omega) (by omega) (by omega) (by omega)  ⟨_, rfl, ?_⟩ ⟨_, rfl, ?_⟩)
        · refine w_eqzf (by omega) (by omega) (by omega)  (w_icI (x := 3) rfl (w_ri ?_))
          exact k0 3 (by omega) (by omega) (by omega)
        · refine w_eqzt (by omega) (by omega) (by omega)  (w_run k_135220 (w_al (fun _ => rfl) (w_sc (w_il (fun _ => rfl) (w_il (fun _ => rfl) (w_this (fun _ => rfl) m1 ?_))))))
          refine w_ca (fun _ => rfl) rfl (c_isWord (d := d) iv (beg := beg) (end_ := end_) (sk := 11) (by omega) (by omega) (by omega) (by omega) (by omega) (by omega) (by omega) (by omega)  ⟨_, rfl, ?_⟩ ⟨_, rfl, ?_⟩)
          · refine w_eqzf (by omega) (by omega) (by omega)  (w_icI (x := 4) rfl (w_ri ?_))
            exact k0 4 (by omega) (by omega) (by omega)
          · refine w_eqzt (by omega) (by omega) (by omega)  (w_run k_135233 (w_al (fun _ => rfl) (w_sc (w_il (fun _ => rfl) (w_il (fun _ => rfl) (w_this (fun _ => rfl) m1 ?_))))))
            refine w_ca (fun _ => rfl) rfl (c_isWord (d := d) iv (beg := beg) (end_ := end_) (sk := 12) (by omega) (by omega) (by omega) (by omega) (by omega) (by omega) (by omega) (by omega)  ⟨_, rfl, ?_⟩ ⟨_, rfl, ?_⟩)
            · refine w_eqzf (by omega) (by omega) (by omega)  (w_icI (x := 5) rfl (w_go (w_run k_135250 (w_ri ?_))))
              exact k0 5 (by omega) (by omega) (by omega)
            · refine w_eqzt (by omega) (by omega) (by omega)  (w_run k_135248 (w_icI (x := 22) rfl (w_ri ?_)))
              exact k0 22 (by omega) (by omega) (by omega)
theorem k_126991 : m_cg 126991 = g_31_15 := rfl
theorem k_127019 : m_cg 127019 = g_31_43 := rfl
theorem l_numberOfR_15 {g : w_G} {o : w_O} {h : m_H} {d : Nat} {Q : Option m_V → m_H → Prop} (iv : w_Inv g o h) {A : Nat} {beg : Int} {end_ : Int} (beg_lo : -2147483648 ≤ beg) (beg_hi : beg ≤ 2147483647) (end__lo : -2147483648 ≤ end_) (end__hi : end_ ≤ 2147483647) (ha : m_at h.2.2 19 = some (.inl (false, 160, A))) (hA : ∀ j : Int, 0 ≤ j → j < 160 → 0 ≤ a_g A j ∧ a_g A j ≤ 255) (b0 : 0 ≤ beg) (b1 : beg < end_) (e1 : end_ ≤ 160) (dg : ∀ j : Int, beg ≤ j → j < end_ → 48 ≤ a_g A j ∧ a_g A j ≤ 57) (k0 : ∀ (x : Int), -2147483648 ≤ x → x ≤ 2147483647 → 0 ≤ x → Q (some (.inl (w_i x))) h) : ∀ (k : Nat) (num i : Int) (num_lo : -2147483648 ≤ num) (num_hi : num ≤ 2147483647) (i_lo : -2147483648 ≤ i) (i_hi : i ≤ 2147483647) (i0 : beg ≤ i) (i1 : i ≤ end_) (i2 : end_ - beg ≤ 4) (n9 : 0 ≤ num) (n0 : (i = beg ∧ num = 0) ∨ (i = beg + 1 ∧ num ≤ 9) ∨ (i = beg + 2 ∧ num ≤ 99) ∨ (i = beg + 3 ∧ num ≤ 999) ∨ (i = beg + 4 ∧ num ≤ 9999)), end_ - i < (k : Int) → wp d 126991 [.inr (.inl (some 18)), .inl (w_i beg), .inl (w_i end_), .inl (w_i num), .inl (w_i i)] [] h Q := by
  intro k
  induction k with
  | zero => intro num i num_lo num_hi i_lo i_hi i0 i1 i2 n9 n0 hk; exact absurd hk (by omega)
  | succ k ih =>
    intro num i num_lo num_hi i_lo i_hi i0 i1 i2 n9 n0 hk
    have W := iv_wc iv
    refine w_run k_126991 (w_il (fun _ => rfl) (w_il (fun _ => rfl) ?_))
    refine w_ge2 (by omega) (by omega) (by omega) (by omega)  (fun c1 => ?_) (fun c1 => ?_)
    · refine w_run k_127019 (w_icI (x := 32) rfl (w_il (fun _ => rfl) (w_op (c := w_i (32 + num)) (i_add 32 num) (w_ri ?_))))
      exact k0 (32 + num) (by omega) (by omega) (by omega)
    · have e_d := dg i (by omega) (by omega)
      refine w_il (fun _ => rfl) (w_icI (x := 10) rfl (w_op (c := w_i (num * 10)) (i_mul num 10) (w_al (fun _ => rfl) ?_)))
      obtain ⟨_, m2, siz2, atp2, tok2, flt2, wri2, rfl, l2_siz, u2_siz, l2_atp, u2_atp, l2_tok, u2_tok, l2_flt, u2_flt, l2_wri, u2_wri, f2_0, f2_1, f2_2, f2_3, f2_4, f2_5, f2_6⟩ := iv_18 iv
      refine w_getf m2 rfl (fun _ => rfl) (w_il (fun _ => rfl) (w_aldI ha (by omega) (by omega) (by omega) ?_))
      obtain ⟨b3, b4⟩ := ag_rg A i
      have e5 := hA i (by omega) (by omega)
      refine w_op (c := w_i ((num * 10) + (a_g A i))) (i_add (num * 10) (a_g A i)) (w_icI (x := 48) rfl (w_op (c := w_i (((num * 10) + (a_g A i)) - 48)) (i_sub ((num * 10) + (a_g A i)) 48) (w_is (fun _ => rfl) (w_inc (c := w_i (i + 1)) (fun _ => rfl) (i_addL (y := 1) rfl i) (fun _ => rfl) (w_go ?_)))))
      exact ih (((num * 10) + (a_g A i)) - 48) (i + 1) (by omega) (by omega) (by omega) (by omega)  (by omega) (by omega) (by omega) (by omega) (by omega) (by omega)
theorem k_126976 : m_cg 126976 = g_31_0 := rfl
theorem k_126986 : m_cg 126986 = g_31_10 := rfl
theorem c_numberOfR {g : w_G} {o : w_O} {h : m_H} {d : Nat} {Q : Option m_V → m_H → Prop} (iv : w_Inv g o h) {A : Nat} {beg : Int} {end_ : Int} (beg_lo : -2147483648 ≤ beg) (beg_hi : beg ≤ 2147483647) (end__lo : -2147483648 ≤ end_) (end__hi : end_ ≤ 2147483647) (ha : m_at h.2.2 19 = some (.inl (false, 160, A))) (hA : ∀ j : Int, 0 ≤ j → j < 160 → 0 ≤ a_g A j ∧ a_g A j ≤ 255) (b0 : 0 ≤ beg) (b1 : beg < end_) (e1 : end_ ≤ 160) (dg : ∀ j : Int, beg ≤ j → j < end_ → 48 ≤ a_g A j ∧ a_g A j ≤ 57) (k0 : ∀ (x : Int), -2147483648 ≤ x → x ≤ 2147483647 → 0 ≤ x → Q (some (.inl (w_i x))) h) : wp d 126976 [.inr (.inl (some 18)), .inl (w_i beg), .inl (w_i end_), .inr (.inr (.inl 0)), .inr (.inr (.inl 0))] [] h Q := by
  have W := iv_wc iv
  refine w_run k_126976 (w_il (fun _ => rfl) (w_il (fun _ => rfl) (w_op (c := w_i (end_ - beg)) (i_sub end_ beg) (w_icI (x := 4) rfl ?_))))
  refine w_le2 (by omega) (by omega) (by omega) (by omega)  (fun c1 => ?_) (fun c1 => ?_)
  · refine w_run k_126986 (w_icI (x := 0) rfl (w_is (fun _ => rfl) (w_il (fun _ => rfl) (w_is (fun _ => rfl) (w_nur k_126991 ?_)))))
    exact l_numberOfR_15 iv (A := A)   beg_lo beg_hi end__lo end__hi ha hA b0 b1 e1 dg    k0 (end_ - beg + 1 : Int).toNat 0 beg (by omega) (by omega) (by omega) (by omega)  (by omega) (by omega) (by omega) (by omega) (by omega) (by omega)
  · refine w_icI (x := 22) rfl (w_ri ?_)
    exact k0 22 (by omega) (by omega) (by omega)
theorem k_122880 : m_cg 122880 = g_30_0 := rfl
theorem k_122914 : m_cg 122914 = g_30_34 := rfl
theorem k_122915 : m_cg 122915 = g_30_35 := rfl
theorem k_122916 : m_cg 122916 = g_30_36 := rfl
theorem k_122946 : m_cg 122946 = g_30_66 := rfl
theorem k_122937 : m_cg 122937 = g_30_57 := rfl
theorem c_tokenOf {g : w_G} {o : w_O} {h : m_H} {d : Nat} {Q : Option m_V → m_H → Prop} (iv : w_Inv g o h) {A : Nat} {beg : Int} {end_ : Int} (beg_lo : -2147483648 ≤ beg) (beg_hi : beg ≤ 2147483647) (end__lo : -2147483648 ≤ end_) (end__hi : end_ ≤ 2147483647) (ha : m_at h.2.2 19 = some (.inl (false, 160, A))) (hA : ∀ j : Int, 0 ≤ j → j < 160 → 0 ≤ a_g A j ∧ a_g A j ≤ 255) (b0 : 0 ≤ beg) (b1 : beg < end_) (e1 : end_ ≤ 160) (dg : 48 ≤ a_g A beg → a_g A beg ≤ 57 → ∀ j : Int, beg ≤ j → j < end_ → 48 ≤ a_g A j ∧ a_g A j ≤ 57) (k0 : ∀ (x : Int), -2147483648 ≤ x → x ≤ 2147483647 → 0 ≤ x → Q (some (.inl (w_i x))) h) : wp (d + 2) 122880 [.inr (.inl (some 18)), .inl (w_i beg), .inl (w_i end_), .inr (.inr (.inl 0))] [] h Q := by
  have W := iv_wc iv
  refine w_run k_122880 (w_al (fun _ => rfl) ?_)
  obtain ⟨_, m1, siz1, atp1, tok1, flt1, wri1, rfl, l1_siz, u1_siz, l1_atp, u1_atp, l1_tok, u1_tok, l1_flt, u1_flt, l1_wri, u1_wri, f1_0, f1_1, f1_2, f1_3, f1_4, f1_5, f1_6⟩ := iv_18 iv
  refine w_getf m1 rfl (fun _ => rfl) (w_il (fun _ => rfl) (w_aldI ha (by omega) (by omega) (by omega) ?_))
  obtain ⟨b2, b3⟩ := ag_rg A beg
  have e4 := hA beg (by omega) (by omega)
  refine w_ca (fun _ => rfl) rfl (c_isLetter (d := (d + 1)) iv (n := (a_g A beg)) (by omega) (by omega)   (fun b5 b6 => ⟨_, rfl, ?_⟩) (fun b7 => ⟨_, rfl, ?_⟩))
  · refine w_eqzf (by omega) (by omega) (by omega)  (w_al (fun _ => rfl) (w_il (fun _ => rfl) (w_il (fun _ => rfl) (w_this (fun _ => rfl) m1 ?_))))
    refine w_ca (fun _ => rfl) rfl (c_keyOf (d := d) iv (beg := beg) (end_ := end_) (by omega) (by omega) (by omega) (by omega) (by omega) (by omega) (by omega)  (fun y8 b9 b10 b11 => ⟨_, rfl, ?_⟩))
    refine w_is (fun _ => rfl) (w_il (fun _ => rfl) (w_icI (x := 22) rfl ?_))
    refine w_ne2 (by omega) (by omega) (by omega) (by omega)  (fun c12 => ?_) (fun c12 => ?_)
    · refine w_run k_122914 (w_il (fun _ => rfl) (w_ri ?_))
      exact k0 y8 (by omega) (by omega) (by omega)
    · refine w_al (fun _ => rfl) (w_il (fun _ => rfl) (w_il (fun _ => rfl) (w_this (fun _ => rfl) m1 ?_)))
      refine w_ca (fun _ => rfl) rfl (c_nameOf (d := d) iv (beg := beg) (end_ := end_) (by omega) (by omega) (by omega) (by omega) (by omega) (by omega) (by omega)  (fun y13 b14 b15 b16 => ⟨_, rfl, ?_⟩))
      refine w_go (w_run k_122915 (w_ri ?_))
      exact k0 y13 (by omega) (by omega) (by omega)
  · refine w_eqzt (by omega) (by omega) (by omega)  (w_run k_122916 (w_al (fun _ => rfl) (w_getf m1 rfl (fun _ => rfl) (w_il (fun _ => rfl) (w_aldI ha (by omega) (by omega) (by omega) ?_)))))
    obtain ⟨b17, b18⟩ := ag_rg A beg
    have e19 := hA beg (by omega) (by omega)
    refine w_ca (fun _ => rfl) rfl (c_isDigit (d := (d + 1)) iv (n := (a_g A beg)) (by omega) (by omega)   (fun b20 b21 => ⟨_, rfl, ?_⟩) (fun b22 => ⟨_, rfl, ?_⟩))
    · refine w_eqzf (by omega) (by omega) (by omega)  (w_al (fun _ => rfl) (w_il (fun _ => rfl) (w_il (fun _ => rfl) (w_this (fun _ => rfl) m1 ?_))))
      refine w_ca (fun _ => rfl) rfl (c_numberOfR (d := (d + 1)) iv (beg := beg) (end_ := end_) (by omega) (by omega) (by omega) (by omega) ha hA (by omega) (by omega) (by omega) (dg (by omega) (by omega))  (fun y23 b24 b25 b26 => ⟨_, rfl, ?_⟩))
      refine w_go (w_run k_122946 (w_ri ?_))
      exact k0 y23 (by omega) (by omega) (by omega)
    · refine w_eqzt (by omega) (by omega) (by omega)  (w_run k_122937 (w_al (fun _ => rfl) (w_getf m1 rfl (fun _ => rfl) (w_il (fun _ => rfl) (w_aldI ha (by omega) (by omega) (by omega) ?_)))))
      obtain ⟨b27, b28⟩ := ag_rg A beg
      have e29 := hA beg (by omega) (by omega)
      refine w_ca (fun _ => rfl) rfl (c_signOf (d := (d + 1)) iv (n := (a_g A beg)) (by omega) (by omega)   (fun y30 b31 b32 b33 => ⟨_, rfl, ?_⟩))
      refine w_ri ?_
      exact k0 y30 (by omega) (by omega) (by omega)
theorem k_110608 : m_cg 110608 = g_27_16 := rfl
theorem k_110672 : m_cg 110672 = g_27_80 := rfl
theorem l_endOf_16 {g : w_G} {o : w_O} {h : m_H} {d : Nat} {Q : Option m_V → m_H → Prop} (iv : w_Inv g o h) {A : Nat} {beg : Int} (beg_lo : -2147483648 ≤ beg) (beg_hi : beg ≤ 2147483647) (ha : m_at h.2.2 19 = some (.inl (false, 160, A))) (hA : ∀ j : Int, 0 ≤ j → j < 160 → 0 ≤ a_g A j ∧ a_g A j ≤ 255) (b0 : 0 ≤ beg) (b1 : beg < 160) (k0 : ∀ (x : Int), -2147483648 ≤ x → x ≤ 2147483647 → beg + 1 ≤ x → x ≤ 160 → ((48 ≤ a_g A beg → a_g A beg ≤ 57 → ∀ j : Int, beg ≤ j → j < x → 48 ≤ a_g A j ∧ a_g A j ≤ 57)) → Q (some (.inl (w_i x))) h) : ∀ (k : Nat) (e : Int) (e_lo : -2147483648 ≤ e) (e_hi : e ≤ 2147483647) (e0 : beg + 1 ≤ e) (e1 : e ≤ 160) (le0 : 97 ≤ a_g A beg), 160 - e < (k : Int) → wp (d + 1) 110608 [.inr (.inl (some 18)), .inl (w_i beg), .inl (w_i e)] [] h Q := by
  intro k
  induction k with
  | zero => intro e e_lo e_hi e0 e1 le0 hk; exact absurd hk (by omega)
  | succ k ih =>
    intro e e_lo e_hi e0 e1 le0 hk
    have W := iv_wc iv
    refine w_run k_110608 (w_il (fun _ => rfl) (w_al (fun _ => rfl) ?_))
    obtain ⟨_, m1, siz1, atp1, tok1, flt1, wri1, rfl, l1_siz, u1_siz, l1_atp, u1_atp, l1_tok, u1_tok, l1_flt, u1_flt, l1_wri, u1_wri, f1_0, f1_1, f1_2, f1_3, f1_4, f1_5, f1_6⟩ := iv_18 iv
    refine w_getf m1 rfl (fun _ => rfl) ?_
    refine w_ge2 (by omega) (by omega) (by omega) (by omega)  (fun c2 => ?_) (fun c2 => ?_)
    · refine w_run k_110672 (w_il (fun _ => rfl) (w_ri ?_))
      exact k0 e (by omega) (by omega) (by omega) (by omega) (fun t0 t1 => by exfalso; omega)
    · refine w_al (fun _ => rfl) (w_getf m1 rfl (fun _ => rfl) (w_il (fun _ => rfl) (w_aldI ha (by omega) (by omega) (by omega) ?_)))
      obtain ⟨b3, b4⟩ := ag_rg A e
      have e5 := hA e (by omega) (by omega)
      refine w_ca (fun _ => rfl) rfl (c_isLetter (d := d) iv (n := (a_g A e)) (by omega) (by omega)   (fun b6 b7 => ⟨_, rfl, ?_⟩) (fun b8 => ⟨_, rfl, ?_⟩))
      · refine w_eqzf (by omega) (by omega) (by omega)  (w_inc (c := w_i (e + 1)) (fun _ => rfl) (i_addL (y := 1) rfl e) (fun _ => rfl) (w_go ?_))
        exact ih (e + 1) (by omega) (by omega)  (by omega) (by omega) (by omega) (by omega)
      · refine w_eqzt (by omega) (by omega) (by omega)  (w_run k_110672 (w_il (fun _ => rfl) (w_ri ?_)))
        exact k0 e (by omega) (by omega) (by omega) (by omega) (fun t0 t1 => by exfalso; omega)
theorem k_110646 : m_cg 110646 = g_27_54 := rfl
theorem l_endOf_54 {g : w_G} {o : w_O} {h : m_H} {d : Nat} {Q : Option m_V → m_H → Prop} (iv : w_Inv g o h) {A : Nat} {beg : Int} (beg_lo : -2147483648 ≤ beg) (beg_hi : beg ≤ 2147483647) (ha : m_at h.2.2 19 = some (.inl (false, 160, A))) (hA : ∀ j : Int, 0 ≤ j → j < 160 → 0 ≤ a_g A j ∧ a_g A j ≤ 255) (b0 : 0 ≤ beg) (b1 : beg < 160) (k0 : ∀ (x : Int), -2147483648 ≤ x → x ≤ 2147483647 → beg + 1 ≤ x → x ≤ 160 → ((48 ≤ a_g A beg → a_g A beg ≤ 57 → ∀ j : Int, beg ≤ j → j < x → 48 ≤ a_g A j ∧ a_g A j ≤ 57)) → Q (some (.inl (w_i x))) h) : ∀ (k : Nat) (e : Int) (e_lo : -2147483648 ≤ e) (e_hi : e ≤ 2147483647) (e0 : beg + 1 ≤ e) (e1 : e ≤ 160) (dg : ∀ j : Int, beg ≤ j → j < e → 48 ≤ a_g A j ∧ a_g A j ≤ 57), 160 - e < (k : Int) → wp (d + 1) 110646 [.inr (.inl (some 18)), .inl (w_i beg), .inl (w_i e)] [] h Q := by
  intro k
  induction k with
  | zero => intro e e_lo e_hi e0 e1 dg hk; exact absurd hk (by omega)
  | succ k ih =>
    intro e e_lo e_hi e0 e1 dg hk
    have W := iv_wc iv
    refine w_run k_110646 (w_il (fun _ => rfl) (w_al (fun _ => rfl) ?_))
    obtain ⟨_, m1, siz1, atp1, tok1, flt1, wri1, rfl, l1_siz, u1_siz, l1_atp, u1_atp, l1_tok, u1_tok, l1_flt, u1_flt, l1_wri, u1_wri, f1_0, f1_1, f1_2, f1_3, f1_4, f1_5, f1_6⟩ := iv_18 iv
    refine w_getf m1 rfl (fun _ => rfl) ?_
    refine w_ge2 (by omega) (by omega) (by omega) (by omega)  (fun c2 => ?_) (fun c2 => ?_)
    · refine w_run k_110672 (w_il (fun _ => rfl) (w_ri ?_))
      exact k0 e (by omega) (by omega) (by omega) (by omega) (fun _ _ => dg)
    · refine w_al (fun _ => rfl) (w_getf m1 rfl (fun _ => rfl) (w_il (fun _ => rfl) (w_aldI ha (by omega) (by omega) (by omega) ?_)))
      obtain ⟨b3, b4⟩ := ag_rg A e
      have e5 := hA e (by omega) (by omega)
      refine w_ca (fun _ => rfl) rfl (c_isDigit (d := d) iv (n := (a_g A e)) (by omega) (by omega)   (fun b6 b7 => ⟨_, rfl, ?_⟩) (fun b8 => ⟨_, rfl, ?_⟩))
      · refine w_eqzf (by omega) (by omega) (by omega)  (w_inc (c := w_i (e + 1)) (fun _ => rfl) (i_addL (y := 1) rfl e) (fun _ => rfl) (w_go ?_))
        exact ih (e + 1) (by omega) (by omega)  (by omega) (by omega) (fun j j0 j1 => if hj : j < e then dg j j0 hj else by obtain rfl : j = e := (by omega); omega) (by omega)
      · refine w_eqzt (by omega) (by omega) (by omega)  (w_run k_110672 (w_il (fun _ => rfl) (w_ri ?_)))
        exact k0 e (by omega) (by omega) (by omega) (by omega) (fun _ _ => dg)
theorem k_110592 : m_cg 110592 = g_27_0 := rfl
theorem k_110634 : m_cg 110634 = g_27_42 := rfl
theorem c_endOf {g : w_G} {o : w_O} {h : m_H} {d : Nat} {Q : Option m_V → m_H → Prop} (iv : w_Inv g o h) {A : Nat} {beg : Int} (beg_lo : -2147483648 ≤ beg) (beg_hi : beg ≤ 2147483647) (ha : m_at h.2.2 19 = some (.inl (false, 160, A))) (hA : ∀ j : Int, 0 ≤ j → j < 160 → 0 ≤ a_g A j ∧ a_g A j ≤ 255) (b0 : 0 ≤ beg) (b1 : beg < 160) (k0 : ∀ (x : Int), -2147483648 ≤ x → x ≤ 2147483647 → beg + 1 ≤ x → x ≤ 160 → ((48 ≤ a_g A beg → a_g A beg ≤ 57 → ∀ j : Int, beg ≤ j → j < x → 48 ≤ a_g A j ∧ a_g A j ≤ 57)) → Q (some (.inl (w_i x))) h) : wp (d + 1) 110592 [.inr (.inl (some 18)), .inl (w_i beg), .inr (.inr (.inl 0))] [] h Q := by
  have W := iv_wc iv
  refine w_run k_110592 (w_il (fun _ => rfl) (w_icI (x := 1) rfl (w_op (c := w_i (beg + 1)) (i_add beg 1) (w_is (fun _ => rfl) (w_al (fun _ => rfl) ?_)))))
  obtain ⟨_, m1, siz1, atp1, tok1, flt1, wri1, rfl, l1_siz, u1_siz, l1_atp, u1_atp, l1_tok, u1_tok, l1_flt, u1_flt, l1_wri, u1_wri, f1_0, f1_1, f1_2, f1_3, f1_4, f1_5, f1_6⟩ := iv_18 iv
  refine w_getf m1 rfl (fun _ => rfl) (w_il (fun _ => rfl) (w_aldI ha (by omega) (by omega) (by omega) ?_))
  obtain ⟨b2, b3⟩ := ag_rg A beg
  have e4 := hA beg (by omega) (by omega)
  refine w_ca (fun _ => rfl) rfl (c_isLetter (d := d) iv (n := (a_g A beg)) (by omega) (by omega)   (fun b5 b6 => ⟨_, rfl, ?_⟩) (fun b7 => ⟨_, rfl, ?_⟩))
  · refine w_eqzf (by omega) (by omega) (by omega)  (w_nur k_110608 ?_)
    exact l_endOf_16 iv (A := A)   beg_lo beg_hi ha hA b0 b1    k0 (160 - (beg + 1) + 1 : Int).toNat (beg + 1) (by omega) (by omega)  (by omega) (by omega) (by omega) (by omega)
  · refine w_eqzt (by omega) (by omega) (by omega)  (w_run k_110634 (w_al (fun _ => rfl) (w_getf m1 rfl (fun _ => rfl) (w_il (fun _ => rfl) (w_aldI ha (by omega) (by omega) (by omega) ?_)))))
    obtain ⟨b8, b9⟩ := ag_rg A beg
    have e10 := hA beg (by omega) (by omega)
    refine w_ca (fun _ => rfl) rfl (c_isDigit (d := d) iv (n := (a_g A beg)) (by omega) (by omega)   (fun b11 b12 => ⟨_, rfl, ?_⟩) (fun b13 => ⟨_, rfl, ?_⟩))
    · refine w_eqzf (by omega) (by omega) (by omega)  (w_nur k_110646 ?_)
      exact l_endOf_54 iv (A := A)   beg_lo beg_hi ha hA b0 b1    k0 (160 - (beg + 1) + 1 : Int).toNat (beg + 1) (by omega) (by omega)  (by omega) (by omega) (fun j j0 j1 => by obtain rfl : j = beg := (by omega); omega) (by omega)
    · refine w_eqzt (by omega) (by omega) (by omega)  (w_run k_110672 (w_il (fun _ => rfl) (w_ri ?_)))
      exact k0 (beg + 1) (by omega) (by omega) (by omega) (by omega) (fun t0 t1 => by exfalso; omega)
theorem k_57344 : m_cg 57344 = g_14_0 := rfl
theorem c_empty {g : w_G} {o : w_O} {h : m_H} {d : Nat} {Q : Option m_V → m_H → Prop} (iv : w_Inv g o h) {b : Int} (wr : w_wr g o h b) (k0 : ∀ h2 : m_H, w_Inv g o h2 → w_fr o [18] h h2 → w_wr g o h2 b → Q none h2) : wp d 57344 [.inr (.inl (some 18))] [] h Q := by
  have F := fr_rf (o := o) (h := h) (W := [18])
  have W := iv_wc iv
  obtain ⟨siz0, atp0, tok0, flt0, wri0, p18, q1, q2, q3, q4, q5, q6, q7, q8, q9, q10, q11⟩ := (id wr)
  refine w_run k_57344 (w_al (fun _ => rfl) (w_icI (x := 0) rfl (w_putf [.inr (.inl (some 19)), .inl (w_i 0), .inr (.inl (some 20)), .inr (.inl (some 21)), .inl (w_i atp0), .inl (w_i tok0), .inl (w_i flt0), .inr (.inl (some 22)), .inl (w_i wri0)] p18 rfl rfl rfl (fun _ => rfl) (fun h2 s1 => ?_))))
  have iv3 := is_18 iv s1 ⟨_, _, _, _, _, rfl, by omega, by omega, by omega, by omega, by omega, by omega, by omega, by omega, by omega, by omega, by omega, by omega, by omega, by omega, by omega, by omega, by omega⟩
  have F4 := fr_st F s1 (by rw [(ow_18 iv)]; rfl)
  refine w_rv ?_
  exact k0 h2 iv3 F4 ⟨0, atp0, tok0, flt0, wri0, s1.2.2.1, by omega, by omega, by omega, by omega, by omega, by omega, by omega, by omega, by omega, by omega, by omega⟩
theorem k_73728 : m_cg 73728 = g_18_0 := rfl
theorem k_73770 : m_cg 73770 = g_18_42 := rfl
theorem c_advance {g : w_G} {o : w_O} {h : m_H} {d : Nat} {Q : Option m_V → m_H → Prop} (iv : w_Inv g o h) {b : Int} (wr : w_wr g o h b) (k0 : ∀ h2 : m_H, w_Inv g o h2 → w_fr o [18] h h2 → w_wr g o h2 b → Q none h2) : wp d 73728 [.inr (.inl (some 18))] [] h Q := by
  have F := fr_rf (o := o) (h := h) (W := [18])
  have W := iv_wc iv
  obtain ⟨siz0, atp0, tok0, flt0, wri0, p18, q1, q2, q3, q4, q5, q6, q7, q8, q9, q10, q11⟩ := (id wr)
  refine w_run k_73728 (w_al (fun _ => rfl) (w_getf p18 rfl (fun _ => rfl) (w_icI (x := 160) rfl ?_)))
  refine w_ge2 (by omega) (by omega) (by omega) (by omega)  (fun c1 => ?_) (fun c1 => ?_)
  · refine w_run k_73770 (w_rv ?_)
    exact k0 h iv F wr
  · refine w_al (fun _ => rfl) (w_getf p18 rfl (fun _ => rfl) (w_icI (x := 21) rfl ?_))
    refine w_eq2 (by omega) (by omega) (by omega) (by omega)  (fun c2 => ?_) (fun c2 => ?_)
    · refine w_run k_73770 (w_rv ?_)
      exact k0 h iv F wr
    · refine w_al (fun _ => rfl) (w_dup (fun _ => rfl) (w_getf p18 rfl (fun _ => rfl) (w_icI (x := 1) rfl (w_op (c := w_i (atp0 + 1)) (i_add atp0 1) (w_putf [.inr (.inl (some 19)), .inl (w_i siz0), .inr (.inl (some 20)), .inr (.inl (some 21)), .inl (w_i (atp0 + 1)), .inl (w_i tok0), .inl (w_i flt0), .inr (.inl (some 22)), .inl (w_i wri0)] p18 rfl rfl rfl (fun _ => rfl) (fun h4 s3 => ?_))))))
      have iv5 := is_18 iv s3 ⟨_, _, _, _, _, rfl, by omega, by omega, by omega, by omega, by omega, by omega, by omega, by omega, by omega, by omega, by omega, by omega, by omega, by omega, by omega, by omega, by omega⟩
      have F6 := fr_st F s3 (by rw [(ow_18 iv)]; rfl)
      refine w_al (fun _ => rfl) (w_al (fun _ => rfl) (w_getf s3.2.2.1 rfl (fun _ => rfl) (w_al (fun _ => rfl) (w_getf s3.2.2.1 rfl (fun _ => rfl) ?_))))
      obtain ⟨_, m7, A7, rfl, e7⟩ := iv_20 iv5
      refine w_aldI m7 (by omega) (by omega) (by omega) ?_
      obtain ⟨b8, b9⟩ := ag_rg A7 (atp0 + 1)
      have e10 := e7 (atp0 + 1) (by omega) (by omega)
      refine w_putf [.inr (.inl (some 19)), .inl (w_i siz0), .inr (.inl (some 20)), .inr (.inl (some 21)), .inl (w_i (atp0 + 1)), .inl (w_i (a_g A7 (atp0 + 1))), .inl (w_i flt0), .inr (.inl (some 22)), .inl (w_i wri0)] s3.2.2.1 rfl rfl rfl (fun _ => rfl) (fun h12 s11 => ?_)
      have iv13 := is_18 iv5 s11 ⟨_, _, _, _, _, rfl, by omega, by omega, by omega, by omega, by omega, by omega, by omega, by omega, by omega, by omega, by omega, by omega, by omega, by omega, by omega, by omega, by omega⟩
      have F14 := fr_st F6 s11 (by rw [(ow_18 iv5)]; rfl)
      refine w_rv ?_
      exact k0 h12 iv13 F14 ⟨siz0, (atp0 + 1), (a_g A7 (atp0 + 1)), flt0, wri0, s11.2.2.1, by omega, by omega, by omega, by omega, by omega, by omega, by omega, by omega, by omega, by omega, by omega⟩
theorem k_77824 : m_cg 77824 = g_19_0 := rfl
theorem k_77845 : m_cg 77845 = g_19_21 := rfl
theorem c_fail {g : w_G} {o : w_O} {h : m_H} {d : Nat} {Q : Option m_V → m_H → Prop} (iv : w_Inv g o h) {b : Int} (wr : w_wr g o h b) (k0 : ∀ h2 : m_H, w_Inv g o h2 → w_fr o [18] h h2 → w_wr g o h2 b → Q none h2) : wp d 77824 [.inr (.inl (some 18))] [] h Q := by
  have F := fr_rf (o := o) (h := h) (W := [18])
  have W := iv_wc iv
  obtain ⟨siz0, atp0, tok0, flt0, wri0, p18, q1, q2, q3, q4, q5, q6, q7, q8, q9, q10, q11⟩ := (id wr)
  refine w_run k_77824 (w_al (fun _ => rfl) (w_getf p18 rfl (fun _ => rfl) (w_icI (x := (-1)) wn_1 ?_)))
  refine w_ne2 (by omega) (by omega) (by omega) (by omega)  (fun c1 => ?_) (fun c1 => ?_)
  · refine w_run k_77845 (w_al (fun _ => rfl) (w_icI (x := 22) rfl (w_putf [.inr (.inl (some 19)), .inl (w_i siz0), .inr (.inl (some 20)), .inr (.inl (some 21)), .inl (w_i atp0), .inl (w_i 22), .inl (w_i flt0), .inr (.inl (some 22)), .inl (w_i wri0)] p18 rfl rfl rfl (fun _ => rfl) (fun h3 s2 => ?_))))
    have iv4 := is_18 iv s2 ⟨_, _, _, _, _, rfl, by omega, by omega, by omega, by omega, by omega, by omega, by omega, by omega, by omega, by omega, by omega, by omega, by omega, by omega, by omega, by omega, by omega⟩
    have F5 := fr_st F s2 (by rw [(ow_18 iv)]; rfl)
    refine w_rv ?_
    exact k0 h3 iv4 F5 ⟨siz0, atp0, 22, flt0, wri0, s2.2.2.1, by omega, by omega, by omega, by omega, by omega, by omega, by omega, by omega, by omega, by omega, by omega⟩
  · refine w_al (fun _ => rfl) (w_al (fun _ => rfl) (w_getf p18 rfl (fun _ => rfl) (w_al (fun _ => rfl) (w_getf p18 rfl (fun _ => rfl) ?_))))
    obtain ⟨_, m6, A6, rfl⟩ := iv_21 iv
    refine w_aldI m6 (by omega) (by omega) (by omega) ?_
    obtain ⟨b7, b8⟩ := ag_rg A6 atp0
    refine w_putf [.inr (.inl (some 19)), .inl (w_i siz0), .inr (.inl (some 20)), .inr (.inl (some 21)), .inl (w_i atp0), .inl (w_i tok0), .inl (w_i (a_g A6 atp0)), .inr (.inl (some 22)), .inl (w_i wri0)] p18 rfl rfl rfl (fun _ => rfl) (fun h10 s9 => ?_)
    have iv11 := is_18 iv s9 ⟨_, _, _, _, _, rfl, by omega, by omega, by omega, by omega, by omega, by omega, by omega, by omega, by omega, by omega, by omega, by omega, by omega, by omega, by omega, by omega, by omega⟩
    have F12 := fr_st F s9 (by rw [(ow_18 iv)]; rfl)
    refine w_al (fun _ => rfl) (w_icI (x := 22) rfl (w_putf [.inr (.inl (some 19)), .inl (w_i siz0), .inr (.inl (some 20)), .inr (.inl (some 21)), .inl (w_i atp0), .inl (w_i 22), .inl (w_i (a_g A6 atp0)), .inr (.inl (some 22)), .inl (w_i wri0)] s9.2.2.1 rfl rfl rfl (fun _ => rfl) (fun h14 s13 => ?_)))
    have iv15 := is_18 iv11 s13 ⟨_, _, _, _, _, rfl, by omega, by omega, by omega, by omega, by omega, by omega, by omega, by omega, by omega, by omega, by omega, by omega, by omega, by omega, by omega, by omega, by omega⟩
    have F16 := fr_st F12 s13 (by rw [(ow_18 iv11)]; rfl)
    refine w_rv ?_
    exact k0 h14 iv15 F16 ⟨siz0, atp0, 22, (a_g A6 atp0), wri0, s13.2.2.1, by omega, by omega, by omega, by omega, by omega, by omega, by omega, by omega, by omega, by omega, by omega⟩
theorem k_81920 : m_cg 81920 = g_20_0 := rfl
theorem k_81950 : m_cg 81950 = g_20_30 := rfl
theorem c_write {g : w_G} {o : w_O} {h : m_H} {d : Nat} {Q : Option m_V → m_H → Prop} (iv : w_Inv g o h) {b : Int} {wo : Int} (wo_lo : -2147483648 ≤ wo) (wo_hi : wo ≤ 2147483647) (w0 : 0 ≤ wo) (wr : w_wr g o h b) (k0 : ∀ h2 : m_H, w_Inv g o h2 → w_fr o [18, 22] h h2 → w_wr g o h2 b → Q none h2) : wp d 81920 [.inr (.inl (some 18)), .inl (w_i wo)] [] h Q := by
  have F := fr_rf (o := o) (h := h) (W := [18, 22])
  have W := iv_wc iv
  obtain ⟨siz0, atp0, tok0, flt0, wri0, p18, q1, q2, q3, q4, q5, q6, q7, q8, q9, q10, q11⟩ := (id wr)
  refine w_run k_81920 (w_al (fun _ => rfl) (w_getf p18 rfl (fun _ => rfl) (w_icI (x := 160) rfl ?_)))
  refine w_ge2 (by omega) (by omega) (by omega) (by omega)  (fun c1 => ?_) (fun c1 => ?_)
  · refine w_run k_81950 (w_rv ?_)
    exact k0 h iv F wr
  · refine w_al (fun _ => rfl) (w_getf p18 rfl (fun _ => rfl) (w_al (fun _ => rfl) (w_getf p18 rfl (fun _ => rfl) (w_il (fun _ => rfl) ?_))))
    obtain ⟨_, m2, A2, rfl, e2⟩ := iv_22 iv
    refine w_astI m2 (by omega) (by omega) (by omega) (by omega) (by omega) (fun A6 h4 w7 s3 => ?_)
    have e8 : ∀ j : Int, 0 ≤ j → j < 160 → 0 ≤ a_g A6 j := fun j j0 j1 => by
      rw [w7 j j0 j1]
      by_cases hj : j = wri0
      · rw [if_pos hj]; omega
      · rw [if_neg hj]; exact e2 j j0 j1
    have iv5 := is_22 iv s3 ⟨_, rfl, e8⟩
    have F9 := fr_st F s3 (by rw [(ow_22 iv)]; rfl)
    refine w_al (fun _ => rfl) (w_dup (fun _ => rfl) ?_)
    have m10 := st_fr s3 p18 (by decide)
    refine w_getf m10 rfl (fun _ => rfl) (w_icI (x := 1) rfl (w_op (c := w_i (wri0 + 1)) (i_add wri0 1) (w_putf [.inr (.inl (some 19)), .inl (w_i siz0), .inr (.inl (some 20)), .inr (.inl (some 21)), .inl (w_i atp0), .inl (w_i tok0), .inl (w_i flt0), .inr (.inl (some 22)), .inl (w_i (wri0 + 1))] m10 rfl rfl rfl (fun _ => rfl) (fun h12 s11 => ?_))))
    have iv13 := is_18 iv5 s11 ⟨_, _, _, _, _, rfl, by omega, by omega, by omega, by omega, by omega, by omega, by omega, by omega, by omega, by omega, by omega, by omega, by omega, by omega, by omega, by omega, by omega⟩
    have F14 := fr_st F9 s11 (by rw [(ow_18 iv5)]; rfl)
    refine w_rv ?_
    exact k0 h12 iv13 F14 ⟨siz0, atp0, tok0, flt0, (wri0 + 1), s11.2.2.1, by omega, by omega, by omega, by omega, by omega, by omega, by omega, by omega, by omega, by omega, by omega⟩
theorem k_69632 : m_cg 69632 = g_17_0 := rfl
theorem k_69647 : m_cg 69647 = g_17_15 := rfl
theorem k_69651 : m_cg 69651 = g_17_19 := rfl
theorem c_expect {g : w_G} {o : w_O} {h : m_H} {d : Nat} {Q : Option m_V → m_H → Prop} (iv : w_Inv g o h) {b : Int} {wa : Int} (wa_lo : -2147483648 ≤ wa) (wa_hi : wa ≤ 2147483647) (wr : w_wr g o h b) (k0 : ∀ h2 : m_H, w_Inv g o h2 → w_fr o [18] h h2 → w_wr g o h2 b → Q none h2) : wp (d + 1) 69632 [.inr (.inl (some 18)), .inl (w_i wa)] [] h Q := by
  have F := fr_rf (o := o) (h := h) (W := [18])
  have W := iv_wc iv
  obtain ⟨siz0, atp0, tok0, flt0, wri0, p18, q1, q2, q3, q4, q5, q6, q7, q8, q9, q10, q11⟩ := (id wr)
  refine w_run k_69632 (w_al (fun _ => rfl) (w_getf p18 rfl (fun _ => rfl) (w_il (fun _ => rfl) ?_)))
  refine w_ne2 (by omega) (by omega) (by omega) (by omega)  (fun c1 => ?_) (fun c1 => ?_)
  · refine w_run k_69647 (w_al (fun _ => rfl) (w_this (fun _ => rfl) p18 ?_))
    refine w_cv (fun _ => rfl) rfl (c_fail (d := d) iv    wr (fun h2 iv3 F4 b5 => ⟨rfl, ?_⟩))
    have F6 := fr_ca F F4 (fun t ht => by exact ht)
    refine w_rv ?_
    exact k0 h2 iv3 F6 b5
  · refine w_al (fun _ => rfl) (w_this (fun _ => rfl) p18 ?_)
    refine w_cv (fun _ => rfl) rfl (c_advance (d := d) iv    wr (fun h7 iv8 F9 b10 => ⟨rfl, ?_⟩))
    have F11 := fr_ca F F9 (fun t ht => by exact ht)
    refine w_go (w_run k_69651 (w_rv ?_))
    exact k0 h7 iv8 F11 b10
theorem k_90112 : m_cg 90112 = g_22_0 := rfl
theorem k_90144 : m_cg 90144 = g_22_32 := rfl
theorem k_90157 : m_cg 90157 = g_22_45 := rfl
theorem k_90158 : m_cg 90158 = g_22_46 := rfl
theorem k_90159 : m_cg 90159 = g_22_47 := rfl
theorem k_90172 : m_cg 90172 = g_22_60 := rfl
theorem k_90173 : m_cg 90173 = g_22_61 := rfl
theorem k_90198 : m_cg 90198 = g_22_86 := rfl
theorem k_90211 : m_cg 90211 = g_22_99 := rfl
theorem k_90212 : m_cg 90212 = g_22_100 := rfl
theorem k_90174 : m_cg 90174 = g_22_62 := rfl
theorem k_90192 : m_cg 90192 = g_22_80 := rfl
theorem k_90197 : m_cg 90197 = g_22_85 := rfl
theorem k_90196 : m_cg 90196 = g_22_84 := rfl
theorem c_joins {g : w_G} {o : w_O} {h : m_H} {d : Nat} {Q : Option m_V → m_H → Prop} (iv : w_Inv g o h) {lev : Int} (lev_lo : -2147483648 ≤ lev) (lev_hi : lev ≤ 2147483647) (k0 : Q (some (.inl (w_i 1))) h) (k1 : Q (some (.inl (w_i 0))) h) : wp d 90112 [.inr (.inl (some 18)), .inl (w_i lev)] [] h Q := by
  have W := iv_wc iv
  refine w_run k_90112 (w_il (fun _ => rfl) ?_)
  by_cases c1 : lev = 0
  · rw [show (lev : Int) = 0 from c1]
    refine w_tsw (t := 90144) (fun _ => rfl) (w_run k_90144 (w_al (fun _ => rfl) ?_))
    obtain ⟨_, m2, siz2, atp2, tok2, flt2, wri2, rfl, l2_siz, u2_siz, l2_atp, u2_atp, l2_tok, u2_tok, l2_flt, u2_flt, l2_wri, u2_wri, f2_0, f2_1, f2_2, f2_3, f2_4, f2_5, f2_6⟩ := iv_18 iv
    refine w_getf m2 rfl (fun _ => rfl) (w_icI (x := 6) rfl ?_)
    refine w_ne2 (by omega) (by omega) (by omega) (by omega)  (fun c3 => ?_) (fun c3 => ?_)
    · refine w_run k_90157 (w_icI (x := 0) rfl (w_rz (by decide) ?_))
      exact k1 
    · refine w_icI (x := 1) rfl (w_go (w_run k_90158 (w_rz (by decide) ?_)))
      exact k0 
  by_cases c4 : lev = 1
  · rw [show (lev : Int) = 1 from c4]
    refine w_tsw (t := 90159) (fun _ => rfl) (w_run k_90159 (w_al (fun _ => rfl) ?_))
    obtain ⟨_, m5, siz5, atp5, tok5, flt5, wri5, rfl, l5_siz, u5_siz, l5_atp, u5_atp, l5_tok, u5_tok, l5_flt, u5_flt, l5_wri, u5_wri, f5_0, f5_1, f5_2, f5_3, f5_4, f5_5, f5_6⟩ := iv_18 iv
    refine w_getf m5 rfl (fun _ => rfl) (w_icI (x := 7) rfl ?_)
    refine w_ne2 (by omega) (by omega) (by omega) (by omega)  (fun c6 => ?_) (fun c6 => ?_)
    · refine w_run k_90172 (w_icI (x := 0) rfl (w_rz (by decide) ?_))
      exact k1 
    · refine w_icI (x := 1) rfl (w_go (w_run k_90173 (w_rz (by decide) ?_)))
      exact k0 
  by_cases c7 : lev = 2
  · rw [show (lev : Int) = 2 from c7]
    refine w_tsw (t := 90198) (fun _ => rfl) (w_run k_90198 (w_al (fun _ => rfl) ?_))
    obtain ⟨_, m8, siz8, atp8, tok8, flt8, wri8, rfl, l8_siz, u8_siz, l8_atp, u8_atp, l8_tok, u8_tok, l8_flt, u8_flt, l8_wri, u8_wri, f8_0, f8_1, f8_2, f8_3, f8_4, f8_5, f8_6⟩ := iv_18 iv
    refine w_getf m8 rfl (fun _ => rfl) (w_icI (x := 13) rfl ?_)
    refine w_ne2 (by omega) (by omega) (by omega) (by omega)  (fun c9 => ?_) (fun c9 => ?_)
    · refine w_run k_90211 (w_icI (x := 0) rfl (w_rz (by decide) ?_))
      exact k1 
    · refine w_icI (x := 1) rfl (w_go (w_run k_90212 (w_rz (by decide) ?_)))
      exact k0 
  by_cases c10 : lev = 3
  · rw [show (lev : Int) = 3 from c10]
    refine w_tsw (t := 90174) (fun _ => rfl) (w_run k_90174 (w_al (fun _ => rfl) ?_))
    obtain ⟨_, m11, siz11, atp11, tok11, flt11, wri11, rfl, l11_siz, u11_siz, l11_atp, u11_atp, l11_tok, u11_tok, l11_flt, u11_flt, l11_wri, u11_wri, f11_0, f11_1, f11_2, f11_3, f11_4, f11_5, f11_6⟩ := iv_18 iv
    refine w_getf m11 rfl (fun _ => rfl) (w_icI (x := 11) rfl ?_)
    refine w_eq2 (by omega) (by omega) (by omega) (by omega)  (fun c12 => ?_) (fun c12 => ?_)
    · refine w_run k_90192 (w_icI (x := 1) rfl (w_go (w_run k_90197 (w_rz (by decide) ?_))))
      exact k0 
    · refine w_al (fun _ => rfl) (w_getf m11 rfl (fun _ => rfl) (w_icI (x := 12) rfl ?_))
      refine w_ne2 (by omega) (by omega) (by omega) (by omega)  (fun c13 => ?_) (fun c13 => ?_)
      · refine w_run k_90196 (w_icI (x := 0) rfl (w_rz (by decide) ?_))
        exact k1 
      · refine w_icI (x := 1) rfl (w_go (w_run k_90197 (w_rz (by decide) ?_)))
        exact k0 
  refine w_tswD (by omega) (by omega) (by show _ ∨ ((4 : Nat) : Int) ≤ _; omega) (by decide) (w_run k_90198 (w_al (fun _ => rfl) ?_))
  obtain ⟨_, m14, siz14, atp14, tok14, flt14, wri14, rfl, l14_siz, u14_siz, l14_atp, u14_atp, l14_tok, u14_tok, l14_flt, u14_flt, l14_wri, u14_wri, f14_0, f14_1, f14_2, f14_3, f14_4, f14_5, f14_6⟩ := iv_18 iv
  refine w_getf m14 rfl (fun _ => rfl) (w_icI (x := 13) rfl ?_)
  refine w_ne2 (by omega) (by omega) (by omega) (by omega)  (fun c15 => ?_) (fun c15 => ?_)
  · refine w_run k_90211 (w_icI (x := 0) rfl (w_rz (by decide) ?_))
    exact k1 
  · refine w_icI (x := 1) rfl (w_go (w_run k_90212 (w_rz (by decide) ?_)))
    exact k0 
theorem k_102400 : m_cg 102400 = g_25_0 := rfl
theorem k_102411 : m_cg 102411 = g_25_11 := rfl
theorem c_opens {g : w_G} {o : w_O} {h : m_H} {d : Nat} {Q : Option m_V → m_H → Prop} (iv : w_Inv g o h) {b : Int} {opn : Int} (opn_lo : -2147483648 ≤ opn) (opn_hi : opn ≤ 2147483647) (wr : w_wr g o h b) (k0 : ∀ h2 : m_H, w_Inv g o h2 → w_fr o [18] h h2 → opn < 5 → w_wr g o h2 b → Q (some (.inl (w_i 1))) h2) (k1 : ∀ h2 : m_H, w_Inv g o h2 → w_fr o [18] h h2 → w_wr g o h2 b → Q (some (.inl (w_i 0))) h2) : wp (d + 1) 102400 [.inr (.inl (some 18)), .inl (w_i opn)] [] h Q := by
  have F := fr_rf (o := o) (h := h) (W := [18])
  have W := iv_wc iv
  obtain ⟨siz0, atp0, tok0, flt0, wri0, p18, q1, q2, q3, q4, q5, q6, q7, q8, q9, q10, q11⟩ := (id wr)
  refine w_run k_102400 (w_il (fun _ => rfl) (w_icI (x := 5) rfl ?_))
  refine w_lt2 (by omega) (by omega) (by omega) (by omega)  (fun c1 => ?_) (fun c1 => ?_)
  · refine w_run k_102411 (w_al (fun _ => rfl) (w_this (fun _ => rfl) p18 ?_))
    refine w_cv (fun _ => rfl) rfl (c_advance (d := d) iv    wr (fun h2 iv3 F4 b5 => ⟨rfl, ?_⟩))
    have F6 := fr_ca F F4 (fun t ht => by exact ht)
    refine w_icI (x := 1) rfl (w_rz (by decide) ?_)
    exact k0 h2 iv3 F6 (by omega) b5
  · refine w_al (fun _ => rfl) (w_this (fun _ => rfl) p18 ?_)
    refine w_cv (fun _ => rfl) rfl (c_fail (d := d) iv    wr (fun h7 iv8 F9 b10 => ⟨rfl, ?_⟩))
    have F11 := fr_ca F F9 (fun t ht => by exact ht)
    refine w_icI (x := 0) rfl (w_rz (by decide) ?_)
    exact k1 h7 iv8 F11 b10
theorem k_106502 : m_cg 106502 = g_26_6 := rfl
theorem k_106571 : m_cg 106571 = g_26_75 := rfl
theorem k_106565 : m_cg 106565 = g_26_69 := rfl
theorem l_splitTape_6 {g : w_G} {o : w_O} {h0 : m_H} {d : Nat} {Q : Option m_V → m_H → Prop} (k0 : ∀ h2 : m_H, w_Inv g o h2 → w_fr o [20, 21] h0 h2 → Q none h2) : ∀ (k : Nat) (h : m_H) (cnt beh i : Int) (iv : w_Inv g o h) (F : w_fr o [20, 21] h0 h) (cnt_lo : -2147483648 ≤ cnt) (cnt_hi : cnt ≤ 2147483647) (beh_lo : -2147483648 ≤ beh) (beh_hi : beh ≤ 2147483647) (i_lo : -2147483648 ≤ i) (i_hi : i ≤ 2147483647) (c0 : 0 ≤ cnt) (c1 : cnt ≤ i) (i1 : i ≤ 160), 160 - i < (k : Int) → wp (d + 3) 106502 [.inr (.inl (some 18)), .inl (w_i cnt), .inl (w_i beh), .inl (w_i i)] [] h Q := by
  intro k
  induction k with
  | zero => intro h cnt beh i iv F cnt_lo cnt_hi beh_lo beh_hi i_lo i_hi c0 c1 i1 hk; exact absurd hk (by omega)
  | succ k ih =>
    intro h cnt beh i iv F cnt_lo cnt_hi beh_lo beh_hi i_lo i_hi c0 c1 i1 hk
    have W := iv_wc iv
    refine w_run k_106502 (w_il (fun _ => rfl) (w_al (fun _ => rfl) ?_))
    obtain ⟨_, m1, siz1, atp1, tok1, flt1, wri1, rfl, l1_siz, u1_siz, l1_atp, u1_atp, l1_tok, u1_tok, l1_flt, u1_flt, l1_wri, u1_wri, f1_0, f1_1, f1_2, f1_3, f1_4, f1_5, f1_6⟩ := iv_18 iv
    refine w_getf m1 rfl (fun _ => rfl) ?_
    refine w_ge2 (by omega) (by omega) (by omega) (by omega)  (fun c2 => ?_) (fun c2 => ?_)
    · refine w_run k_106571 (w_al (fun _ => rfl) (w_getf m1 rfl (fun _ => rfl) (w_il (fun _ => rfl) (w_al (fun _ => rfl) (w_getf m1 rfl (fun _ => rfl) ?_)))))
      obtain ⟨_, m3, A3, rfl⟩ := iv_21 iv
      refine w_astI m3 (by omega) (by omega) (by omega) (by omega) (by omega) (fun A7 h5 w8 s4 => ?_)
      have iv6 := is_21 iv s4 ⟨_, rfl⟩
      have F9 := fr_st F s4 (by rw [(ow_21 iv)]; rfl)
      refine w_al (fun _ => rfl) ?_
      have m10 := st_fr s4 m1 (by decide)
      refine w_getf m10 rfl (fun _ => rfl) (w_il (fun _ => rfl) (w_icI (x := 21) rfl ?_))
      obtain ⟨_, m11, A11, rfl, e11⟩ := iv_20 iv6
      refine w_astI m11 (by omega) (by omega) (by omega) (by omega) (by omega) (fun A15 h13 w16 s12 => ?_)
      have e17 : ∀ j : Int, 0 ≤ j → j < 161 → 0 ≤ a_g A15 j := fun j j0 j1 => by
        rw [w16 j j0 j1]
        by_cases hj : j = cnt
        · rw [if_pos hj]; omega
        · rw [if_neg hj]; exact e11 j j0 j1
      have iv14 := is_20 iv6 s12 ⟨_, rfl, e17⟩
      have F18 := fr_st F9 s12 (by rw [(ow_20 iv6)]; rfl)
      refine w_rv ?_
      exact k0 h13 iv14 F18
    · refine w_il (fun _ => rfl) (w_il (fun _ => rfl) ?_)
      refine w_lt2 (by omega) (by omega) (by omega) (by omega)  (fun c19 => ?_) (fun c19 => ?_)
      · refine w_run k_106565 (w_inc (c := w_i (i + 1)) (fun _ => rfl) (i_addL (y := 1) rfl i) (fun _ => rfl) (w_go ?_))
        exact ih h cnt beh (i + 1) iv F (by omega) (by omega) (by omega) (by omega) (by omega) (by omega)  (by omega) (by omega) (by omega) (by omega)
      · refine w_al (fun _ => rfl) (w_getf m1 rfl (fun _ => rfl) (w_il (fun _ => rfl) ?_))
        obtain ⟨_, m20, A20, rfl, e20⟩ := iv_19 iv
        refine w_aldI m20 (by omega) (by omega) (by omega) ?_
        obtain ⟨b21, b22⟩ := ag_rg A20 i
        have e23 := e20 i (by omega) (by omega)
        refine w_icI (x := 32) rfl ?_
        refine w_eq2 (by omega) (by omega) (by omega) (by omega)  (fun c24 => ?_) (fun c24 => ?_)
        · refine w_run k_106565 (w_inc (c := w_i (i + 1)) (fun _ => rfl) (i_addL (y := 1) rfl i) (fun _ => rfl) (w_go ?_))
          exact ih h cnt beh (i + 1) iv F (by omega) (by omega) (by omega) (by omega) (by omega) (by omega)  (by omega) (by omega) (by omega) (by omega)
        · refine w_al (fun _ => rfl) (w_getf m1 rfl (fun _ => rfl) (w_il (fun _ => rfl) (w_aldI m20 (by omega) (by omega) (by omega) ?_)))
          obtain ⟨b25, b26⟩ := ag_rg A20 i
          have e27 := e20 i (by omega) (by omega)
          refine w_icI (x := 10) rfl ?_
          refine w_eq2 (by omega) (by omega) (by omega) (by omega)  (fun c28 => ?_) (fun c28 => ?_)
          · refine w_run k_106565 (w_inc (c := w_i (i + 1)) (fun _ => rfl) (i_addL (y := 1) rfl i) (fun _ => rfl) (w_go ?_))
            exact ih h cnt beh (i + 1) iv F (by omega) (by omega) (by omega) (by omega) (by omega) (by omega)  (by omega) (by omega) (by omega) (by omega)
          · refine w_al (fun _ => rfl) (w_il (fun _ => rfl) (w_this (fun _ => rfl) m1 ?_))
            refine w_ca (fun _ => rfl) rfl (c_endOf (d := (d + 1)) iv (beg := i) (by omega) (by omega) m20 e20 (by omega) (by omega)  (fun y29 b30 b31 b32 b33 b34 => ⟨_, rfl, ?_⟩))
            refine w_is (fun _ => rfl) (w_al (fun _ => rfl) (w_getf m1 rfl (fun _ => rfl) (w_il (fun _ => rfl) (w_il (fun _ => rfl) ?_))))
            obtain ⟨_, m35, A35, rfl⟩ := iv_21 iv
            refine w_astI m35 (by omega) (by omega) (by omega) (by omega) (by omega) (fun A39 h37 w40 s36 => ?_)
            have iv38 := is_21 iv s36 ⟨_, rfl⟩
            have F41 := fr_st F s36 (by rw [(ow_21 iv)]; rfl)
            refine w_al (fun _ => rfl) ?_
            have m42 := st_fr s36 m1 (by decide)
            refine w_getf m42 rfl (fun _ => rfl) (w_il (fun _ => rfl) (w_al (fun _ => rfl) (w_il (fun _ => rfl) (w_il (fun _ => rfl) (w_this (fun _ => rfl) m42 ?_)))))
            have m43 := st_fr s36 m20 (by decide)
            refine w_ca (fun _ => rfl) rfl (c_tokenOf (d := d) iv38 (beg := i) (end_ := y29) (by omega) (by omega) (by omega) (by omega) m43 e20 (by omega) (by omega) (by omega) b34  (fun y44 b45 b46 b47 => ⟨_, rfl, ?_⟩))
            obtain ⟨_, m48, A48, rfl, e48⟩ := iv_20 iv38
            refine w_astI m48 (by omega) (by omega) (by omega) (by omega) (by omega) (fun A52 h50 w53 s49 => ?_)
            have e54 : ∀ j : Int, 0 ≤ j → j < 161 → 0 ≤ a_g A52 j := fun j j0 j1 => by
              rw [w53 j j0 j1]
              by_cases hj : j = cnt
              · rw [if_pos hj]; omega
              · rw [if_neg hj]; exact e48 j j0 j1
            have iv51 := is_20 iv38 s49 ⟨_, rfl, e54⟩
            have F55 := fr_st F41 s49 (by rw [(ow_20 iv38)]; rfl)
            refine w_inc (c := w_i (cnt + 1)) (fun _ => rfl) (i_addL (y := 1) rfl cnt) (fun _ => rfl) (w_inc (c := w_i (i + 1)) (fun _ => rfl) (i_addL (y := 1) rfl i) (fun _ => rfl) (w_go ?_))
            exact ih h50 (cnt + 1) y29 (i + 1) iv51 F55 (by omega) (by omega) (by omega) (by omega) (by omega) (by omega)  (by omega) (by omega) (by omega) (by omega)
theorem k_106496 : m_cg 106496 = g_26_0 := rfl
theorem c_splitTape {g : w_G} {o : w_O} {h : m_H} {d : Nat} {Q : Option m_V → m_H → Prop} (iv : w_Inv g o h) (k0 : ∀ h2 : m_H, w_Inv g o h2 → w_fr o [20, 21] h h2 → Q none h2) : wp (d + 3) 106496 [.inr (.inl (some 18)), .inr (.inr (.inl 0)), .inr (.inr (.inl 0)), .inr (.inr (.inl 0))] [] h Q := by
  have F := fr_rf (o := o) (h := h) (W := [20, 21])
  have W := iv_wc iv
  refine w_run k_106496 (w_icI (x := 0) rfl (w_is (fun _ => rfl) (w_icI (x := 0) rfl (w_is (fun _ => rfl) (w_icI (x := 0) rfl (w_is (fun _ => rfl) (w_nur k_106502 ?_)))))))
  exact l_splitTape_6          k0 (160 - 0 + 1 : Int).toNat h 0 0 0 iv F (by omega) (by omega) (by omega) (by omega) (by omega) (by omega)  (by omega) (by omega) (by omega) (by omega)
