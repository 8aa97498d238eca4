theorem iv_mN {g : w_G} {o : w_O} {h : m_H} (iv : w_Inv g o h) : g_mN g = w_pw (g_mC g) (g_mH g) := iv.2.1.2.2.2.2.2.2.2.2.2.2.2.2.2.2.2.2.2.2.1
theorem pw_bd5 {c n : Int} (h0 : 0 ≤ n) (h1 : n ≤ 5) (c0 : 2 ≤ c) (c1 : c ≤ 5) : w_pw c n ≤ 3125 := by
  have hn : n = 0 ∨ n = 1 ∨ n = 2 ∨ n = 3 ∨ n = 4 ∨ n = 5 := by omega
  have hc : c = 2 ∨ c = 3 ∨ c = 4 ∨ c = 5 := by omega
  rcases hn with rfl | rfl | rfl | rfl | rfl | rfl <;> rcases hc with rfl | rfl | rfl | rfl <;> decide
theorem k_729088 : m_cg 729088 = g_178_0 := rfl
theorem k_729124 : m_cg 729124 = g_178_36 := rfl
theorem k_729126 : m_cg 729126 = g_178_38 := rfl
theorem k_729129 : m_cg 729129 = g_178_41 := rfl
theorem k_729139 : m_cg 729139 = g_178_51 := rfl
theorem k_729144 : m_cg 729144 = g_178_56 := rfl
theorem k_729153 : m_cg 729153 = g_178_65 := rfl
theorem c_mNamed {g : w_G} {o : w_O} {h : m_H} {d : Nat} {Q : Option m_V → m_H → Prop} (iv : w_Inv g o h) {na : Int} {ho : Int} {fr : Int} {t : Int} (na_lo : -2147483648 ≤ na) (na_hi : na ≤ 2147483647) (ho_lo : -2147483648 ≤ ho) (ho_hi : ho ≤ 2147483647) (fr_lo : -2147483648 ≤ fr) (fr_hi : fr ≤ 2147483647) (t_lo : -2147483648 ≤ t) (t_hi : t ≤ 2147483647) (h0_ : 0 ≤ ho) (h1_ : ho < 6) (k0 : ∀ (x : Int), -2147483648 ≤ x → x ≤ 2147483647 → Q (some (.inl (w_i x))) h) : wp (d + 1) 729088 [.inr (.inl (some 31)), .inl (w_i na), .inl (w_i ho), .inl (w_i fr), .inl (w_i t)] [] h Q := by
  have W := iv_wm iv
  refine w_run k_729088 (w_il (fun _ => rfl) ?_)
  by_cases c1 : na = 0
  · rw [show (na : Int) = 0 from c1]
    refine w_tsw (t := 729124) (fun _ => rfl) (w_run k_729124 (w_il (fun _ => rfl) (w_ri ?_)))
    exact k0 fr (by omega) (by omega)
  by_cases c2 : na = 1
  · rw [show (na : Int) = 1 from c2]
    refine w_tsw (t := 729126) (fun _ => rfl) (w_run k_729126 (w_il (fun _ => rfl) (w_ri ?_)))
    exact k0 t (by omega) (by omega)
  by_cases c3 : na = 2
  · rw [show (na : Int) = 2 from c3]
    refine w_tsw (t := 729129) (fun _ => rfl) (w_run k_729129 (w_al (fun _ => rfl) ?_))
    obtain ⟨_, m4, spr4, kee4, rul4, tpd4, nxt4, tok4, tka4, val4, opn4, hm4, row4, ksp4, kke4, kru4, rfl, l4_spr, u4_spr, l4_kee, u4_kee, l4_rul, u4_rul, l4_tpd, u4_tpd, l4_nxt, u4_nxt, l4_tok, u4_tok, l4_tka, u4_tka, l4_val, u4_val, l4_opn, u4_opn, l4_hm, u4_hm, l4_row, u4_row, l4_ksp, u4_ksp, l4_kke, u4_kke, l4_kru, u4_kru, f4_0, f4_1, f4_2, f4_3, f4_4, f4_5, f4_6, f4_7, f4_8, f4_9⟩ := iv_31 iv
    refine w_getf m4 rfl (fun _ => rfl) (w_il (fun _ => rfl) ?_)
    obtain ⟨_, m5, A5, rfl, e5⟩ := iv_32 iv
    refine w_aldI m5 (by omega) (by omega) (by omega) ?_
    obtain ⟨b6, b7⟩ := ag_rg A5 ho
    have e8 := e5 ho (by omega) (by omega)
    refine w_ca (fun _ => rfl) rfl (c_mBits (d := d) iv (n := (a_g A5 ho)) (by omega) (by omega)   (fun y9 b10 b11 => ⟨_, rfl, ?_⟩))
    refine w_ri ?_
    exact k0 y9 (by omega) (by omega)
  by_cases c12 : na = 3
  · rw [show (na : Int) = 3 from c12]
    refine w_tsw (t := 729139) (fun _ => rfl) (w_run k_729139 (w_al (fun _ => rfl) ?_))
    obtain ⟨_, m13, spr13, kee13, rul13, tpd13, nxt13, tok13, tka13, val13, opn13, hm13, row13, ksp13, kke13, kru13, rfl, l13_spr, u13_spr, l13_kee, u13_kee, l13_rul, u13_rul, l13_tpd, u13_tpd, l13_nxt, u13_nxt, l13_tok, u13_tok, l13_tka, u13_tka, l13_val, u13_val, l13_opn, u13_opn, l13_hm, u13_hm, l13_row, u13_row, l13_ksp, u13_ksp, l13_kke, u13_kke, l13_kru, u13_kru, f13_0, f13_1, f13_2, f13_3, f13_4, f13_5, f13_6, f13_7, f13_8, f13_9⟩ := iv_31 iv
    refine w_getf m13 rfl (fun _ => rfl) (w_ri ?_)
    exact k0 spr13 (by omega) (by omega)
  by_cases c14 : na = 4
  · rw [show (na : Int) = 4 from c14]
    refine w_tsw (t := 729144) (fun _ => rfl) (w_run k_729144 (w_al (fun _ => rfl) ?_))
    obtain ⟨_, m15, spr15, kee15, rul15, tpd15, nxt15, tok15, tka15, val15, opn15, hm15, row15, ksp15, kke15, kru15, rfl, l15_spr, u15_spr, l15_kee, u15_kee, l15_rul, u15_rul, l15_tpd, u15_tpd, l15_nxt, u15_nxt, l15_tok, u15_tok, l15_tka, u15_tka, l15_val, u15_val, l15_opn, u15_opn, l15_hm, u15_hm, l15_row, u15_row, l15_ksp, u15_ksp, l15_kke, u15_kke, l15_kru, u15_kru, f15_0, f15_1, f15_2, f15_3, f15_4, f15_5, f15_6, f15_7, f15_8, f15_9⟩ := iv_31 iv
    refine w_getf m15 rfl (fun _ => rfl) (w_il (fun _ => rfl) (w_opR shr_lt (fun x16 x160 x161 x16e => ?_)))
    refine w_icI (x := 1) rfl (w_op01 and_1 (fun x17 x170 x171 x17e => ?_))
    refine w_ri ?_
    exact k0 x17 (by omega) (by omega)
  refine w_tswD (by omega) (by omega) (by show _ ∨ ((5 : Nat) : Int) ≤ _; omega) (by decide) (w_run k_729153 (w_il (fun _ => rfl) (w_ri ?_)))
  exact k0 ho (by omega) (by omega)
theorem k_733184 : m_cg 733184 = g_179_0 := rfl
theorem k_733224 : m_cg 733224 = g_179_40 := rfl
theorem k_733228 : m_cg 733228 = g_179_44 := rfl
theorem k_733232 : m_cg 733232 = g_179_48 := rfl
theorem k_733236 : m_cg 733236 = g_179_52 := rfl
theorem k_733245 : m_cg 733245 = g_179_61 := rfl
theorem k_733246 : m_cg 733246 = g_179_62 := rfl
theorem k_733247 : m_cg 733247 = g_179_63 := rfl
theorem k_733256 : m_cg 733256 = g_179_72 := rfl
theorem k_733257 : m_cg 733257 = g_179_73 := rfl
theorem k_733258 : m_cg 733258 = g_179_74 := rfl
theorem k_733270 : m_cg 733270 = g_179_86 := rfl
theorem k_733271 : m_cg 733271 = g_179_87 := rfl
theorem k_733272 : m_cg 733272 = g_179_88 := rfl
theorem k_733280 : m_cg 733280 = g_179_96 := rfl
theorem k_733285 : m_cg 733285 = g_179_101 := rfl
theorem k_733284 : m_cg 733284 = g_179_100 := rfl
theorem c_mDone {g : w_G} {o : w_O} {h : m_H} {d : Nat} {Q : Option m_V → m_H → Prop} (iv : w_Inv g o h) {de : Int} {a : Int} {b : Int} (de_lo : -2147483648 ≤ de) (de_hi : de ≤ 2147483647) (a_lo : -2147483648 ≤ a) (a_hi : a ≤ 2147483647) (b_lo : -2147483648 ≤ b) (b_hi : b ≤ 2147483647) (k0 : ∀ (x : Int), -2147483648 ≤ x → x ≤ 2147483647 → Q (some (.inl (w_i x))) h) : wp d 733184 [.inl (w_i de), .inl (w_i a), .inl (w_i b)] [] h Q := by
  have W := iv_wm iv
  refine w_run k_733184 (w_il (fun _ => rfl) ?_)
  by_cases c1 : de = 1
  · rw [show (de : Int) = 1 from c1]
    refine w_tsw (t := 733224) (fun _ => rfl) (w_run k_733224 (w_il (fun _ => rfl) (w_il (fun _ => rfl) (w_opR add_lt (fun x2 x20 x21 x2e => ?_)))))
    refine w_ri ?_
    exact k0 x2 (by omega) (by omega)
  by_cases c3 : de = 2
  · rw [show (de : Int) = 2 from c3]
    refine w_tsw (t := 733228) (fun _ => rfl) (w_run k_733228 (w_il (fun _ => rfl) (w_il (fun _ => rfl) (w_opR sub_lt (fun x4 x40 x41 x4e => ?_)))))
    refine w_ri ?_
    exact k0 x4 (by omega) (by omega)
  by_cases c5 : de = 3
  · rw [show (de : Int) = 3 from c5]
    refine w_tsw (t := 733232) (fun _ => rfl) (w_run k_733232 (w_il (fun _ => rfl) (w_il (fun _ => rfl) (w_opR mul_lt (fun x6 x60 x61 x6e => ?_)))))
    refine w_ri ?_
    exact k0 x6 (by omega) (by omega)
  by_cases c7 : de = 4
  · rw [show (de : Int) = 4 from c7]
    refine w_tsw (t := 733236) (fun _ => rfl) (w_run k_733236 (w_il (fun _ => rfl) (w_il (fun _ => rfl) ?_)))
    refine w_ge2 (by omega) (by omega) (by omega) (by omega)  (fun c8 => ?_) (fun c8 => ?_)
    · refine w_run k_733245 (w_icI (x := 0) rfl (w_ri ?_))
      exact k0 0 (by omega) (by omega)
    · refine w_icI (x := 1) rfl (w_go (w_run k_733246 (w_ri ?_)))
      exact k0 1 (by omega) (by omega)
  by_cases c9 : de = 5
  · rw [show (de : Int) = 5 from c9]
    refine w_tsw (t := 733247) (fun _ => rfl) (w_run k_733247 (w_il (fun _ => rfl) (w_il (fun _ => rfl) ?_)))
    refine w_ne2 (by omega) (by omega) (by omega) (by omega)  (fun c10 => ?_) (fun c10 => ?_)
    · refine w_run k_733256 (w_icI (x := 0) rfl (w_ri ?_))
      exact k0 0 (by omega) (by omega)
    · refine w_icI (x := 1) rfl (w_go (w_run k_733257 (w_ri ?_)))
      exact k0 1 (by omega) (by omega)
  by_cases c11 : de = 6
  · rw [show (de : Int) = 6 from c11]
    refine w_tsw (t := 733258) (fun _ => rfl) (w_run k_733258 (w_il (fun _ => rfl) ?_))
    refine w_eqz2 (by omega) (by omega)  (fun c12 => ?_) (fun c12 => ?_)
    · refine w_run k_733270 (w_icI (x := 0) rfl (w_ri ?_))
      exact k0 0 (by omega) (by omega)
    · refine w_il (fun _ => rfl) ?_
      refine w_eqz2 (by omega) (by omega)  (fun c13 => ?_) (fun c13 => ?_)
      · refine w_run k_733270 (w_icI (x := 0) rfl (w_ri ?_))
        exact k0 0 (by omega) (by omega)
      · refine w_icI (x := 1) rfl (w_go (w_run k_733271 (w_ri ?_)))
        exact k0 1 (by omega) (by omega)
  refine w_tswL (by omega) (by omega) (by show _ < ((1 : Nat) : Int) ∨ ((7 : Nat) : Int) ≤ _; omega) (by decide) (w_run k_733272 (w_il (fun _ => rfl) ?_))
  refine w_nez2 (by omega) (by omega)  (fun c14 => ?_) (fun c14 => ?_)
  · refine w_run k_733280 (w_icI (x := 1) rfl (w_go (w_run k_733285 (w_ri ?_))))
    exact k0 1 (by omega) (by omega)
  · refine w_il (fun _ => rfl) ?_
    refine w_eqz2 (by omega) (by omega)  (fun c15 => ?_) (fun c15 => ?_)
    · refine w_run k_733284 (w_icI (x := 0) rfl (w_ri ?_))
      exact k0 0 (by omega) (by omega)
    · refine w_icI (x := 1) rfl (w_go (w_run k_733285 (w_ri ?_)))
      exact k0 1 (by omega) (by omega)
theorem k_741376 : m_cg 741376 = g_181_0 := rfl
theorem k_741384 : m_cg 741384 = g_181_8 := rfl
theorem k_741393 : m_cg 741393 = g_181_17 := rfl
theorem k_741394 : m_cg 741394 = g_181_18 := rfl
theorem c_mBounded {g : w_G} {o : w_O} {h : m_H} {d : Nat} {Q : Option m_V → m_H → Prop} (iv : w_Inv g o h) {n : Int} {mo : Int} (n_lo : -2147483648 ≤ n) (n_hi : n ≤ 2147483647) (mo_lo : -2147483648 ≤ mo) (mo_hi : mo ≤ 2147483647) (m0 : 0 ≤ mo) (k0 : ∀ (x : Int), -2147483648 ≤ x → x ≤ 2147483647 → 0 ≤ x → x ≤ mo → Q (some (.inl (w_i x))) h) : wp d 741376 [.inl (w_i n), .inl (w_i mo)] [] h Q := by
  have W := iv_wm iv
  refine w_run k_741376 (w_il (fun _ => rfl) ?_)
  refine w_gez2 (by omega) (by omega)  (fun c1 => ?_) (fun c1 => ?_)
  · refine w_run k_741384 (w_il (fun _ => rfl) (w_il (fun _ => rfl) ?_))
    refine w_le2 (by omega) (by omega) (by omega) (by omega)  (fun c2 => ?_) (fun c2 => ?_)
    · refine w_run k_741393 (w_il (fun _ => rfl) (w_ri ?_))
      exact k0 n (by omega) (by omega) (by omega) (by omega)
    · refine w_il (fun _ => rfl) (w_go (w_run k_741394 (w_ri ?_)))
      exact k0 mo (by omega) (by omega) (by omega) (by omega)
  · refine w_icI (x := 0) rfl (w_go (w_run k_741394 (w_ri ?_)))
    exact k0 0 (by omega) (by omega) (by omega) (by omega)
theorem k_589828 : m_cg 589828 = g_144_4 := rfl
theorem k_589843 : m_cg 589843 = g_144_19 := rfl
theorem l_mTowns_4 {g : w_G} {o : w_O} {h : m_H} {d : Nat} {Q : Option m_V → m_H → Prop} (iv : w_Inv g o h) {ho : Int} {co : Int} (ho_lo : -2147483648 ≤ ho) (ho_hi : ho ≤ 2147483647) (co_lo : -2147483648 ≤ co) (co_hi : co ≤ 2147483647) (h0_ : 1 ≤ ho) (h1_ : ho ≤ 6) (c0_ : 2 ≤ co) (c1_ : co ≤ 5) (k0 : ∀ (x : Int), -2147483648 ≤ x → x ≤ 2147483647 → x = w_pw co ho → 1 ≤ x → x ≤ 15625 → Q (some (.inl (w_i x))) h) : ∀ (k : Nat) (num i : Int) (num_lo : -2147483648 ≤ num) (num_hi : num ≤ 2147483647) (i_lo : -2147483648 ≤ i) (i_hi : i ≤ 2147483647) (i0 : 0 ≤ i) (i1 : i ≤ ho) (n0 : 1 ≤ num) (n2 : num ≤ 15625) (n1 : num = w_pw co i), ho - i < (k : Int) → wp d 589828 [.inl (w_i ho), .inl (w_i co), .inl (w_i num), .inl (w_i i)] [] h Q := by
  intro k
  induction k with
  | zero => intro num i num_lo num_hi i_lo i_hi i0 i1 n0 n2 n1 hk; exact absurd hk (by omega)
  | succ k ih =>
    intro num i num_lo num_hi i_lo i_hi i0 i1 n0 n2 n1 hk
    have W := iv_wm iv
    refine w_run k_589828 (w_il (fun _ => rfl) (w_il (fun _ => rfl) ?_))
    refine w_ge2 (by omega) (by omega) (by omega) (by omega)  (fun c1 => ?_) (fun c1 => ?_)
    · refine w_run k_589843 (w_il (fun _ => rfl) (w_ri ?_))
      exact k0 num (by omega) (by omega) (by have e : i = ho := (by omega); rw [e] at n1; exact n1) (by omega) (by omega)
    · refine w_il (fun _ => rfl) (w_il (fun _ => rfl) ?_)
      have hP := pw_bd5 (c := co) (n := i) (by omega) (by omega) (by omega) (by omega)
      rw [← n1] at hP
      have hm := mul_rg (a := num) (b := co) (x := 3125) (y := 5) (by omega) (by omega) (by omega) (by omega)
      have hq := Int.mul_pos (show 0 < num by omega) (show 0 < co by omega)
      refine w_op (c := w_i (num * co)) (i_mul num co) (w_is (fun _ => rfl) (w_inc (c := w_i (i + 1)) (fun _ => rfl) (i_addL (y := 1) rfl i) (fun _ => rfl) (w_go ?_)))
      exact ih (num * co) (i + 1) (by omega) (by omega) (by omega) (by omega)  (by omega) (by omega) (by omega) (by omega) (by rw [pw_s (by omega), ← n1]) (by omega)
theorem k_589824 : m_cg 589824 = g_144_0 := rfl
theorem c_mTowns {g : w_G} {o : w_O} {h : m_H} {d : Nat} {Q : Option m_V → m_H → Prop} (iv : w_Inv g o h) {ho : Int} {co : Int} (ho_lo : -2147483648 ≤ ho) (ho_hi : ho ≤ 2147483647) (co_lo : -2147483648 ≤ co) (co_hi : co ≤ 2147483647) (h0_ : 1 ≤ ho) (h1_ : ho ≤ 6) (c0_ : 2 ≤ co) (c1_ : co ≤ 5) (k0 : ∀ (x : Int), -2147483648 ≤ x → x ≤ 2147483647 → x = w_pw co ho → 1 ≤ x → x ≤ 15625 → Q (some (.inl (w_i x))) h) : wp d 589824 [.inl (w_i ho), .inl (w_i co), .inr (.inr (.inl 0)), .inr (.inr (.inl 0))] [] h Q := by
  have W := iv_wm iv
  refine w_run k_589824 (w_icI (x := 1) rfl (w_is (fun _ => rfl) (w_icI (x := 0) rfl (w_is (fun _ => rfl) (w_nur k_589828 ?_)))))
  exact l_mTowns_4 iv    ho_lo ho_hi co_lo co_hi h0_ h1_ c0_ c1_    k0 (ho - 0 + 1 : Int).toNat 1 0 (by omega) (by omega) (by omega) (by omega)  (by omega) (by omega) (by omega) (by omega) (pw_00.symm) (by omega)
theorem k_598016 : m_cg 598016 = g_146_0 := rfl
theorem k_598039 : m_cg 598039 = g_146_23 := rfl
theorem k_598040 : m_cg 598040 = g_146_24 := rfl
theorem c_mIsTown {g : w_G} {o : w_O} {h : m_H} {d : Nat} {Q : Option m_V → m_H → Prop} (iv : w_Inv g o h) {n : Int} (n_lo : -2147483648 ≤ n) (n_hi : n ≤ 2147483647) (k0 : 0 ≤ n → n < g_mN g → Q (some (.inl (w_i 1))) h) (k1 : (n < 0 ∨ g_mN g ≤ n) → Q (some (.inl (w_i 0))) h) : wp (d + 1) 598016 [.inr (.inl (some 31)), .inl (w_i n)] [] h Q := by
  have W := iv_wm iv
  have hN := iv_mN iv
  refine w_run k_598016 (w_il (fun _ => rfl) ?_)
  refine w_ltz2 (by omega) (by omega)  (fun c1 => ?_) (fun c1 => ?_)
  · refine w_run k_598039 (w_icI (x := 0) rfl (w_rz (by decide) ?_))
    exact k1 (by omega)
  · refine w_il (fun _ => rfl) (w_al (fun _ => rfl) ?_)
    obtain ⟨_, m2, spr2, kee2, rul2, tpd2, nxt2, tok2, tka2, val2, opn2, hm2, row2, ksp2, kke2, kru2, rfl, l2_spr, u2_spr, l2_kee, u2_kee, l2_rul, u2_rul, l2_tpd, u2_tpd, l2_nxt, u2_nxt, l2_tok, u2_tok, l2_tka, u2_tka, l2_val, u2_val, l2_opn, u2_opn, l2_hm, u2_hm, l2_row, u2_row, l2_ksp, u2_ksp, l2_kke, u2_kke, l2_kru, u2_kru, f2_0, f2_1, f2_2, f2_3, f2_4, f2_5, f2_6, f2_7, f2_8, f2_9⟩ := iv_31 iv
    refine w_getf m2 rfl (fun _ => rfl) (w_al (fun _ => rfl) (w_getf m2 rfl (fun _ => rfl) ?_))
    refine w_ca (fun _ => rfl) rfl (c_mTowns (d := d) iv (ho := g_mH g) (co := g_mC g) (by omega) (by omega) (by omega) (by omega) (by omega) (by omega) (by omega) (by omega)  (fun y3 b4 b5 b6 b7 b8 => ⟨_, rfl, ?_⟩))
    refine w_ge2 (by omega) (by omega) (by omega) (by omega)  (fun c9 => ?_) (fun c9 => ?_)
    · refine w_run k_598039 (w_icI (x := 0) rfl (w_rz (by decide) ?_))
      exact k1 (by omega)
    · refine w_icI (x := 1) rfl (w_go (w_run k_598040 (w_rz (by decide) ?_)))
      exact k0 (by omega) (by omega)
theorem k_593929 : m_cg 593929 = g_145_9 := rfl
theorem k_593953 : m_cg 593953 = g_145_33 := rfl
theorem l_mTownNow_9 {g : w_G} {o : w_O} {h : m_H} {d : Nat} {Q : Option m_V → m_H → Prop} (iv : w_Inv g o h) (k0 : ∀ (x : Int), -2147483648 ≤ x → x ≤ 2147483647 → 0 ≤ x → x < g_mN g → Q (some (.inl (w_i x))) h) : ∀ (k : Nat) (num i : Int) (num_lo : -2147483648 ≤ num) (num_hi : num ≤ 2147483647) (i_lo : -2147483648 ≤ i) (i_hi : i ≤ 2147483647) (i0 : -1 ≤ i) (i1 : i ≤ g_mH g - 1) (n0 : 0 ≤ num) (n1 : num < w_pw (g_mC g) (g_mH g - 1 - i)), i + 1 < (k : Int) → wp d 593929 [.inr (.inl (some 31)), .inl (w_i num), .inl (w_i i)] [] h Q := by
  intro k
  induction k with
  | zero => intro num i num_lo num_hi i_lo i_hi i0 i1 n0 n1 hk; exact absurd hk (by omega)
  | succ k ih =>
    intro num i num_lo num_hi i_lo i_hi i0 i1 n0 n1 hk
    have W := iv_wm iv
    refine w_run k_593929 (w_il (fun _ => rfl) ?_)
    refine w_ltz2 (by omega) (by omega)  (fun c1 => ?_) (fun c1 => ?_)
    · refine w_run k_593953 (w_il (fun _ => rfl) (w_ri ?_))
      exact k0 num (by omega) (by omega) (by omega) (by have e : g_mH g - 1 - i = g_mH g := (by omega); rw [e, ← iv_mN iv] at n1; exact n1)
    · refine w_il (fun _ => rfl) (w_al (fun _ => rfl) ?_)
      obtain ⟨_, m2, spr2, kee2, rul2, tpd2, nxt2, tok2, tka2, val2, opn2, hm2, row2, ksp2, kke2, kru2, rfl, l2_spr, u2_spr, l2_kee, u2_kee, l2_rul, u2_rul, l2_tpd, u2_tpd, l2_nxt, u2_nxt, l2_tok, u2_tok, l2_tka, u2_tka, l2_val, u2_val, l2_opn, u2_opn, l2_hm, u2_hm, l2_row, u2_row, l2_ksp, u2_ksp, l2_kke, u2_kke, l2_kru, u2_kru, f2_0, f2_1, f2_2, f2_3, f2_4, f2_5, f2_6, f2_7, f2_8, f2_9⟩ := iv_31 iv
      refine w_getf m2 rfl (fun _ => rfl) ?_
      have hP := pw_le (c := g_mC g) (m := g_mH g - 1 - i) (n := g_mH g) (by omega) (by omega) (by omega)
      rw [← iv_mN iv] at hP
      have hm := mul_rg (a := num) (b := g_mC g) (x := 4096) (y := 5) (by omega) (by omega) (by omega) (by omega)
      refine w_op (c := w_i (num * g_mC g)) (i_mul num (g_mC g)) (w_al (fun _ => rfl) (w_getf m2 rfl (fun _ => rfl) (w_il (fun _ => rfl) ?_)))
      obtain ⟨_, m3, A3, rfl, e3⟩ := iv_33 iv
      refine w_aldI m3 (by omega) (by omega) (by omega) ?_
      obtain ⟨b4, b5⟩ := ag_rg A3 i
      have e6 := e3 i (by omega) (by omega)
      refine w_op (c := w_i ((num * g_mC g) + (a_g A3 i))) (i_add (num * g_mC g) (a_g A3 i)) (w_is (fun _ => rfl) (w_inc (c := w_i (i + (-1))) (fun _ => rfl) (i_addL (y := (-1)) wn_1 i) (fun _ => rfl) (w_go ?_)))
      exact ih ((num * g_mC g) + (a_g A3 i)) (i + (-1)) (by omega) (by omega) (by omega) (by omega)  (by omega) (by omega) (by omega) (by rw [show g_mH g - 1 - (i + (-1)) = (g_mH g - 1 - i) + 1 from by omega]; exact pw_dig (by omega) n1 (by omega) (by omega) (by omega)) (by omega)
theorem k_593920 : m_cg 593920 = g_145_0 := rfl
theorem c_mTownNow {g : w_G} {o : w_O} {h : m_H} {d : Nat} {Q : Option m_V → m_H → Prop} (iv : w_Inv g o h) (k0 : ∀ (x : Int), -2147483648 ≤ x → x ≤ 2147483647 → 0 ≤ x → x < g_mN g → Q (some (.inl (w_i x))) h) : wp d 593920 [.inr (.inl (some 31)), .inr (.inr (.inl 0)), .inr (.inr (.inl 0))] [] h Q := by
  have W := iv_wm iv
  refine w_run k_593920 (w_icI (x := 0) rfl (w_is (fun _ => rfl) (w_al (fun _ => rfl) ?_)))
  obtain ⟨_, m1, spr1, kee1, rul1, tpd1, nxt1, tok1, tka1, val1, opn1, hm1, row1, ksp1, kke1, kru1, rfl, l1_spr, u1_spr, l1_kee, u1_kee, l1_rul, u1_rul, l1_tpd, u1_tpd, l1_nxt, u1_nxt, l1_tok, u1_tok, l1_tka, u1_tka, l1_val, u1_val, l1_opn, u1_opn, l1_hm, u1_hm, l1_row, u1_row, l1_ksp, u1_ksp, l1_kke, u1_kke, l1_kru, u1_kru, f1_0, f1_1, f1_2, f1_3, f1_4, f1_5, f1_6, f1_7, f1_8, f1_9⟩ := iv_31 iv
  refine w_getf m1 rfl (fun _ => rfl) (w_icI (x := 1) rfl (w_op (c := w_i (g_mH g - 1)) (i_sub (g_mH g) 1) (w_is (fun _ => rfl) (w_nur k_593929 ?_))))
  exact l_mTownNow_9 iv         k0 ((g_mH g - 1) + 1 + 1 : Int).toNat 0 (g_mH g - 1) (by omega) (by omega) (by omega) (by omega)  (by omega) (by omega) (by omega) (by rw [show g_mH g - 1 - (g_mH g - 1) = 0 from by omega]; exact pw_0) (by omega)
