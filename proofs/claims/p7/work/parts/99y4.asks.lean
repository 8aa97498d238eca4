/-! WHAT ASKS ANSWERS, by the painter's kind and number -/
def w_yes (K N ho f t : Int) : Prop := K = 0 ∨ K = 1 ∨ (K = 2 ∧ ho ≠ N % 6) ∨ (K = 4 ∧ ho ≠ N % 6) ∨ (K = 3 ∧ t ≠ N % 5) ∨ (K = 5 ∧ ho ≠ N % 6 ∧ t ≠ f - 1)
def w_noo (K N ho f t : Int) : Prop := (K = 2 ∧ ho = N % 6) ∨ (K = 4 ∧ ho = N % 6) ∨ (K = 3 ∧ t = N % 5) ∨ (K = 5 ∧ (ho = N % 6 ∨ t = f - 1))
def w_mx (v x : Int) : Prop := 0 ≤ x ∧ v ≤ x ∧ (x = 0 ∨ x = v)
def w_co (K N ho f t x : Int) : Prop := (K = 0 ∧ w_mx (1 + N) x) ∨ (K = 1 ∧ w_mx ((1 + N) * (ho + 1)) x) ∨ (K = 2 ∧ w_mx (1 + N + 3) x) ∨ (K = 3 ∧ w_mx ((1 + N) * (ho + 1) - t * N) x) ∨ (K = 4 ∧ w_mx ((1 + N + 3) / 2) x) ∨ (K = 5 ∧ w_mx (1 + N + 3 + f) x)
def w_asd (H C np pa st wh : Int) : Prop := pa < 0 ∨ np ≤ pa ∨ st < 0 ∨ wh < 0 ∨ 1 < wh ∨ H ≤ st / 100 ∨ C ≤ st / 10 % 10 ∨ C ≤ st % 10 ∨ st / 10 % 10 = st % 10
def w_asg (H C np pa st : Int) : Prop := 0 ≤ pa ∧ pa < np ∧ 0 ≤ st ∧ st / 100 < H ∧ st / 10 % 10 < C ∧ st % 10 < C ∧ st / 10 % 10 ≠ st % 10
def w_ak (K N H C np pa st wh x : Int) : Prop := (x = -2 ∧ w_asd H C np pa st wh) ∨ (w_asg H C np pa st ∧ ((wh = 1 ∧ ((x = 1 ∧ w_yes K N (st / 100) (st / 10 % 10) (st % 10)) ∨ (x = 0 ∧ w_noo K N (st / 100) (st / 10 % 10) (st % 10)))) ∨ (wh = 0 ∧ w_co K N (st / 100) (st / 10 % 10) (st % 10) x)))
section
variable {K N ho f t x y : Int}
theorem ckk_0 (k : K = 0) (h1 : 0 ≤ x) (h2 : 1 + N ≤ x) (h3 : x = 0 ∨ x = 1 + N) : w_co K N ho f t x := Or.inl ⟨k, h1, h2, h3⟩
theorem ckk_1 (k : K = 1) (h1 : 0 ≤ x) (h2 : (1 + N) * (ho + 1) ≤ x) (h3 : x = 0 ∨ x = (1 + N) * (ho + 1)) : w_co K N ho f t x := Or.inr (Or.inl ⟨k, h1, h2, h3⟩)
theorem ckk_2 (k : K = 2) (h1 : 0 ≤ x) (h2 : 1 + N + 3 ≤ x) (h3 : x = 0 ∨ x = 1 + N + 3) : w_co K N ho f t x := Or.inr (Or.inr (Or.inl ⟨k, h1, h2, h3⟩))
theorem ckk_3 (k : K = 3) (h1 : 0 ≤ x) (h2 : (1 + N) * (ho + 1) - t * N ≤ x) (h3 : x = 0 ∨ x = (1 + N) * (ho + 1) - t * N) : w_co K N ho f t x := Or.inr (Or.inr (Or.inr (Or.inl ⟨k, h1, h2, h3⟩)))
theorem ckk_4 (k : K = 4) (h1 : 0 ≤ x) (h2 : (1 + N + 3) / 2 ≤ x) (h3 : x = 0 ∨ x = (1 + N + 3) / 2) : w_co K N ho f t x := Or.inr (Or.inr (Or.inr (Or.inr (Or.inl ⟨k, h1, h2, h3⟩))))
theorem ckk_5 (k : K = 5) (h1 : 0 ≤ x) (h2 : 1 + N + 3 + f ≤ x) (h3 : x = 0 ∨ x = 1 + N + 3 + f) : w_co K N ho f t x := Or.inr (Or.inr (Or.inr (Or.inr (Or.inr ⟨k, h1, h2, h3⟩))))
theorem mx_fn {v : Int} (h1 : w_mx v x) (h2 : w_mx v y) : x = y := by
  obtain ⟨a1, a2, a3⟩ := h1
  obtain ⟨b1, b2, b3⟩ := h2
  omega
theorem ckk_fn (h1 : w_co K N ho f t x) (h2 : w_co K N ho f t y) : x = y := by
  rcases h1 with ⟨a, a1⟩ | ⟨a, a1⟩ | ⟨a, a1⟩ | ⟨a, a1⟩ | ⟨a, a1⟩ | ⟨a, a1⟩ <;> rcases h2 with ⟨b, b1⟩ | ⟨b, b1⟩ | ⟨b, b1⟩ | ⟨b, b1⟩ | ⟨b, b1⟩ | ⟨b, b1⟩ <;> first
    | exact mx_fn a1 b1
    | exact absurd (a.symm.trans b) (by decide)
theorem yn_no (h1 : w_yes K N ho f t) (h2 : w_noo K N ho f t) : False := by
  rcases h1 with a | a | ⟨a, a1⟩ | ⟨a, a1⟩ | ⟨a, a1⟩ | ⟨a, a1, a2⟩ <;> rcases h2 with ⟨b, b1⟩ | ⟨b, b1⟩ | ⟨b, b1⟩ | ⟨b, b1 | b1⟩ <;> omega
end
theorem gd_no {H C np pa st wh : Int} (hw : wh = 0 ∨ wh = 1) (h1 : w_asd H C np pa st wh) (h2 : w_asg H C np pa st) : False := by
  obtain ⟨b1, b2, b3, b4, b5, b6, b7⟩ := h2
  rcases h1 with a | a | a | a | a | a | a | a | a <;> omega
theorem ak_fn {K N H C np pa st wh x y : Int} (h1 : w_ak K N H C np pa st wh x) (h2 : w_ak K N H C np pa st wh y) : x = y := by
  rcases h1 with ⟨a, a1⟩ | ⟨a, ⟨w, ⟨a1, a2⟩ | ⟨a1, a2⟩⟩ | ⟨w, a1⟩⟩ <;> rcases h2 with ⟨b, b1⟩ | ⟨b, ⟨v, ⟨b1, b2⟩ | ⟨b1, b2⟩⟩ | ⟨v, b1⟩⟩
  · exact a.trans b.symm
  · exact (gd_no (Or.inr v) a1 b).elim
  · exact (gd_no (Or.inr v) a1 b).elim
  · exact (gd_no (Or.inl v) a1 b).elim
  · exact (gd_no (Or.inr w) b1 a).elim
  · exact a1.trans b1.symm
  · exact (yn_no a2 b2).elim
  · exact absurd (w.symm.trans v) (by decide)
  · exact (gd_no (Or.inr w) b1 a).elim
  · exact (yn_no b2 a2).elim
  · exact a1.trans b1.symm
  · exact absurd (w.symm.trans v) (by decide)
  · exact (gd_no (Or.inl w) b1 a).elim
  · exact absurd (w.symm.trans v) (by decide)
  · exact absurd (w.symm.trans v) (by decide)
  · exact ckk_fn a1 b1
theorem ak_out {K N H C np pa st wh x : Int} (h : w_ak K N H C np pa st wh x) (hp : ¬ (0 ≤ pa ∧ pa < np)) : x = -2 := by
  rcases h with ⟨a, -⟩ | ⟨a, -⟩
  · exact a
  · exact absurd ⟨a.1, a.2.1⟩ hp
theorem eq_asks {g g1 g2 : w_G} {x y pa st wh : Int} (e : w_eq g) (k1 : w_kp g g1) (k2 : w_kp g1 g2) (h1 : w_ak (g_PK g pa) (g_PN g pa) (g_H g) (g_C g) (g_np g) pa st wh x) (h2 : w_ak (g_mPK g1 pa) (g_mPN g1 pa) (g_mH g1) (g_mC g1) (g_mnp g1) pa st wh y) : x = y := by
  obtain ⟨-, -, -, a4, a5, a6, -, -, a9, a10⟩ := k1
  obtain ⟨e1, e2, e3, e4⟩ := e
  rw [a9, a10, a4, a5, a6, ← e1, ← e2, ← e3] at h2
  by_cases hp : 0 ≤ pa ∧ pa < g_np g
  · obtain ⟨q1, q2⟩ := e4 pa hp.1 hp.2
    rw [q1, q2] at h1
    exact ak_fn h1 h2
  · exact (ak_out h1 hp).trans (ak_out h2 hp).symm
theorem c_mCostsX {g : w_G} {o : w_O} {h : m_H} {d : Nat} {Q : Option m_V → m_H → Prop} (iv : w_Inv g o h) {pa : Int} {ho : Int} {fr : Int} {t : Int} (pa_lo : -2147483648 ≤ pa) (pa_hi : pa ≤ 2147483647) (ho_lo : -2147483648 ≤ ho) (ho_hi : ho ≤ 2147483647) (fr_lo : -2147483648 ≤ fr) (fr_hi : fr ≤ 2147483647) (t_lo : -2147483648 ≤ t) (t_hi : t ≤ 2147483647) (p0 : 0 ≤ pa) (p1 : pa < g_mnp g) (h0_ : 0 ≤ ho) (h1_ : ho ≤ 5) (f0_ : 0 ≤ fr) (f1_ : fr ≤ 4) (t0_ : 0 ≤ t) (t1_ : t ≤ 4) (k0 : ∀ (x : Int), -2147483648 ≤ x → x ≤ 2147483647 → w_co (g_mPK g pa) (g_mPN g pa) ho fr t x → Q (some (.inl (w_i x))) h) : wp d 626688 [.inr (.inl (some 31)), .inl (w_i pa), .inl (w_i ho), .inl (w_i fr), .inl (w_i t), .inr (.inr (.inl 0)), .inr (.inr (.inl 0))] [] h Q := by
  have W := iv_wm iv
  refine w_run k_626688 (w_al (fun _ => rfl) ?_)
  obtain ⟨_, m1, spr1, kee1, rul1, tpd1, nxt1, tok1, tka1, val1, opn1, hm1, row1, ksp1, kke1, kru1, rfl, l1_spr, u1_spr, l1_kee, u1_kee, l1_rul, u1_rul, l1_tpd, u1_tpd, l1_nxt, u1_nxt, l1_tok, u1_tok, l1_tka, u1_tka, l1_val, u1_val, l1_opn, u1_opn, l1_hm, u1_hm, l1_row, u1_row, l1_ksp, u1_ksp, l1_kke, u1_kke, l1_kru, u1_kru, f1_0, f1_1, f1_2, f1_3, f1_4, f1_5, f1_6, f1_7, f1_8, f1_9⟩ := iv_31 iv
  refine w_getf m1 rfl (fun _ => rfl) (w_il (fun _ => rfl) ?_)
  obtain ⟨_, m2, A2, rfl, e2⟩ := iv_36 iv
  refine w_aldI m2 (by omega) (by omega) (by omega) ?_
  obtain ⟨b3, b4⟩ := ag_rg A2 pa
  have e5 := e2 pa (by omega) (by omega)
  refine w_is (fun _ => rfl) (w_icI (x := 1) rfl (w_il (fun _ => rfl) ?_))
  have hP := iv_mP iv pa (by omega) (by omega)
  have hn : (a_g A2 pa) = g_mPN g pa := by omega
  have hq1 : (1 + (a_g A2 pa)) * (ho + 1) = (1 + g_mPN g pa) * (ho + 1) := by rw [hn]
  have hq2 : t * (a_g A2 pa) = t * g_mPN g pa := by rw [hn]
  refine w_op (c := w_i (1 + (a_g A2 pa))) (i_add 1 (a_g A2 pa)) (w_is (fun _ => rfl) (w_al (fun _ => rfl) (w_getf m1 rfl (fun _ => rfl) (w_il (fun _ => rfl) ?_))))
  obtain ⟨_, m6, A6, rfl, e6⟩ := iv_35 iv
  refine w_aldI m6 (by omega) (by omega) (by omega) ?_
  obtain ⟨b7, b8⟩ := ag_rg A6 pa
  have e9 := e6 pa (by omega) (by omega)
  by_cases c10 : (a_g A6 pa) = 1
  · rw [show ((a_g A6 pa) : Int) = 1 from c10]
    refine w_tsw (t := 626744) (fun _ => rfl) (w_run k_626744 (w_il (fun _ => rfl) (w_il (fun _ => rfl) (w_icI (x := 1) rfl (w_op (c := w_i (ho + 1)) (i_add ho 1) ?_)))))
    have hm := mul_rg (a := (1 + (a_g A2 pa))) (b := (ho + 1)) (x := 10) (y := 6) (by omega) (by omega) (by omega) (by omega)
    refine w_op (c := w_i ((1 + (a_g A2 pa)) * (ho + 1))) (i_mul (1 + (a_g A2 pa)) (ho + 1)) (w_is (fun _ => rfl) (w_go (w_run k_626803 (w_il (fun _ => rfl) (w_gezt (by omega) (by omega) (by omega)  (w_run k_626812 (w_il (fun _ => rfl) (w_ri ?_))))))))
    exact k0 ((1 + (a_g A2 pa)) * (ho + 1)) (by omega) (by omega) (by first | exact ckk_0 (by omega) (by omega) (by omega) (by omega) | exact ckk_1 (by omega) (by omega) (by omega) (by omega) | exact ckk_2 (by omega) (by omega) (by omega) (by omega) | exact ckk_3 (by omega) (by omega) (by omega) (by omega) | exact ckk_4 (by omega) (by omega) (by omega) (by omega) | exact ckk_5 (by omega) (by omega) (by omega) (by omega))
  by_cases c11 : (a_g A6 pa) = 2
  · rw [show ((a_g A6 pa) : Int) = 2 from c11]
    refine w_tsw (t := 626755) (fun _ => rfl) (w_run k_626755 (w_il (fun _ => rfl) (w_icI (x := 3) rfl (w_op (c := w_i ((1 + (a_g A2 pa)) + 3)) (i_add (1 + (a_g A2 pa)) 3) (w_is (fun _ => rfl) (w_go (w_run k_626803 (w_il (fun _ => rfl) (w_gezt (by omega) (by omega) (by omega)  (w_run k_626812 (w_il (fun _ => rfl) (w_ri ?_))))))))))))
    exact k0 ((1 + (a_g A2 pa)) + 3) (by omega) (by omega) (by first | exact ckk_0 (by omega) (by omega) (by omega) (by omega) | exact ckk_1 (by omega) (by omega) (by omega) (by omega) | exact ckk_2 (by omega) (by omega) (by omega) (by omega) | exact ckk_3 (by omega) (by omega) (by omega) (by omega) | exact ckk_4 (by omega) (by omega) (by omega) (by omega) | exact ckk_5 (by omega) (by omega) (by omega) (by omega))
  by_cases c12 : (a_g A6 pa) = 3
  · rw [show ((a_g A6 pa) : Int) = 3 from c12]
    refine w_tsw (t := 626764) (fun _ => rfl) (w_run k_626764 (w_il (fun _ => rfl) (w_il (fun _ => rfl) (w_icI (x := 1) rfl (w_op (c := w_i (ho + 1)) (i_add ho 1) ?_)))))
    have hm := mul_rg (a := (1 + (a_g A2 pa))) (b := (ho + 1)) (x := 10) (y := 6) (by omega) (by omega) (by omega) (by omega)
    refine w_op (c := w_i ((1 + (a_g A2 pa)) * (ho + 1))) (i_mul (1 + (a_g A2 pa)) (ho + 1)) (w_il (fun _ => rfl) (w_il (fun _ => rfl) ?_))
    have hm := mul_rg (a := t) (b := (a_g A2 pa)) (x := 4) (y := 9) (by omega) (by omega) (by omega) (by omega)
    refine w_op (c := w_i (t * (a_g A2 pa))) (i_mul t (a_g A2 pa)) (w_op (c := w_i (((1 + (a_g A2 pa)) * (ho + 1)) - (t * (a_g A2 pa)))) (i_sub ((1 + (a_g A2 pa)) * (ho + 1)) (t * (a_g A2 pa))) (w_is (fun _ => rfl) (w_go (w_run k_626803 (w_il (fun _ => rfl) ?_)))))
    refine w_gez2 (by omega) (by omega)  (fun c13 => ?_) (fun c13 => ?_)
    · refine w_run k_626812 (w_il (fun _ => rfl) (w_ri ?_))
      exact k0 (((1 + (a_g A2 pa)) * (ho + 1)) - (t * (a_g A2 pa))) (by omega) (by omega) (by first | exact ckk_0 (by omega) (by omega) (by omega) (by omega) | exact ckk_1 (by omega) (by omega) (by omega) (by omega) | exact ckk_2 (by omega) (by omega) (by omega) (by omega) | exact ckk_3 (by omega) (by omega) (by omega) (by omega) | exact ckk_4 (by omega) (by omega) (by omega) (by omega) | exact ckk_5 (by omega) (by omega) (by omega) (by omega))
    · refine w_icI (x := 0) rfl (w_go (w_run k_626814 (w_ri ?_)))
      exact k0 0 (by omega) (by omega) (by first | exact ckk_0 (by omega) (by omega) (by omega) (by omega) | exact ckk_1 (by omega) (by omega) (by omega) (by omega) | exact ckk_2 (by omega) (by omega) (by omega) (by omega) | exact ckk_3 (by omega) (by omega) (by omega) (by omega) | exact ckk_4 (by omega) (by omega) (by omega) (by omega) | exact ckk_5 (by omega) (by omega) (by omega) (by omega))
  by_cases c14 : (a_g A6 pa) = 4
  · rw [show ((a_g A6 pa) : Int) = 4 from c14]
    refine w_tsw (t := 626781) (fun _ => rfl) (w_run k_626781 (w_il (fun _ => rfl) (w_icI (x := 3) rfl (w_op (c := w_i ((1 + (a_g A2 pa)) + 3)) (i_add (1 + (a_g A2 pa)) 3) (w_icI (x := 2) rfl (w_opz (c := w_i (((1 + (a_g A2 pa)) + 3) / 2)) (beq0 (by omega) (by omega) (by omega)) (i_div (by omega) (by omega) (by omega) (by omega)) ?_))))))
    have b15 : 0 ≤ (((1 + (a_g A2 pa)) + 3) / 2) ∧ (((1 + (a_g A2 pa)) + 3) / 2) ≤ ((1 + (a_g A2 pa)) + 3) := ⟨Int.ediv_nonneg (by omega) (by omega), Int.ediv_le_self _ (by omega)⟩
    refine w_is (fun _ => rfl) (w_go (w_run k_626803 (w_il (fun _ => rfl) (w_gezt (by omega) (by omega) (by omega)  (w_run k_626812 (w_il (fun _ => rfl) (w_ri ?_)))))))
    exact k0 (((1 + (a_g A2 pa)) + 3) / 2) (by omega) (by omega) (by first | exact ckk_0 (by omega) (by omega) (by omega) (by omega) | exact ckk_1 (by omega) (by omega) (by omega) (by omega) | exact ckk_2 (by omega) (by omega) (by omega) (by omega) | exact ckk_3 (by omega) (by omega) (by omega) (by omega) | exact ckk_4 (by omega) (by omega) (by omega) (by omega) | exact ckk_5 (by omega) (by omega) (by omega) (by omega))
  by_cases c16 : (a_g A6 pa) = 5
  · rw [show ((a_g A6 pa) : Int) = 5 from c16]
    refine w_tsw (t := 626792) (fun _ => rfl) (w_run k_626792 (w_il (fun _ => rfl) (w_icI (x := 3) rfl (w_op (c := w_i ((1 + (a_g A2 pa)) + 3)) (i_add (1 + (a_g A2 pa)) 3) (w_il (fun _ => rfl) (w_op (c := w_i (((1 + (a_g A2 pa)) + 3) + fr)) (i_add ((1 + (a_g A2 pa)) + 3) fr) (w_is (fun _ => rfl) (w_go (w_run k_626803 (w_il (fun _ => rfl) (w_gezt (by omega) (by omega) (by omega)  (w_run k_626812 (w_il (fun _ => rfl) (w_ri ?_))))))))))))))
    exact k0 (((1 + (a_g A2 pa)) + 3) + fr) (by omega) (by omega) (by first | exact ckk_0 (by omega) (by omega) (by omega) (by omega) | exact ckk_1 (by omega) (by omega) (by omega) (by omega) | exact ckk_2 (by omega) (by omega) (by omega) (by omega) | exact ckk_3 (by omega) (by omega) (by omega) (by omega) | exact ckk_4 (by omega) (by omega) (by omega) (by omega) | exact ckk_5 (by omega) (by omega) (by omega) (by omega))
  refine w_tswL (by omega) (by omega) (by show _ < ((1 : Nat) : Int) ∨ ((6 : Nat) : Int) ≤ _; omega) (by decide) (w_run k_626803 (w_il (fun _ => rfl) (w_gezt (by omega) (by omega) (by omega)  (w_run k_626812 (w_il (fun _ => rfl) (w_ri ?_))))))
  exact k0 (1 + (a_g A2 pa)) (by omega) (by omega) (by first | exact ckk_0 (by omega) (by omega) (by omega) (by omega) | exact ckk_1 (by omega) (by omega) (by omega) (by omega) | exact ckk_2 (by omega) (by omega) (by omega) (by omega) | exact ckk_3 (by omega) (by omega) (by omega) (by omega) | exact ckk_4 (by omega) (by omega) (by omega) (by omega) | exact ckk_5 (by omega) (by omega) (by omega) (by omega))
theorem c_mWillX {g : w_G} {o : w_O} {h : m_H} {d : Nat} {Q : Option m_V → m_H → Prop} (iv : w_Inv g o h) {pa : Int} {ho : Int} {fr : Int} {t : Int} (pa_lo : -2147483648 ≤ pa) (pa_hi : pa ≤ 2147483647) (ho_lo : -2147483648 ≤ ho) (ho_hi : ho ≤ 2147483647) (fr_lo : -2147483648 ≤ fr) (fr_hi : fr ≤ 2147483647) (t_lo : -2147483648 ≤ t) (t_hi : t ≤ 2147483647) (p0 : 0 ≤ pa) (p1 : pa < g_mnp g) (h0_ : 0 ≤ ho) (h1_ : ho ≤ 5) (f0_ : 0 ≤ fr) (f1_ : fr ≤ 4) (t0_ : 0 ≤ t) (t1_ : t ≤ 4) (k0 : w_yes (g_mPK g pa) (g_mPN g pa) ho fr t → Q (some (.inl (w_i 1))) h) (k1 : w_noo (g_mPK g pa) (g_mPN g pa) ho fr t → Q (some (.inl (w_i 0))) h) : wp d 630784 [.inr (.inl (some 31)), .inl (w_i pa), .inl (w_i ho), .inl (w_i fr), .inl (w_i t), .inr (.inr (.inl 0))] [] h Q := by
  have W := iv_wm iv
  refine w_run k_630784 (w_al (fun _ => rfl) ?_)
  obtain ⟨_, m1, spr1, kee1, rul1, tpd1, nxt1, tok1, tka1, val1, opn1, hm1, row1, ksp1, kke1, kru1, rfl, l1_spr, u1_spr, l1_kee, u1_kee, l1_rul, u1_rul, l1_tpd, u1_tpd, l1_nxt, u1_nxt, l1_tok, u1_tok, l1_tka, u1_tka, l1_val, u1_val, l1_opn, u1_opn, l1_hm, u1_hm, l1_row, u1_row, l1_ksp, u1_ksp, l1_kke, u1_kke, l1_kru, u1_kru, f1_0, f1_1, f1_2, f1_3, f1_4, f1_5, f1_6, f1_7, f1_8, f1_9⟩ := iv_31 iv
  refine w_getf m1 rfl (fun _ => rfl) (w_il (fun _ => rfl) ?_)
  obtain ⟨_, m2, A2, rfl, e2⟩ := iv_36 iv
  refine w_aldI m2 (by omega) (by omega) (by omega) ?_
  obtain ⟨b3, b4⟩ := ag_rg A2 pa
  have e5 := e2 pa (by omega) (by omega)
  refine w_is (fun _ => rfl) ?_
  have hP := iv_mP iv pa (by omega) (by omega)
  refine w_al (fun _ => rfl) (w_getf m1 rfl (fun _ => rfl) (w_il (fun _ => rfl) ?_))
  obtain ⟨_, m6, A6, rfl, e6⟩ := iv_35 iv
  refine w_aldI m6 (by omega) (by omega) (by omega) ?_
  obtain ⟨b7, b8⟩ := ag_rg A6 pa
  have e9 := e6 pa (by omega) (by omega)
  by_cases c10 : (a_g A6 pa) = 2
  · rw [show ((a_g A6 pa) : Int) = 2 from c10]
    refine w_tsw (t := 630828) (fun _ => rfl) (w_run k_630828 (w_il (fun _ => rfl) (w_il (fun _ => rfl) (w_icI (x := 6) rfl (w_opz (c := w_i ((a_g A2 pa) % 6)) (beq0 (by omega) (by omega) (by omega)) (i_rem (by omega) (by omega) (by omega) (by omega)) ?_)))))
    have b11 : 0 ≤ ((a_g A2 pa) % 6) ∧ ((a_g A2 pa) % 6) < 6 := ⟨Int.emod_nonneg _ (by omega), Int.emod_lt_of_pos _ (by omega)⟩
    refine w_eq2 (by omega) (by omega) (by omega) (by omega)  (fun c12 => ?_) (fun c12 => ?_)
    · refine w_run k_630841 (w_icI (x := 0) rfl (w_rz (by decide) ?_))
      exact k1 (by unfold w_noo; omega)
    · refine w_icI (x := 1) rfl (w_go (w_run k_630842 (w_rz (by decide) ?_)))
      exact k0 (by unfold w_yes; omega)
  by_cases c13 : (a_g A6 pa) = 3
  · rw [show ((a_g A6 pa) : Int) = 3 from c13]
    refine w_tsw (t := 630843) (fun _ => rfl) (w_run k_630843 (w_il (fun _ => rfl) (w_il (fun _ => rfl) (w_icI (x := 5) rfl (w_opz (c := w_i ((a_g A2 pa) % 5)) (beq0 (by omega) (by omega) (by omega)) (i_rem (by omega) (by omega) (by omega) (by omega)) ?_)))))
    have b14 : 0 ≤ ((a_g A2 pa) % 5) ∧ ((a_g A2 pa) % 5) < 5 := ⟨Int.emod_nonneg _ (by omega), Int.emod_lt_of_pos _ (by omega)⟩
    refine w_eq2 (by omega) (by omega) (by omega) (by omega)  (fun c15 => ?_) (fun c15 => ?_)
    · refine w_run k_630856 (w_icI (x := 0) rfl (w_rz (by decide) ?_))
      exact k1 (by unfold w_noo; omega)
    · refine w_icI (x := 1) rfl (w_go (w_run k_630857 (w_rz (by decide) ?_)))
      exact k0 (by unfold w_yes; omega)
  by_cases c16 : (a_g A6 pa) = 4
  · rw [show ((a_g A6 pa) : Int) = 4 from c16]
    refine w_tsw (t := 630828) (fun _ => rfl) (w_run k_630828 (w_il (fun _ => rfl) (w_il (fun _ => rfl) (w_icI (x := 6) rfl (w_opz (c := w_i ((a_g A2 pa) % 6)) (beq0 (by omega) (by omega) (by omega)) (i_rem (by omega) (by omega) (by omega) (by omega)) ?_)))))
    have b17 : 0 ≤ ((a_g A2 pa) % 6) ∧ ((a_g A2 pa) % 6) < 6 := ⟨Int.emod_nonneg _ (by omega), Int.emod_lt_of_pos _ (by omega)⟩
    refine w_eq2 (by omega) (by omega) (by omega) (by omega)  (fun c18 => ?_) (fun c18 => ?_)
    · refine w_run k_630841 (w_icI (x := 0) rfl (w_rz (by decide) ?_))
      exact k1 (by unfold w_noo; omega)
    · refine w_icI (x := 1) rfl (w_go (w_run k_630842 (w_rz (by decide) ?_)))
      exact k0 (by unfold w_yes; omega)
  by_cases c19 : (a_g A6 pa) = 5
  · rw [show ((a_g A6 pa) : Int) = 5 from c19]
    refine w_tsw (t := 630858) (fun _ => rfl) (w_run k_630858 (w_il (fun _ => rfl) (w_il (fun _ => rfl) (w_icI (x := 6) rfl (w_opz (c := w_i ((a_g A2 pa) % 6)) (beq0 (by omega) (by omega) (by omega)) (i_rem (by omega) (by omega) (by omega) (by omega)) ?_)))))
    have b20 : 0 ≤ ((a_g A2 pa) % 6) ∧ ((a_g A2 pa) % 6) < 6 := ⟨Int.emod_nonneg _ (by omega), Int.emod_lt_of_pos _ (by omega)⟩
    refine w_eq2 (by omega) (by omega) (by omega) (by omega)  (fun c21 => ?_) (fun c21 => ?_)
    · refine w_run k_630879 (w_icI (x := 0) rfl (w_rz (by decide) ?_))
      exact k1 (by unfold w_noo; omega)
    · refine w_il (fun _ => rfl) (w_il (fun _ => rfl) (w_icI (x := 1) rfl (w_op (c := w_i (fr - 1)) (i_sub fr 1) ?_)))
      refine w_eq2 (by omega) (by omega) (by omega) (by omega)  (fun c22 => ?_) (fun c22 => ?_)
      · refine w_run k_630879 (w_icI (x := 0) rfl (w_rz (by decide) ?_))
        exact k1 (by unfold w_noo; omega)
      · refine w_icI (x := 1) rfl (w_go (w_run k_630880 (w_rz (by decide) ?_)))
        exact k0 (by unfold w_yes; omega)
  refine w_tswL (by omega) (by omega) (by show _ < ((2 : Nat) : Int) ∨ ((6 : Nat) : Int) ≤ _; omega) (by decide) (w_run k_630881 (w_icI (x := 1) rfl (w_rz (by decide) ?_)))
  exact k0 (by unfold w_yes; omega)
theorem c_mAsksX {g : w_G} {o : w_O} {h : m_H} {d : Nat} {Q : Option m_V → m_H → Prop} (iv : w_Inv g o h) {pa : Int} {st : Int} {wh : Int} (pa_lo : -2147483648 ≤ pa) (pa_hi : pa ≤ 2147483647) (st_lo : -2147483648 ≤ st) (st_hi : st ≤ 2147483647) (wh_lo : -2147483648 ≤ wh) (wh_hi : wh ≤ 2147483647) (k0 : ∀ (x : Int), -2147483648 ≤ x → x ≤ 2147483647 → w_ak (g_mPK g pa) (g_mPN g pa) (g_mH g) (g_mC g) (g_mnp g) pa st wh x → Q (some (.inl (w_i x))) h) : wp (d + 1) 634880 [.inr (.inl (some 31)), .inl (w_i pa), .inl (w_i st), .inl (w_i wh), .inr (.inr (.inl 0)), .inr (.inr (.inl 0)), .inr (.inr (.inl 0))] [] h Q := by
  have W := iv_wm iv
  refine w_run k_634880 ?_
  rcases (show st < 0 ∨ 0 ≤ st from by omega) with hst | hst
  · refine w_il (fun _ => rfl) (w_icI (x := 100) rfl (w_opzR (beq0 (by omega) (by omega) (by omega)) div_lt (fun x1 x10 x11 x1e => ?_)))
    refine w_is (fun _ => rfl) (w_il (fun _ => rfl) (w_icI (x := 10) rfl (w_opzR (beq0 (by omega) (by omega) (by omega)) div_lt (fun x2 x20 x21 x2e => ?_))))
    refine w_icI (x := 10) rfl (w_opzR (beq0 (by omega) (by omega) (by omega)) rem_lt (fun x3 x30 x31 x3e => ?_))
    refine w_is (fun _ => rfl) (w_il (fun _ => rfl) (w_icI (x := 10) rfl (w_opzR (beq0 (by omega) (by omega) (by omega)) rem_lt (fun x4 x40 x41 x4e => ?_))))
    refine w_is (fun _ => rfl) (w_il (fun _ => rfl) (w_icI (x := 0) rfl (w_al (fun _ => rfl) ?_)))
    obtain ⟨_, m5, spr5, kee5, rul5, tpd5, nxt5, tok5, tka5, val5, opn5, hm5, row5, ksp5, kke5, kru5, rfl, l5_spr, u5_spr, l5_kee, u5_kee, l5_rul, u5_rul, l5_tpd, u5_tpd, l5_nxt, u5_nxt, l5_tok, u5_tok, l5_tka, u5_tka, l5_val, u5_val, l5_opn, u5_opn, l5_hm, u5_hm, l5_row, u5_row, l5_ksp, u5_ksp, l5_kke, u5_kke, l5_kru, u5_kru, f5_0, f5_1, f5_2, f5_3, f5_4, f5_5, f5_6, f5_7, f5_8, f5_9⟩ := iv_31 iv
    refine w_getf m5 rfl (fun _ => rfl) (w_icI (x := 1) rfl (w_op (c := w_i (g_mnp g - 1)) (i_sub (g_mnp g) 1) ?_))
    refine w_ca (fun _ => rfl) rfl (c_mIsIn (d := d) iv (n := pa) (ln := 0) (mn := (g_mnp g - 1)) (by omega) (by omega) (by omega) (by omega) (by omega) (by omega)   (fun b6 b7 => ⟨_, rfl, ?_⟩) (fun b8 => ⟨_, rfl, ?_⟩))
    · refine w_eqzf (by omega) (by omega) (by omega)  (w_il (fun _ => rfl) (w_ltzt (by omega) (by omega) (by omega)  (w_run k_634962 (w_icI (x := (-2)) wn_2 (w_ri ?_)))))
      exact k0 (-2) (by omega) (by omega) (Or.inl ⟨rfl, by unfold w_asd; omega⟩)
    · refine w_eqzt (by omega) (by omega) (by omega)  (w_run k_634962 (w_icI (x := (-2)) wn_2 (w_ri ?_)))
      exact k0 (-2) (by omega) (by omega) (Or.inl ⟨rfl, by unfold w_asd; omega⟩)
  · refine w_il (fun _ => rfl) (w_icI (x := 100) rfl (w_opz (c := w_i (st / 100)) (beq0 (by omega) (by omega) (by omega)) (i_div (by omega) (by omega) (by omega) (by omega)) ?_))
    have b9 : 0 ≤ (st / 100) ∧ (st / 100) ≤ st := ⟨Int.ediv_nonneg (by omega) (by omega), Int.ediv_le_self _ (by omega)⟩
    refine w_is (fun _ => rfl) (w_il (fun _ => rfl) (w_icI (x := 10) rfl (w_opz (c := w_i (st / 10)) (beq0 (by omega) (by omega) (by omega)) (i_div (by omega) (by omega) (by omega) (by omega)) ?_)))
    have b10 : 0 ≤ (st / 10) ∧ (st / 10) ≤ st := ⟨Int.ediv_nonneg (by omega) (by omega), Int.ediv_le_self _ (by omega)⟩
    refine w_icI (x := 10) rfl (w_opz (c := w_i ((st / 10) % 10)) (beq0 (by omega) (by omega) (by omega)) (i_rem (by omega) (by omega) (by omega) (by omega)) ?_)
    have b11 : 0 ≤ ((st / 10) % 10) ∧ ((st / 10) % 10) < 10 := ⟨Int.emod_nonneg _ (by omega), Int.emod_lt_of_pos _ (by omega)⟩
    refine w_is (fun _ => rfl) (w_il (fun _ => rfl) (w_icI (x := 10) rfl (w_opz (c := w_i (st % 10)) (beq0 (by omega) (by omega) (by omega)) (i_rem (by omega) (by omega) (by omega) (by omega)) ?_)))
    have b12 : 0 ≤ (st % 10) ∧ (st % 10) < 10 := ⟨Int.emod_nonneg _ (by omega), Int.emod_lt_of_pos _ (by omega)⟩
    refine w_is (fun _ => rfl) (w_il (fun _ => rfl) (w_icI (x := 0) rfl (w_al (fun _ => rfl) ?_)))
    obtain ⟨_, m13, spr13, kee13, rul13, tpd13, nxt13, tok13, tka13, val13, opn13, hm13, row13, ksp13, kke13, kru13, rfl, l13_spr, u13_spr, l13_kee, u13_kee, l13_rul, u13_rul, l13_tpd, u13_tpd, l13_nxt, u13_nxt, l13_tok, u13_tok, l13_tka, u13_tka, l13_val, u13_val, l13_opn, u13_opn, l13_hm, u13_hm, l13_row, u13_row, l13_ksp, u13_ksp, l13_kke, u13_kke, l13_kru, u13_kru, f13_0, f13_1, f13_2, f13_3, f13_4, f13_5, f13_6, f13_7, f13_8, f13_9⟩ := iv_31 iv
    refine w_getf m13 rfl (fun _ => rfl) (w_icI (x := 1) rfl (w_op (c := w_i (g_mnp g - 1)) (i_sub (g_mnp g) 1) ?_))
    refine w_ca (fun _ => rfl) rfl (c_mIsIn (d := d) iv (n := pa) (ln := 0) (mn := (g_mnp g - 1)) (by omega) (by omega) (by omega) (by omega) (by omega) (by omega)   (fun b14 b15 => ⟨_, rfl, ?_⟩) (fun b16 => ⟨_, rfl, ?_⟩))
    · refine w_eqzf (by omega) (by omega) (by omega)  (w_il (fun _ => rfl) (w_ltzf (by omega) (by omega) (by omega)  (w_al (fun _ => rfl) (w_il (fun _ => rfl) (w_this (fun _ => rfl) m13 ?_)))))
      refine w_ca (fun _ => rfl) rfl (c_mIsHouse (d := d) iv (n := (st / 100)) (by omega) (by omega)   (fun b17 b18 => ⟨_, rfl, ?_⟩) (fun b19 => ⟨_, rfl, ?_⟩))
      · refine w_eqzf (by omega) (by omega) (by omega)  (w_al (fun _ => rfl) (w_il (fun _ => rfl) (w_this (fun _ => rfl) m13 ?_)))
        refine w_ca (fun _ => rfl) rfl (c_mIsColour (d := d) iv (n := ((st / 10) % 10)) (by omega) (by omega)   (fun b20 b21 => ⟨_, rfl, ?_⟩) (fun b22 => ⟨_, rfl, ?_⟩))
        · refine w_eqzf (by omega) (by omega) (by omega)  (w_al (fun _ => rfl) (w_il (fun _ => rfl) (w_this (fun _ => rfl) m13 ?_)))
          refine w_ca (fun _ => rfl) rfl (c_mIsColour (d := d) iv (n := (st % 10)) (by omega) (by omega)   (fun b23 b24 => ⟨_, rfl, ?_⟩) (fun b25 => ⟨_, rfl, ?_⟩))
          · refine w_eqzf (by omega) (by omega) (by omega)  (w_il (fun _ => rfl) (w_il (fun _ => rfl) ?_))
            refine w_eq2 (by omega) (by omega) (by omega) (by omega)  (fun c26 => ?_) (fun c26 => ?_)
            · refine w_run k_634962 (w_icI (x := (-2)) wn_2 (w_ri ?_))
              exact k0 (-2) (by omega) (by omega) (Or.inl ⟨rfl, by unfold w_asd; omega⟩)
            · refine w_il (fun _ => rfl) (w_icI (x := 0) rfl (w_icI (x := 1) rfl ?_))
              refine w_ca (fun _ => rfl) rfl (c_mIsIn (d := d) iv (n := wh) (ln := 0) (mn := 1) (by omega) (by omega) (by omega) (by omega) (by omega) (by omega)   (fun b27 b28 => ⟨_, rfl, ?_⟩) (fun b29 => ⟨_, rfl, ?_⟩))
              · refine w_nezt (by omega) (by omega) (by omega)  (w_run k_634965 (w_il (fun _ => rfl) ?_))
                refine w_nez2 (by omega) (by omega)  (fun c30 => ?_) (fun c30 => ?_)
                · refine w_run k_634983 (w_al (fun _ => rfl) (w_il (fun _ => rfl) (w_il (fun _ => rfl) (w_il (fun _ => rfl) (w_il (fun _ => rfl) (w_this (fun _ => rfl) m13 ?_))))))
                  refine w_ca (fun _ => rfl) rfl (c_mWillX (d := d) iv (pa := pa) (ho := (st / 100)) (fr := ((st / 10) % 10)) (t := (st % 10)) (by omega) (by omega) (by omega) (by omega) (by omega) (by omega) (by omega) (by omega) (by omega) (by omega) (by omega) (by omega) (by omega) (by omega) (by omega) (by omega)  (fun b31 => ⟨_, rfl, ?_⟩) (fun b32 => ⟨_, rfl, ?_⟩))
                  · refine w_eqzf (by omega) (by omega) (by omega)  (w_icI (x := 1) rfl (w_go (w_run k_635002 (w_ri ?_))))
                    exact k0 1 (by omega) (by omega) (Or.inr ⟨(by unfold w_asg; omega), Or.inl ⟨by omega, Or.inl ⟨rfl, by assumption⟩⟩⟩)
                  · refine w_eqzt (by omega) (by omega) (by omega)  (w_run k_635001 (w_icI (x := 0) rfl (w_ri ?_)))
                    exact k0 0 (by omega) (by omega) (Or.inr ⟨(by unfold w_asg; omega), Or.inl ⟨by omega, Or.inr ⟨rfl, by assumption⟩⟩⟩)
                · refine w_al (fun _ => rfl) (w_il (fun _ => rfl) (w_il (fun _ => rfl) (w_il (fun _ => rfl) (w_il (fun _ => rfl) (w_this (fun _ => rfl) m13 ?_)))))
                  refine w_ca (fun _ => rfl) rfl (c_mCostsX (d := d) iv (pa := pa) (ho := (st / 100)) (fr := ((st / 10) % 10)) (t := (st % 10)) (by omega) (by omega) (by omega) (by omega) (by omega) (by omega) (by omega) (by omega) (by omega) (by omega) (by omega) (by omega) (by omega) (by omega) (by omega) (by omega)  (fun y33 b34 b35 b36 => ⟨_, rfl, ?_⟩))
                  refine w_go (w_run k_635002 (w_ri ?_))
                  exact k0 y33 (by omega) (by omega) (Or.inr ⟨(by unfold w_asg; omega), Or.inr ⟨by omega, by assumption⟩⟩)
              · refine w_nezf (by omega) (by omega) (by omega)  (w_icI (x := (-2)) wn_2 (w_ri ?_))
                exact k0 (-2) (by omega) (by omega) (Or.inl ⟨rfl, by unfold w_asd; omega⟩)
          · refine w_eqzt (by omega) (by omega) (by omega)  (w_run k_634962 (w_icI (x := (-2)) wn_2 (w_ri ?_)))
            exact k0 (-2) (by omega) (by omega) (Or.inl ⟨rfl, by unfold w_asd; omega⟩)
        · refine w_eqzt (by omega) (by omega) (by omega)  (w_run k_634962 (w_icI (x := (-2)) wn_2 (w_ri ?_)))
          exact k0 (-2) (by omega) (by omega) (Or.inl ⟨rfl, by unfold w_asd; omega⟩)
      · refine w_eqzt (by omega) (by omega) (by omega)  (w_run k_634962 (w_icI (x := (-2)) wn_2 (w_ri ?_)))
        exact k0 (-2) (by omega) (by omega) (Or.inl ⟨rfl, by unfold w_asd; omega⟩)
    · refine w_eqzt (by omega) (by omega) (by omega)  (w_run k_634962 (w_icI (x := (-2)) wn_2 (w_ri ?_)))
      exact k0 (-2) (by omega) (by omega) (Or.inl ⟨rfl, by unfold w_asd; omega⟩)
theorem c_asksX {g : w_G} {o : w_O} {h : m_H} {d : Nat} {Q : Option m_V → m_H → Prop} (iv : w_Inv g o h) {pa_ : Int} {st : Int} {wh : Int} (pa__lo : -2147483648 ≤ pa_) (pa__hi : pa_ ≤ 2147483647) (st_lo : -2147483648 ≤ st) (st_hi : st ≤ 2147483647) (wh_lo : -2147483648 ≤ wh) (wh_hi : wh ≤ 2147483647) (k0 : ∀ (x : Int), -2147483648 ≤ x → x ≤ 2147483647 → w_ak (g_PK g pa_) (g_PN g pa_) (g_H g) (g_C g) (g_np g) pa_ st wh x → Q (some (.inl (w_i x))) h) : wp (d + 4) 385024 [.inr (.inl (some 0)), .inl (w_i pa_), .inl (w_i st), .inl (w_i wh), .inr (.inr (.inl 0)), .inr (.inr (.inl 0)), .inr (.inr (.inl 0)), .inr (.inr (.inl 0))] [] h Q := by
  have W := iv_wc iv
  refine w_run k_385024 (w_al (fun _ => rfl) (w_il (fun _ => rfl) ?_))
  obtain ⟨_, m1, rfl⟩ := iv_0 iv
  refine w_this (fun _ => rfl) m1 ?_
  refine w_ca (fun _ => rfl) rfl (c_painterOf (d := (d + 2)) iv (n := pa_) (by omega) (by omega)   (fun b2 => ⟨_, rfl, ?_⟩) (fun p3 b4 b5 b6 => ⟨_, rfl, ?_⟩))
  · refine w_as (fun _ => rfl) (w_al (fun _ => rfl) (w_ifn0 (w_run k_385047 (w_icI (x := (-2)) wn_2 (w_ri ?_)))))
    exact k0 (-2) (by omega) (by omega) (Or.inl ⟨rfl, by unfold w_asd; omega⟩)
  · have hp2 : ((o p3).2 : Int) = pa_ := by rw [b6]; show ((pa_.toNat : Nat) : Int) = pa_; omega
    have hp3 := congrArg (g_PK g) hp2
    have hp4 := congrArg (g_PN g) hp2
    refine w_as (fun _ => rfl) (w_al (fun _ => rfl) (w_ifn1 (w_il (fun _ => rfl) ?_)))
    refine w_ltz2 (by omega) (by omega)  (fun c7 => ?_) (fun c7 => ?_)
    · refine w_run k_385047 (w_icI (x := (-2)) wn_2 (w_ri ?_))
      exact k0 (-2) (by omega) (by omega) (Or.inl ⟨rfl, by unfold w_asd; omega⟩)
    · refine w_il (fun _ => rfl) ?_
      refine w_ca (fun _ => rfl) rfl (c_isFlag (d := (d + 3)) iv (n := wh) (by omega) (by omega)   (fun b8 b9 => ⟨_, rfl, ?_⟩) (fun b10 => ⟨_, rfl, ?_⟩))
      · refine w_nezt (by omega) (by omega) (by omega)  (w_run k_385050 (w_il (fun _ => rfl) (w_icI (x := 100) rfl (w_opz (c := w_i (st / 100)) (beq0 (by omega) (by omega) (by omega)) (i_div (by omega) (by omega) (by omega) (by omega)) ?_))))
        have b11 : 0 ≤ (st / 100) ∧ (st / 100) ≤ st := ⟨Int.ediv_nonneg (by omega) (by omega), Int.ediv_le_self _ (by omega)⟩
        refine w_is (fun _ => rfl) (w_il (fun _ => rfl) (w_icI (x := 10) rfl (w_opz (c := w_i (st / 10)) (beq0 (by omega) (by omega) (by omega)) (i_div (by omega) (by omega) (by omega) (by omega)) ?_)))
        have b12 : 0 ≤ (st / 10) ∧ (st / 10) ≤ st := ⟨Int.ediv_nonneg (by omega) (by omega), Int.ediv_le_self _ (by omega)⟩
        refine w_icI (x := 10) rfl (w_opz (c := w_i ((st / 10) % 10)) (beq0 (by omega) (by omega) (by omega)) (i_rem (by omega) (by omega) (by omega) (by omega)) ?_)
        have b13 : 0 ≤ ((st / 10) % 10) ∧ ((st / 10) % 10) < 10 := ⟨Int.emod_nonneg _ (by omega), Int.emod_lt_of_pos _ (by omega)⟩
        refine w_is (fun _ => rfl) (w_il (fun _ => rfl) (w_icI (x := 10) rfl (w_opz (c := w_i (st % 10)) (beq0 (by omega) (by omega) (by omega)) (i_rem (by omega) (by omega) (by omega) (by omega)) ?_)))
        have b14 : 0 ≤ (st % 10) ∧ (st % 10) < 10 := ⟨Int.emod_nonneg _ (by omega), Int.emod_lt_of_pos _ (by omega)⟩
        refine w_is (fun _ => rfl) (w_al (fun _ => rfl) (w_getf m1 rfl (fun _ => rfl) (w_il (fun _ => rfl) ?_)))
        obtain ⟨_, m15, kp15, sp15, rl15, rfl, l15_kp, u15_kp, l15_sp, u15_sp, l15_rl, u15_rl, f15_0, f15_1⟩ := iv_1 iv
        refine w_this (fun _ => rfl) m15 ?_
        refine w_ca (fun _ => rfl) rfl (c_isHouse (d := (d + 3)) iv (n := (st / 100)) (by omega) (by omega)   (fun b16 b17 => ⟨_, rfl, ?_⟩) (fun b18 => ⟨_, rfl, ?_⟩))
        · refine w_eqzf (by omega) (by omega) (by omega)  (w_al (fun _ => rfl) (w_getf m1 rfl (fun _ => rfl) (w_il (fun _ => rfl) (w_this (fun _ => rfl) m15 ?_))))
          refine w_ca (fun _ => rfl) rfl (c_isColour (d := (d + 3)) iv (n := ((st / 10) % 10)) (by omega) (by omega)   (fun b19 b20 => ⟨_, rfl, ?_⟩) (fun b21 => ⟨_, rfl, ?_⟩))
          · refine w_eqzf (by omega) (by omega) (by omega)  (w_al (fun _ => rfl) (w_getf m1 rfl (fun _ => rfl) (w_il (fun _ => rfl) (w_this (fun _ => rfl) m15 ?_))))
            refine w_ca (fun _ => rfl) rfl (c_isColour (d := (d + 3)) iv (n := (st % 10)) (by omega) (by omega)   (fun b22 b23 => ⟨_, rfl, ?_⟩) (fun b24 => ⟨_, rfl, ?_⟩))
            · refine w_eqzf (by omega) (by omega) (by omega)  (w_il (fun _ => rfl) (w_il (fun _ => rfl) ?_))
              refine w_ne2 (by omega) (by omega) (by omega) (by omega)  (fun c25 => ?_) (fun c25 => ?_)
              · refine w_run k_385117 ?_
                obtain ⟨_, -, _, -, hN0, hN1, -, -⟩ := iv_120 iv (congrArg Prod.fst b6)
                have hm1 := mul_rg (a := 1 + g_PN g pa_) (b := st / 100 + 1) (x := 10) (y := 6) (by omega) (by omega) (by omega) (by omega)
                have hm2 := mul_rg (a := st % 10) (b := g_PN g pa_) (x := 4) (y := 9) (by omega) (by omega) (by omega) (by omega)
                have hp5 : (1 + g_PN g ((o p3).2 : Int)) * (st / 100 + 1) = (1 + g_PN g pa_) * (st / 100 + 1) := by rw [hp2]
                have hp6 : st % 10 * g_PN g ((o p3).2 : Int) = st % 10 * g_PN g pa_ := by rw [hp2]
                refine w_il (fun _ => rfl) (w_icI (x := 1) rfl ?_)
                refine w_ne2 (by omega) (by omega) (by omega) (by omega)  (fun c26 => ?_) (fun c26 => ?_)
                · refine w_run k_385142 (w_icI (x := 0) rfl (w_al (fun _ => rfl) (w_il (fun _ => rfl) (w_il (fun _ => rfl) (w_il (fun _ => rfl) ?_)))))
                  obtain ⟨_, mk27, ck27, rfl, lk27, uk27, nk27, hk27⟩ := iv_120 iv (congrArg Prod.fst b6)
                  rcases hk27 with ⟨kk27, rfl⟩ | ⟨kk27, rfl⟩ | ⟨kk27, rfl⟩ | ⟨kk27, rfl⟩ | ⟨kk27, rfl⟩ | ⟨kk27, rfl⟩
                  · refine w_vc (3, 40960, []) (fun _ => rfl) mk27 (fun _ => rfl) (w_ca (fun _ => rfl) rfl (w_run k_40960 (w_al (fun _ => rfl) (w_getf mk27 rfl (fun _ => rfl) (w_ri ⟨_, rfl, ?_⟩)))))
                    refine w_max (by omega) (by omega) (by omega) (by omega) rfl (fun x28 b29 => ?_)
                    refine w_ri ?_
                    exact k0 x28 (by omega) (by omega) (Or.inr ⟨(by unfold w_asg; omega), Or.inr ⟨by omega, (by first | exact ckk_0 (by omega) (by omega) (by omega) (by omega) | exact ckk_1 (by omega) (by omega) (by omega) (by omega) | exact ckk_2 (by omega) (by omega) (by omega) (by omega) | exact ckk_3 (by omega) (by omega) (by omega) (by omega) | exact ckk_4 (by omega) (by omega) (by omega) (by omega) | exact ckk_5 (by omega) (by omega) (by omega) (by omega))⟩⟩)
                  · refine w_vc (8, 282624, []) (fun _ => rfl) mk27 (fun _ => rfl) (w_ca (fun _ => rfl) rfl (w_run k_282624 (w_al (fun _ => rfl) (w_getf mk27 rfl (fun _ => rfl) (w_il (fun _ => rfl) (w_icI (x := 1) rfl (w_op (c := w_i ((st / 100) + 1)) (i_add (st / 100) 1) (w_op (c := w_i ((1 + (g_PN g ((o p3).2 : Int))) * ((st / 100) + 1))) (i_mul (1 + (g_PN g ((o p3).2 : Int))) ((st / 100) + 1)) (w_ri ⟨_, rfl, ?_⟩)))))))))
                    refine w_max (by omega) (by omega) (by omega) (by omega) rfl (fun x30 b31 => ?_)
                    refine w_ri ?_
                    exact k0 x30 (by omega) (by omega) (Or.inr ⟨(by unfold w_asg; omega), Or.inr ⟨by omega, (by first | exact ckk_0 (by omega) (by omega) (by omega) (by omega) | exact ckk_1 (by omega) (by omega) (by omega) (by omega) | exact ckk_2 (by omega) (by omega) (by omega) (by omega) | exact ckk_3 (by omega) (by omega) (by omega) (by omega) | exact ckk_4 (by omega) (by omega) (by omega) (by omega) | exact ckk_5 (by omega) (by omega) (by omega) (by omega))⟩⟩)
                  · refine w_vc (7, 270336, []) (fun _ => rfl) mk27 (fun _ => rfl) (w_ca (fun _ => rfl) rfl (w_run k_270336 (w_al (fun _ => rfl) (w_getf mk27 rfl (fun _ => rfl) (w_icI (x := 3) rfl (w_op (c := w_i ((1 + (g_PN g ((o p3).2 : Int))) + 3)) (i_add (1 + (g_PN g ((o p3).2 : Int))) 3) (w_ri ⟨_, rfl, ?_⟩)))))))
                    refine w_max (by omega) (by omega) (by omega) (by omega) rfl (fun x32 b33 => ?_)
                    refine w_ri ?_
                    exact k0 x32 (by omega) (by omega) (Or.inr ⟨(by unfold w_asg; omega), Or.inr ⟨by omega, (by first | exact ckk_0 (by omega) (by omega) (by omega) (by omega) | exact ckk_1 (by omega) (by omega) (by omega) (by omega) | exact ckk_2 (by omega) (by omega) (by omega) (by omega) | exact ckk_3 (by omega) (by omega) (by omega) (by omega) | exact ckk_4 (by omega) (by omega) (by omega) (by omega) | exact ckk_5 (by omega) (by omega) (by omega) (by omega))⟩⟩)
                  · refine w_vc (1, 20480, []) (fun _ => rfl) mk27 (fun _ => rfl) (w_ca (fun _ => rfl) rfl (w_run k_20480 (w_al (fun _ => rfl) (w_il (fun _ => rfl) (w_il (fun _ => rfl) (w_il (fun _ => rfl) (w_this (fun _ => rfl) mk27 (w_ca (fun _ => rfl) rfl (w_run k_282624 (w_al (fun _ => rfl) (w_getf mk27 rfl (fun _ => rfl) (w_il (fun _ => rfl) (w_icI (x := 1) rfl (w_op (c := w_i ((st / 100) + 1)) (i_add (st / 100) 1) (w_op (c := w_i ((1 + (g_PN g ((o p3).2 : Int))) * ((st / 100) + 1))) (i_mul (1 + (g_PN g ((o p3).2 : Int))) ((st / 100) + 1)) (w_ri ⟨_, rfl, ?_⟩))))))))))))))))
                    refine w_il (fun _ => rfl) (w_al (fun _ => rfl) (w_getf mk27 rfl (fun _ => rfl) (w_op (c := w_i ((st % 10) * (g_PN g ((o p3).2 : Int)))) (i_mul (st % 10) (g_PN g ((o p3).2 : Int))) (w_op (c := w_i (((1 + (g_PN g ((o p3).2 : Int))) * ((st / 100) + 1)) - ((st % 10) * (g_PN g ((o p3).2 : Int))))) (i_sub ((1 + (g_PN g ((o p3).2 : Int))) * ((st / 100) + 1)) ((st % 10) * (g_PN g ((o p3).2 : Int)))) (w_ri ⟨_, rfl, ?_⟩)))))
                    refine w_max (by omega) (by omega) (by omega) (by omega) rfl (fun x34 b35 => ?_)
                    refine w_ri ?_
                    exact k0 x34 (by omega) (by omega) (Or.inr ⟨(by unfold w_asg; omega), Or.inr ⟨by omega, (by first | exact ckk_0 (by omega) (by omega) (by omega) (by omega) | exact ckk_1 (by omega) (by omega) (by omega) (by omega) | exact ckk_2 (by omega) (by omega) (by omega) (by omega) | exact ckk_3 (by omega) (by omega) (by omega) (by omega) | exact ckk_4 (by omega) (by omega) (by omega) (by omega) | exact ckk_5 (by omega) (by omega) (by omega) (by omega))⟩⟩)
                  · refine w_vc (2, 32768, []) (fun _ => rfl) mk27 (fun _ => rfl) (w_ca (fun _ => rfl) rfl (w_run k_32768 (w_al (fun _ => rfl) (w_il (fun _ => rfl) (w_il (fun _ => rfl) (w_il (fun _ => rfl) (w_this (fun _ => rfl) mk27 (w_ca (fun _ => rfl) rfl (w_run k_270336 (w_al (fun _ => rfl) (w_getf mk27 rfl (fun _ => rfl) (w_icI (x := 3) rfl (w_op (c := w_i ((1 + (g_PN g ((o p3).2 : Int))) + 3)) (i_add (1 + (g_PN g ((o p3).2 : Int))) 3) (w_ri ⟨_, rfl, ?_⟩))))))))))))))
                    refine w_icI (x := 2) rfl (w_opz (c := w_i (((1 + (g_PN g ((o p3).2 : Int))) + 3) / 2)) (beq0 (by omega) (by omega) (by omega)) (i_div (by omega) (by omega) (by omega) (by omega)) ?_)
                    have b36 : 0 ≤ (((1 + (g_PN g ((o p3).2 : Int))) + 3) / 2) ∧ (((1 + (g_PN g ((o p3).2 : Int))) + 3) / 2) ≤ ((1 + (g_PN g ((o p3).2 : Int))) + 3) := ⟨Int.ediv_nonneg (by omega) (by omega), Int.ediv_le_self _ (by omega)⟩
                    refine w_ri ⟨_, rfl, ?_⟩
                    refine w_max (by omega) (by omega) (by omega) (by omega) rfl (fun x37 b38 => ?_)
                    refine w_ri ?_
                    exact k0 x37 (by omega) (by omega) (Or.inr ⟨(by unfold w_asg; omega), Or.inr ⟨by omega, (by first | exact ckk_0 (by omega) (by omega) (by omega) (by omega) | exact ckk_1 (by omega) (by omega) (by omega) (by omega) | exact ckk_2 (by omega) (by omega) (by omega) (by omega) | exact ckk_3 (by omega) (by omega) (by omega) (by omega) | exact ckk_4 (by omega) (by omega) (by omega) (by omega) | exact ckk_5 (by omega) (by omega) (by omega) (by omega))⟩⟩)
                  · refine w_vc (0, 8192, []) (fun _ => rfl) mk27 (fun _ => rfl) (w_ca (fun _ => rfl) rfl (w_run k_8192 (w_al (fun _ => rfl) (w_il (fun _ => rfl) (w_il (fun _ => rfl) (w_il (fun _ => rfl) (w_this (fun _ => rfl) mk27 (w_ca (fun _ => rfl) rfl (w_run k_270336 (w_al (fun _ => rfl) (w_getf mk27 rfl (fun _ => rfl) (w_icI (x := 3) rfl (w_op (c := w_i ((1 + (g_PN g ((o p3).2 : Int))) + 3)) (i_add (1 + (g_PN g ((o p3).2 : Int))) 3) (w_ri ⟨_, rfl, ?_⟩))))))))))))))
                    refine w_il (fun _ => rfl) (w_op (c := w_i (((1 + (g_PN g ((o p3).2 : Int))) + 3) + ((st / 10) % 10))) (i_add ((1 + (g_PN g ((o p3).2 : Int))) + 3) ((st / 10) % 10)) (w_ri ⟨_, rfl, ?_⟩))
                    refine w_max (by omega) (by omega) (by omega) (by omega) rfl (fun x39 b40 => ?_)
                    refine w_ri ?_
                    exact k0 x39 (by omega) (by omega) (Or.inr ⟨(by unfold w_asg; omega), Or.inr ⟨by omega, (by first | exact ckk_0 (by omega) (by omega) (by omega) (by omega) | exact ckk_1 (by omega) (by omega) (by omega) (by omega) | exact ckk_2 (by omega) (by omega) (by omega) (by omega) | exact ckk_3 (by omega) (by omega) (by omega) (by omega) | exact ckk_4 (by omega) (by omega) (by omega) (by omega) | exact ckk_5 (by omega) (by omega) (by omega) (by omega))⟩⟩)
                · refine w_al (fun _ => rfl) (w_il (fun _ => rfl) (w_il (fun _ => rfl) (w_il (fun _ => rfl) ?_)))
                  obtain ⟨_, mk41, ck41, rfl, lk41, uk41, nk41, hk41⟩ := iv_120 iv (congrArg Prod.fst b6)
                  rcases hk41 with ⟨kk41, rfl⟩ | ⟨kk41, rfl⟩ | ⟨kk41, rfl⟩ | ⟨kk41, rfl⟩ | ⟨kk41, rfl⟩ | ⟨kk41, rfl⟩
                  · refine w_vc (3, 45056, []) (fun _ => rfl) mk41 (fun _ => rfl) (w_ca (fun _ => rfl) rfl (w_run k_45056 (w_icI (x := 1) rfl (w_rz (by decide) ⟨_, rfl, ?_⟩))))
                    refine w_eqzf (by omega) (by omega) (by omega)  (w_icI (x := 1) rfl (w_go (w_run k_385141 (w_ri ?_))))
                    exact k0 1 (by omega) (by omega) (Or.inr ⟨(by unfold w_asg; omega), Or.inl ⟨by omega, Or.inl ⟨rfl, by unfold w_yes; omega⟩⟩⟩)
                  · refine w_vc (8, 45056, []) (fun _ => rfl) mk41 (fun _ => rfl) (w_ca (fun _ => rfl) rfl (w_run k_45056 (w_icI (x := 1) rfl (w_rz (by decide) ⟨_, rfl, ?_⟩))))
                    refine w_eqzf (by omega) (by omega) (by omega)  (w_icI (x := 1) rfl (w_go (w_run k_385141 (w_ri ?_))))
                    exact k0 1 (by omega) (by omega) (Or.inr ⟨(by unfold w_asg; omega), Or.inl ⟨by omega, Or.inl ⟨rfl, by unfold w_yes; omega⟩⟩⟩)
                  · refine w_vc (7, 274432, []) (fun _ => rfl) mk41 (fun _ => rfl) (w_ca (fun _ => rfl) rfl (w_run k_274432 (w_il (fun _ => rfl) (w_al (fun _ => rfl) (w_getf mk41 rfl (fun _ => rfl) (w_icI (x := 6) rfl (w_opz (c := w_i ((g_PN g ((o p3).2 : Int)) % 6)) (beq0 (by omega) (by omega) (by omega)) (i_rem (by omega) (by omega) (by omega) (by omega)) ?_)))))))
                    have b42 : 0 ≤ ((g_PN g ((o p3).2 : Int)) % 6) ∧ ((g_PN g ((o p3).2 : Int)) % 6) < 6 := ⟨Int.emod_nonneg _ (by omega), Int.emod_lt_of_pos _ (by omega)⟩
                    refine w_eq2 (by omega) (by omega) (by omega) (by omega)  (fun c43 => ?_) (fun c43 => ?_)
                    · refine w_run k_274447 (w_icI (x := 0) rfl (w_rz (by decide) ⟨_, rfl, ?_⟩))
                      refine w_eqzt (by omega) (by omega) (by omega)  (w_run k_385140 (w_icI (x := 0) rfl (w_ri ?_)))
                      exact k0 0 (by omega) (by omega) (Or.inr ⟨(by unfold w_asg; omega), Or.inl ⟨by omega, Or.inr ⟨rfl, by unfold w_noo; omega⟩⟩⟩)
                    · refine w_icI (x := 1) rfl (w_go (w_run k_274448 (w_rz (by decide) ⟨_, rfl, ?_⟩)))
                      refine w_eqzf (by omega) (by omega) (by omega)  (w_icI (x := 1) rfl (w_go (w_run k_385141 (w_ri ?_))))
                      exact k0 1 (by omega) (by omega) (Or.inr ⟨(by unfold w_asg; omega), Or.inl ⟨by omega, Or.inl ⟨rfl, by unfold w_yes; omega⟩⟩⟩)
                  · refine w_vc (1, 24576, []) (fun _ => rfl) mk41 (fun _ => rfl) (w_ca (fun _ => rfl) rfl (w_run k_24576 (w_il (fun _ => rfl) (w_al (fun _ => rfl) (w_getf mk41 rfl (fun _ => rfl) (w_icI (x := 5) rfl (w_opz (c := w_i ((g_PN g ((o p3).2 : Int)) % 5)) (beq0 (by omega) (by omega) (by omega)) (i_rem (by omega) (by omega) (by omega) (by omega)) ?_)))))))
                    have b44 : 0 ≤ ((g_PN g ((o p3).2 : Int)) % 5) ∧ ((g_PN g ((o p3).2 : Int)) % 5) < 5 := ⟨Int.emod_nonneg _ (by omega), Int.emod_lt_of_pos _ (by omega)⟩
                    refine w_eq2 (by omega) (by omega) (by omega) (by omega)  (fun c45 => ?_) (fun c45 => ?_)
                    · refine w_run k_24590 (w_icI (x := 0) rfl (w_rz (by decide) ⟨_, rfl, ?_⟩))
                      refine w_eqzt (by omega) (by omega) (by omega)  (w_run k_385140 (w_icI (x := 0) rfl (w_ri ?_)))
                      exact k0 0 (by omega) (by omega) (Or.inr ⟨(by unfold w_asg; omega), Or.inl ⟨by omega, Or.inr ⟨rfl, by unfold w_noo; omega⟩⟩⟩)
                    · refine w_icI (x := 1) rfl (w_go (w_run k_24591 (w_rz (by decide) ⟨_, rfl, ?_⟩)))
                      refine w_eqzf (by omega) (by omega) (by omega)  (w_icI (x := 1) rfl (w_go (w_run k_385141 (w_ri ?_))))
                      exact k0 1 (by omega) (by omega) (Or.inr ⟨(by unfold w_asg; omega), Or.inl ⟨by omega, Or.inl ⟨rfl, by unfold w_yes; omega⟩⟩⟩)
                  · refine w_vc (2, 274432, []) (fun _ => rfl) mk41 (fun _ => rfl) (w_ca (fun _ => rfl) rfl (w_run k_274432 (w_il (fun _ => rfl) (w_al (fun _ => rfl) (w_getf mk41 rfl (fun _ => rfl) (w_icI (x := 6) rfl (w_opz (c := w_i ((g_PN g ((o p3).2 : Int)) % 6)) (beq0 (by omega) (by omega) (by omega)) (i_rem (by omega) (by omega) (by omega) (by omega)) ?_)))))))
                    have b46 : 0 ≤ ((g_PN g ((o p3).2 : Int)) % 6) ∧ ((g_PN g ((o p3).2 : Int)) % 6) < 6 := ⟨Int.emod_nonneg _ (by omega), Int.emod_lt_of_pos _ (by omega)⟩
                    refine w_eq2 (by omega) (by omega) (by omega) (by omega)  (fun c47 => ?_) (fun c47 => ?_)
                    · refine w_run k_274447 (w_icI (x := 0) rfl (w_rz (by decide) ⟨_, rfl, ?_⟩))
                      refine w_eqzt (by omega) (by omega) (by omega)  (w_run k_385140 (w_icI (x := 0) rfl (w_ri ?_)))
                      exact k0 0 (by omega) (by omega) (Or.inr ⟨(by unfold w_asg; omega), Or.inl ⟨by omega, Or.inr ⟨rfl, by unfold w_noo; omega⟩⟩⟩)
                    · refine w_icI (x := 1) rfl (w_go (w_run k_274448 (w_rz (by decide) ⟨_, rfl, ?_⟩)))
                      refine w_eqzf (by omega) (by omega) (by omega)  (w_icI (x := 1) rfl (w_go (w_run k_385141 (w_ri ?_))))
                      exact k0 1 (by omega) (by omega) (Or.inr ⟨(by unfold w_asg; omega), Or.inl ⟨by omega, Or.inl ⟨rfl, by unfold w_yes; omega⟩⟩⟩)
                  · refine w_vc (0, 12288, []) (fun _ => rfl) mk41 (fun _ => rfl) (w_ca (fun _ => rfl) rfl (w_run k_12288 (w_al (fun _ => rfl) (w_il (fun _ => rfl) (w_il (fun _ => rfl) (w_il (fun _ => rfl) (w_this (fun _ => rfl) mk41 (w_ca (fun _ => rfl) rfl (w_run k_274432 (w_il (fun _ => rfl) (w_al (fun _ => rfl) (w_getf mk41 rfl (fun _ => rfl) (w_icI (x := 6) rfl (w_opz (c := w_i ((g_PN g ((o p3).2 : Int)) % 6)) (beq0 (by omega) (by omega) (by omega)) (i_rem (by omega) (by omega) (by omega) (by omega)) ?_))))))))))))))
                    have b48 : 0 ≤ ((g_PN g ((o p3).2 : Int)) % 6) ∧ ((g_PN g ((o p3).2 : Int)) % 6) < 6 := ⟨Int.emod_nonneg _ (by omega), Int.emod_lt_of_pos _ (by omega)⟩
                    refine w_eq2 (by omega) (by omega) (by omega) (by omega)  (fun c49 => ?_) (fun c49 => ?_)
                    · refine w_run k_274447 (w_icI (x := 0) rfl (w_rz (by decide) ⟨_, rfl, ?_⟩))
                      refine w_eqzt (by omega) (by omega) (by omega)  (w_run k_12309 (w_icI (x := 0) rfl (w_rz (by decide) ⟨_, rfl, ?_⟩)))
                      refine w_eqzt (by omega) (by omega) (by omega)  (w_run k_385140 (w_icI (x := 0) rfl (w_ri ?_)))
                      exact k0 0 (by omega) (by omega) (Or.inr ⟨(by unfold w_asg; omega), Or.inl ⟨by omega, Or.inr ⟨rfl, by unfold w_noo; omega⟩⟩⟩)
                    · refine w_icI (x := 1) rfl (w_go (w_run k_274448 (w_rz (by decide) ⟨_, rfl, ?_⟩)))
                      refine w_eqzf (by omega) (by omega) (by omega)  (w_il (fun _ => rfl) (w_il (fun _ => rfl) (w_icI (x := 1) rfl (w_op (c := w_i (((st / 10) % 10) - 1)) (i_sub ((st / 10) % 10) 1) ?_))))
                      refine w_eq2 (by omega) (by omega) (by omega) (by omega)  (fun c50 => ?_) (fun c50 => ?_)
                      · refine w_run k_12309 (w_icI (x := 0) rfl (w_rz (by decide) ⟨_, rfl, ?_⟩))
                        refine w_eqzt (by omega) (by omega) (by omega)  (w_run k_385140 (w_icI (x := 0) rfl (w_ri ?_)))
                        exact k0 0 (by omega) (by omega) (Or.inr ⟨(by unfold w_asg; omega), Or.inl ⟨by omega, Or.inr ⟨rfl, by unfold w_noo; omega⟩⟩⟩)
                      · refine w_icI (x := 1) rfl (w_go (w_run k_12310 (w_rz (by decide) ⟨_, rfl, ?_⟩)))
                        refine w_eqzf (by omega) (by omega) (by omega)  (w_icI (x := 1) rfl (w_go (w_run k_385141 (w_ri ?_))))
                        exact k0 1 (by omega) (by omega) (Or.inr ⟨(by unfold w_asg; omega), Or.inl ⟨by omega, Or.inl ⟨rfl, by unfold w_yes; omega⟩⟩⟩)
              · refine w_icI (x := (-2)) wn_2 (w_ri ?_)
                exact k0 (-2) (by omega) (by omega) (Or.inl ⟨rfl, by unfold w_asd; omega⟩)
            · refine w_eqzt (by omega) (by omega) (by omega)  (w_run k_385114 (w_icI (x := (-2)) wn_2 (w_ri ?_)))
              exact k0 (-2) (by omega) (by omega) (Or.inl ⟨rfl, by unfold w_asd; omega⟩)
          · refine w_eqzt (by omega) (by omega) (by omega)  (w_run k_385114 (w_icI (x := (-2)) wn_2 (w_ri ?_)))
            exact k0 (-2) (by omega) (by omega) (Or.inl ⟨rfl, by unfold w_asd; omega⟩)
        · refine w_eqzt (by omega) (by omega) (by omega)  (w_run k_385114 (w_icI (x := (-2)) wn_2 (w_ri ?_)))
          exact k0 (-2) (by omega) (by omega) (Or.inl ⟨rfl, by unfold w_asd; omega⟩)
      · refine w_nezf (by omega) (by omega) (by omega)  (w_icI (x := (-2)) wn_2 (w_ri ?_))
        exact k0 (-2) (by omega) (by omega) (Or.inl ⟨rfl, by unfold w_asd; omega⟩)
