theorem k_176128 : m_cg 176128 = g_43_0 := rfl
theorem k_176205 : m_cg 176205 = g_43_77 := rfl
theorem k_176177 : m_cg 176177 = g_43_49 := rfl
theorem k_176176 : m_cg 176176 = g_43_48 := rfl
theorem c_meet {g : w_G} {o : w_O} {h : m_H} {d : Nat} {Q : Option m_V → m_H → Prop} (iv : w_Inv g o h) {b : Int} {fro : Int} {to : Int} (fro_lo : -2147483648 ≤ fro) (fro_hi : fro ≤ 2147483647) (to_lo : -2147483648 ≤ to) (to_hi : to ≤ 2147483647) (hL : g_N g ≤ g_L g) (sf : w_SF g o h b) (k0 : ∀ h2 : m_H, w_Inv g o h2 → w_fr o [9, 100, 101, 102] h h2 → w_SF g o h2 b → ((0 ≤ to → to < g_N g → w_SF g o h2 1)) → Q none h2) : wp (d + 1) 176128 [.inr (.inl (some 9)), .inl (w_i fro), .inl (w_i to)] [] h Q := by
  have F := fr_rf (o := o) (h := h) (W := [9, 100, 101, 102])
  have W := iv_wc iv
  have Wo := iv_wo iv
  obtain ⟨kpr0, sta0, fnd0, kco0, A0, p9, pS, q1, q2, q3, q4, q5, q6, q7, q8, q9, q10, q11, q12, q13⟩ := sf
  have hm4 : (o (g_stp g)).2 ≤ 4096 := by omega
  refine w_run k_176128 (w_al (fun _ => rfl) (w_getf p9 rfl (fun _ => rfl) (w_il (fun _ => rfl) ?_)))
  obtain ⟨_, m1, kp1, sp1, rl1, rfl, l1_kp, u1_kp, l1_sp, u1_sp, l1_rl, u1_rl, f1_0, f1_1⟩ := iv_1 iv
  refine w_this (fun _ => rfl) m1 ?_
  refine w_ca (fun _ => rfl) rfl (c_isTown (d := d) iv (n := to) (by omega) (by omega)   (fun b2 b3 => ⟨_, rfl, ?_⟩) (fun b4 => ⟨_, rfl, ?_⟩))
  · refine w_eqzf (by omega) (by omega) (by omega)  (w_al (fun _ => rfl) (w_getf p9 rfl (fun _ => rfl) (w_il (fun _ => rfl) (w_aldI pS (by omega) (by omega) (by omega) ?_))))
    obtain ⟨b5, b6⟩ := ag_rg A0 to
    have e7 := q13 to (by omega) (by omega)
    refine w_icI (x := (-1)) wn_1 ?_
    refine w_ne2 (by omega) (by omega) (by omega) (by omega)  (fun c8 => ?_) (fun c8 => ?_)
    · have sfz : w_SF g o h b := ⟨kpr0, sta0, fnd0, kco0, A0, p9, pS, q1, q2, q3, q4, q5, q6, q7, q8, q9, q10, q11, q12, q13⟩
      refine w_run k_176205 (w_rv ?_)
      exact k0 h iv F sfz (fun t0 t1 => sf_1 sfz pS t0 t1 (by omega))
    · refine w_al (fun _ => rfl) (w_getf p9 rfl (fun _ => rfl) (w_il (fun _ => rfl) (w_al (fun _ => rfl) (w_getf p9 rfl (fun _ => rfl) (w_il (fun _ => rfl) (w_this (fun _ => rfl) m1 ?_))))))
      refine w_ca (fun _ => rfl) rfl (c_isTown (d := d) iv (n := fro) (by omega) (by omega)   (fun b9 b10 => ⟨_, rfl, ?_⟩) (fun b11 => ⟨_, rfl, ?_⟩))
      · refine w_eqzf (by omega) (by omega) (by omega)  (w_al (fun _ => rfl) (w_getf p9 rfl (fun _ => rfl) (w_il (fun _ => rfl) (w_aldI pS (by omega) (by omega) (by omega) ?_))))
        obtain ⟨b12, b13⟩ := ag_rg A0 fro
        have e14 := q13 fro (by omega) (by omega)
        refine w_icI (x := 1) rfl (w_op (c := w_i ((a_g A0 fro) + 1)) (i_add (a_g A0 fro) 1) (w_go (w_run k_176177 ?_)))
        refine w_astI pS (by omega) (by omega) (by omega) (by omega) (by omega) (fun A18 h16 w19 s15 => ?_)
        have iv17 := is_101 iv (ow_stp iv) s15 ⟨_, rfl, by assumption⟩
        have F20 := fr_st F s15 (by rw [(ow_stp iv)]; rfl)
        refine w_al (fun _ => rfl) ?_
        have m21 := st_fr s15 p9 (ne_tag (ow_9 iv) (ow_stp iv) rfl)
        refine w_getf m21 rfl (fun _ => rfl) (w_il (fun _ => rfl) (w_il (fun _ => rfl) ?_))
        obtain ⟨_, m22, A22, rfl, g22_0⟩ := iv_102 iv17 (ow_ahd iv17)
        refine w_astI m22 (by omega) (by omega) (by omega) (by omega) (by omega) (fun A26 h24 w27 s23 => ?_)
        have iv25 := is_102 iv17 (ow_ahd iv17) s23 ⟨_, rfl, by assumption⟩
        have F28 := fr_st F20 s23 (by rw [(ow_ahd iv17)]; rfl)
        have hlt : fnd0 < g_N g := by
          have := ct_lt (A := A0) (n := (g_N g).toNat) (x := to) (by omega) (by omega) (by omega) (by omega)
          omega
        refine w_al (fun _ => rfl) ?_
        have m29 := st_fr s23 m21 (ne_tag (ow_9 iv17) (ow_ahd iv17) rfl)
        refine w_getf m29 rfl (fun _ => rfl) (w_al (fun _ => rfl) (w_getf m29 rfl (fun _ => rfl) (w_il (fun _ => rfl) ?_)))
        obtain ⟨_, m30, A30, rfl, e30, g30_0⟩ := iv_100 iv25 (ow_rw iv25)
        refine w_astI m30 (by omega) (by omega) (by omega) (by omega) (by omega) (fun A34 h32 w35 s31 => ?_)
        have e36 : ∀ j : Int, 0 ≤ j → j < ((o (g_rw g)).2 : Int) → 0 ≤ a_g A34 j ∧ a_g A34 j < ((o (g_rw g)).2 : Int) := fun j j0 j1 => by
          rw [w35 j j0 j1]
          by_cases hj : j = fnd0
          · rw [if_pos hj]; omega
          · rw [if_neg hj]; exact e30 j j0 j1
        have iv33 := is_100 iv25 (ow_rw iv25) s31 ⟨_, rfl, e36, by assumption⟩
        have F37 := fr_st F28 s31 (by rw [(ow_rw iv25)]; rfl)
        refine w_al (fun _ => rfl) (w_dup (fun _ => rfl) ?_)
        have m38 := st_fr s31 m29 (ne_tag (ow_9 iv25) (ow_rw iv25) rfl)
        refine w_getf m38 rfl (fun _ => rfl) (w_icI (x := 1) rfl (w_op (c := w_i (fnd0 + 1)) (i_add fnd0 1) (w_putf [.inr (.inl (some 1)), .inr (.inl (some 10)), .inl (w_i kpr0), .inr (.inl (some 11)), .inl (w_i sta0), .inr (.inl (some (g_rw g))), .inl (w_i (fnd0 + 1)), .inr (.inl (some (g_stp g))), .inr (.inl (some (g_ahd g))), .inr (.inl (some (g_cst g))), .inr (.inl (some (g_chp g))), .inl (w_i kco0)] m38 rfl rfl rfl (fun _ => rfl) (fun h40 s39 => ?_))))
        have iv41 := is_9 iv33 s39 ⟨_, _, _, _, rfl, by omega, by omega, by omega, by omega, by omega, by omega, by omega, by omega, by omega, by omega, by omega, by omega, by omega, by omega, by omega⟩
        have F42 := fr_st F37 s39 (by rw [(ow_9 iv33)]; rfl)
        refine w_rv ?_
        have m43 := st_fr s23 s15.2.2.1 (ne_tag (ow_stp iv17) (ow_ahd iv17) rfl)
        have m44 := st_fr s31 m43 (ne_tag (ow_stp iv25) (ow_rw iv25) rfl)
        have m45 := st_fr s39 m44 (ne_tag (ow_stp iv33) (ow_9 iv33) rfl)
        have sfz : w_SF g o h40 b := by
          refine ⟨kpr0, sta0, fnd0 + 1, kco0, A18, s39.2.2.1, m45, by omega, by omega, by omega, by omega, by omega, by omega, by omega, by omega, by omega, by omega, by omega, ?_, fun v v0 v1 => ?_⟩
          · rw [ct_upd (A := A0) (x := to) (v := ((a_g A0 fro) + 1)) (by omega) (by omega) (by omega) (by omega) (fun j j0 j1 => w19 j j0 (by omega)), q12]
          · rw [w19 v v0 (by omega)]; have := q13 v v0 v1; by_cases hv : v = to
            · rw [if_pos hv]; omega
            · rw [if_neg hv]; omega
        exact k0 h40 iv41 F42 sfz (fun t0 t1 => sf_1 sfz m45 t0 t1 (by rw [w19 to (by omega) (by omega), if_pos rfl]; omega))
      · refine w_eqzt (by omega) (by omega) (by omega)  (w_run k_176176 (w_icI (x := 0) rfl ?_))
        refine w_astI pS (by omega) (by omega) (by omega) (by omega) (by omega) (fun A49 h47 w50 s46 => ?_)
        have iv48 := is_101 iv (ow_stp iv) s46 ⟨_, rfl, by assumption⟩
        have F51 := fr_st F s46 (by rw [(ow_stp iv)]; rfl)
        refine w_al (fun _ => rfl) ?_
        have m52 := st_fr s46 p9 (ne_tag (ow_9 iv) (ow_stp iv) rfl)
        refine w_getf m52 rfl (fun _ => rfl) (w_il (fun _ => rfl) (w_il (fun _ => rfl) ?_))
        obtain ⟨_, m53, A53, rfl, g53_0⟩ := iv_102 iv48 (ow_ahd iv48)
        refine w_astI m53 (by omega) (by omega) (by omega) (by omega) (by omega) (fun A57 h55 w58 s54 => ?_)
        have iv56 := is_102 iv48 (ow_ahd iv48) s54 ⟨_, rfl, by assumption⟩
        have F59 := fr_st F51 s54 (by rw [(ow_ahd iv48)]; rfl)
        have hlt : fnd0 < g_N g := by
          have := ct_lt (A := A0) (n := (g_N g).toNat) (x := to) (by omega) (by omega) (by omega) (by omega)
          omega
        refine w_al (fun _ => rfl) ?_
        have m60 := st_fr s54 m52 (ne_tag (ow_9 iv48) (ow_ahd iv48) rfl)
        refine w_getf m60 rfl (fun _ => rfl) (w_al (fun _ => rfl) (w_getf m60 rfl (fun _ => rfl) (w_il (fun _ => rfl) ?_)))
        obtain ⟨_, m61, A61, rfl, e61, g61_0⟩ := iv_100 iv56 (ow_rw iv56)
        refine w_astI m61 (by omega) (by omega) (by omega) (by omega) (by omega) (fun A65 h63 w66 s62 => ?_)
        have e67 : ∀ j : Int, 0 ≤ j → j < ((o (g_rw g)).2 : Int) → 0 ≤ a_g A65 j ∧ a_g A65 j < ((o (g_rw g)).2 : Int) := fun j j0 j1 => by
          rw [w66 j j0 j1]
          by_cases hj : j = fnd0
          · rw [if_pos hj]; omega
          · rw [if_neg hj]; exact e61 j j0 j1
        have iv64 := is_100 iv56 (ow_rw iv56) s62 ⟨_, rfl, e67, by assumption⟩
        have F68 := fr_st F59 s62 (by rw [(ow_rw iv56)]; rfl)
        refine w_al (fun _ => rfl) (w_dup (fun _ => rfl) ?_)
        have m69 := st_fr s62 m60 (ne_tag (ow_9 iv56) (ow_rw iv56) rfl)
        refine w_getf m69 rfl (fun _ => rfl) (w_icI (x := 1) rfl (w_op (c := w_i (fnd0 + 1)) (i_add fnd0 1) (w_putf [.inr (.inl (some 1)), .inr (.inl (some 10)), .inl (w_i kpr0), .inr (.inl (some 11)), .inl (w_i sta0), .inr (.inl (some (g_rw g))), .inl (w_i (fnd0 + 1)), .inr (.inl (some (g_stp g))), .inr (.inl (some (g_ahd g))), .inr (.inl (some (g_cst g))), .inr (.inl (some (g_chp g))), .inl (w_i kco0)] m69 rfl rfl rfl (fun _ => rfl) (fun h71 s70 => ?_))))
        have iv72 := is_9 iv64 s70 ⟨_, _, _, _, rfl, by omega, by omega, by omega, by omega, by omega, by omega, by omega, by omega, by omega, by omega, by omega, by omega, by omega, by omega, by omega⟩
        have F73 := fr_st F68 s70 (by rw [(ow_9 iv64)]; rfl)
        refine w_rv ?_
        have m74 := st_fr s54 s46.2.2.1 (ne_tag (ow_stp iv48) (ow_ahd iv48) rfl)
        have m75 := st_fr s62 m74 (ne_tag (ow_stp iv56) (ow_rw iv56) rfl)
        have m76 := st_fr s70 m75 (ne_tag (ow_stp iv64) (ow_9 iv64) rfl)
        have sfz : w_SF g o h71 b := by
          refine ⟨kpr0, sta0, fnd0 + 1, kco0, A49, s70.2.2.1, m76, by omega, by omega, by omega, by omega, by omega, by omega, by omega, by omega, by omega, by omega, by omega, ?_, fun v v0 v1 => ?_⟩
          · rw [ct_upd (A := A0) (x := to) (v := 0) (by omega) (by omega) (by omega) (by omega) (fun j j0 j1 => w50 j j0 (by omega)), q12]
          · rw [w50 v v0 (by omega)]; have := q13 v v0 v1; by_cases hv : v = to
            · rw [if_pos hv]; omega
            · rw [if_neg hv]; omega
        exact k0 h71 iv72 F73 sfz (fun t0 t1 => sf_1 sfz m76 t0 t1 (by rw [w50 to (by omega) (by omega), if_pos rfl]; omega))
  · have sfz : w_SF g o h b := ⟨kpr0, sta0, fnd0, kco0, A0, p9, pS, q1, q2, q3, q4, q5, q6, q7, q8, q9, q10, q11, q12, q13⟩
    refine w_eqzt (by omega) (by omega) (by omega)  (w_run k_176205 (w_rv ?_))
    exact k0 h iv F sfz (fun t0 t1 => sf_1 sfz pS t0 t1 (by omega))
theorem k_180281 : m_cg 180281 = g_44_57 := rfl
theorem k_180390 : m_cg 180390 = g_44_166 := rfl
theorem k_180328 : m_cg 180328 = g_44_104 := rfl
theorem l_widenC_57 {g : w_G} {o : w_O} {h0 : m_H} {d : Nat} {Q : Option m_V → m_H → Prop} {fro : Int} (fro_lo : -2147483648 ≤ fro) (fro_hi : fro ≤ 2147483647) (hL : g_N g ≤ g_L g) (q0_ : 0 ≤ fro) (q1_ : fro < g_L g) {wei : Int} {ho : Int} {f : Int} {hin : Int} (wei_lo : -2147483648 ≤ wei) (wei_hi : wei ≤ 2147483647) (ho_lo : -2147483648 ≤ ho) (ho_hi : ho ≤ 2147483647) (f_lo : -2147483648 ≤ f) (f_hi : f ≤ 2147483647) (hin_lo : -2147483648 ≤ hin) (hin_hi : hin ≤ 2147483647) (h0_ : 0 ≤ ho) (h1_ : ho < g_H g) (f0 : 0 ≤ f) (f1 : f < 5) (k0 : ∀ h2 : m_H, w_Inv g o h2 → w_fr o [11, 103, 104] h0 h2 → Q none h2) (kx : ∀ (x8_ x9_ : m_V), ∀ (t : Int), ∀ h2 : m_H, w_Inv g o h2 → w_fr o [11, 103, 104] h0 h2 → -2147483648 ≤ t → t ≤ 2147483647 → wp (d + 2) 180396 [.inr (.inl (some 9)), .inl (w_i fro), .inl (w_i 2), .inl (w_i wei), .inl (w_i ho), .inl (w_i f), .inl (w_i hin), .inl (w_i t), x8_, x9_] [] h2 Q) : ∀ (k : Nat) (h : m_H) (t : Int) (x8_ : m_V) (x9_ : m_V) (iv : w_Inv g o h) (F : w_fr o [11, 103, 104] h0 h) (t_lo : -2147483648 ≤ t) (t_hi : t ≤ 2147483647) (t0 : 0 ≤ t) (t1 : t ≤ g_C g), g_C g - t < (k : Int) → wp (d + 2) 180281 [.inr (.inl (some 9)), .inl (w_i fro), .inl (w_i 2), .inl (w_i wei), .inl (w_i ho), .inl (w_i f), .inl (w_i hin), .inl (w_i t), x8_, x9_] [] h Q := by
  intro k
  induction k with
  | zero => intro h t x8_ x9_ iv F t_lo t_hi t0 t1 hk; exact absurd hk (by omega)
  | succ k ih =>
    intro h t x8_ x9_ iv F t_lo t_hi t0 t1 hk
    have W := iv_wc iv
    have Wo := iv_wo iv
    refine w_run k_180281 (w_il (fun _ => rfl) (w_al (fun _ => rfl) ?_))
    obtain ⟨_, m1, kpr1, sta1, fnd1, kco1, rfl, l1_kpr, u1_kpr, l1_sta, u1_sta, l1_fnd, u1_fnd, l1_kco, u1_kco, f1_0, f1_1, f1_2, f1_3, f1_4, f1_5, f1_6⟩ := iv_9 iv
    refine w_getf m1 rfl (fun _ => rfl) ?_
    obtain ⟨_, m2, kp2, sp2, rl2, rfl, l2_kp, u2_kp, l2_sp, u2_sp, l2_rl, u2_rl, f2_0, f2_1⟩ := iv_1 iv
    refine w_getf m2 rfl (fun _ => rfl) ?_
    refine w_ge2 (by omega) (by omega) (by omega) (by omega)  (fun c3 => ?_) (fun c3 => ?_)
    · exact kx (x8_) (x9_) t h iv F (by omega) (by omega)  
    · refine w_al (fun _ => rfl) (w_getf m1 rfl (fun _ => rfl) (w_il (fun _ => rfl) (w_il (fun _ => rfl) (w_il (fun _ => rfl) (w_ca (fun _ => rfl) rfl (w_run k_159744 (w_il (fun _ => rfl) (w_icI (x := 5) rfl (w_op (c := w_i (ho * 5)) (i_mul ho 5) (w_il (fun _ => rfl) (w_op (c := w_i ((ho * 5) + f)) (i_add (ho * 5) f) (w_icI (x := 5) rfl (w_op (c := w_i (((ho * 5) + f) * 5)) (i_mul ((ho * 5) + f) 5) (w_il (fun _ => rfl) (w_op (c := w_i ((((ho * 5) + f) * 5) + t)) (i_add (((ho * 5) + f) * 5) t) (w_ri ⟨_, rfl, ?_⟩))))))))))))))))
      obtain ⟨_, m4, A4, rfl⟩ := iv_10 iv
      refine w_aldI m4 (by omega) (by omega) (by omega) ?_
      obtain ⟨b5, b6⟩ := ag_rg A4 ((((ho * 5) + f) * 5) + t)
      refine w_is (fun _ => rfl) (w_il (fun _ => rfl) ?_)
      refine w_ltz2 (by omega) (by omega)  (fun c7 => ?_) (fun c7 => ?_)
      · refine w_run k_180390 (w_inc (c := w_i (t + 1)) (fun _ => rfl) (i_addL (y := 1) rfl t) (fun _ => rfl) (w_go ?_))
        exact ih h (t + 1) (.inl (w_i (a_g A4 ((((ho * 5) + f) * 5) + t)))) (x9_) iv F (by omega) (by omega)  (by omega) (by omega) (by omega)
      · refine w_il (fun _ => rfl) (w_il (fun _ => rfl) (w_opR shr_lt (fun x8 x80 x81 x8e => ?_)))
        refine w_icI (x := 1) rfl (w_op01 and_1 (fun x9 x90 x91 x9e => ?_))
        refine w_icI (x := 1) rfl ?_
        refine w_ne2 (by omega) (by omega) (by omega) (by omega)  (fun c10 => ?_) (fun c10 => ?_)
        · refine w_run k_180328 (w_il (fun _ => rfl) (w_il (fun _ => rfl) (w_il (fun _ => rfl) (w_op (c := w_i (t - f)) (i_sub t f) (w_il (fun _ => rfl) (w_opR mul_lt (fun x11 x110 x111 x11e => ?_)))))))
          refine w_opR add_lt (fun x12 x120 x121 x12e => ?_)
          refine w_is (fun _ => rfl) (w_il (fun _ => rfl) (w_icI (x := 2) rfl (w_nef (by omega) (by omega) (by omega) (by omega) (by omega)  (w_al (fun _ => rfl) (w_il (fun _ => rfl) (w_al (fun _ => rfl) (w_getf m1 rfl (fun _ => rfl) (w_il (fun _ => rfl) ?_))))))))
          obtain ⟨_, m13, A13, rfl, g13_0⟩ := iv_103 iv (ow_cst iv)
          refine w_aldI m13 (by omega) (by omega) (by omega) ?_
          obtain ⟨b14, b15⟩ := ag_rg A13 fro
          refine w_il (fun _ => rfl) (w_opR add_lt (fun x16 x160 x161 x16e => ?_))
          refine w_this (fun _ => rfl) m1 ?_
          refine w_cv (fun _ => rfl) rfl (c_cheapen (d := d) iv (to := x12) (costs := x16) (by omega) (by omega) (by omega) (by omega) (by omega)  (fun h17 iv18 F19 => ⟨rfl, ?_⟩))
          have F20 := fr_ca F F19 (fun t ht => by simp at ht ⊢; omega)
          refine w_go (w_run k_180390 (w_inc (c := w_i (t + 1)) (fun _ => rfl) (i_addL (y := 1) rfl t) (fun _ => rfl) (w_go ?_)))
          exact ih h17 (t + 1) (.inl (w_i (a_g A4 ((((ho * 5) + f) * 5) + t)))) (.inl (w_i x12)) iv18 F20 (by omega) (by omega)  (by omega) (by omega) (by omega)
        · refine w_go (w_run k_180390 (w_inc (c := w_i (t + 1)) (fun _ => rfl) (i_addL (y := 1) rfl t) (fun _ => rfl) (w_go ?_)))
          exact ih h (t + 1) (.inl (w_i (a_g A4 ((((ho * 5) + f) * 5) + t)))) (x9_) iv F (by omega) (by omega)  (by omega) (by omega) (by omega)
theorem k_180234 : m_cg 180234 = g_44_10 := rfl
theorem k_180412 : m_cg 180412 = g_44_188 := rfl
theorem k_180396 : m_cg 180396 = g_44_172 := rfl
theorem l_widenC_10 {g : w_G} {o : w_O} {h0 : m_H} {d : Nat} {Q : Option m_V → m_H → Prop} {fro : Int} (fro_lo : -2147483648 ≤ fro) (fro_hi : fro ≤ 2147483647) (hL : g_N g ≤ g_L g) (q0_ : 0 ≤ fro) (q1_ : fro < g_L g) (k0 : ∀ h2 : m_H, w_Inv g o h2 → w_fr o [11, 103, 104] h0 h2 → Q none h2) : ∀ (k : Nat) (h : m_H) (wei ho : Int) (x5_ : m_V) (x6_ : m_V) (x7_ : m_V) (x8_ : m_V) (x9_ : m_V) (iv : w_Inv g o h) (F : w_fr o [11, 103, 104] h0 h) (wei_lo : -2147483648 ≤ wei) (wei_hi : wei ≤ 2147483647) (ho_lo : -2147483648 ≤ ho) (ho_hi : ho ≤ 2147483647) (h0_ : 0 ≤ ho) (h1_ : ho ≤ g_H g), g_H g - ho < (k : Int) → wp (d + 2) 180234 [.inr (.inl (some 9)), .inl (w_i fro), .inl (w_i 2), .inl (w_i wei), .inl (w_i ho), x5_, x6_, x7_, x8_, x9_] [] h Q := by
  intro k
  induction k with
  | zero => intro h wei ho x5_ x6_ x7_ x8_ x9_ iv F wei_lo wei_hi ho_lo ho_hi h0_ h1_ hk; exact absurd hk (by omega)
  | succ k ih =>
    intro h wei ho x5_ x6_ x7_ x8_ x9_ iv F wei_lo wei_hi ho_lo ho_hi h0_ h1_ hk
    have W := iv_wc iv
    have Wo := iv_wo iv
    refine w_run k_180234 (w_il (fun _ => rfl) (w_al (fun _ => rfl) ?_))
    obtain ⟨_, m1, kpr1, sta1, fnd1, kco1, rfl, l1_kpr, u1_kpr, l1_sta, u1_sta, l1_fnd, u1_fnd, l1_kco, u1_kco, f1_0, f1_1, f1_2, f1_3, f1_4, f1_5, f1_6⟩ := iv_9 iv
    refine w_getf m1 rfl (fun _ => rfl) ?_
    obtain ⟨_, m2, kp2, sp2, rl2, rfl, l2_kp, u2_kp, l2_sp, u2_sp, l2_rl, u2_rl, f2_0, f2_1⟩ := iv_1 iv
    refine w_getf m2 rfl (fun _ => rfl) ?_
    refine w_ge2 (by omega) (by omega) (by omega) (by omega)  (fun c3 => ?_) (fun c3 => ?_)
    · refine w_run k_180412 (w_rv ?_)
      exact k0 h iv F
    · refine w_al (fun _ => rfl) (w_getf m1 rfl (fun _ => rfl) (w_il (fun _ => rfl) ?_))
      obtain ⟨_, m4, A4, rfl, e4⟩ := iv_11 iv
      refine w_aldI m4 (by omega) (by omega) (by omega) ?_
      obtain ⟨b5, b6⟩ := ag_rg A4 ho
      have e7 := e4 ho (by omega) (by omega)
      refine w_is (fun _ => rfl) (w_al (fun _ => rfl) (w_getf m1 rfl (fun _ => rfl) (w_al (fun _ => rfl) (w_getf m1 rfl (fun _ => rfl) (w_getf m2 rfl (fun _ => rfl) (w_il (fun _ => rfl) ?_))))))
      obtain ⟨_, m8, A8, rfl, e8⟩ := iv_2 iv
      refine w_aldI m8 (by omega) (by omega) (by omega) ?_
      obtain ⟨b9, b10⟩ := ag_rg A8 ho
      have e11 := e8 ho (by omega) (by omega)
      refine w_al (fun _ => rfl) (w_getf m1 rfl (fun _ => rfl) (w_this (fun _ => rfl) m2 ?_))
      refine w_ca (fun _ => rfl) rfl (c_coloursOf (d := (d + 1)) iv (told := (a_g A8 ho)) (q := 11) (by omega) (by omega) m4  (fun y12 b13 b14 => ⟨_, rfl, ?_⟩))
      refine w_is (fun _ => rfl) (w_icI (x := 0) rfl (w_is (fun _ => rfl) (w_nur k_180281 ?_)))
      refine l_widenC_57   (wei := wei) (ho := ho) (f := (a_g A4 ho)) (hin := y12)  fro_lo fro_hi hL q0_ q1_  (by omega) (by omega) (by omega) (by omega) (by omega) (by omega) (by omega) (by omega) (by omega) (by omega) (by omega) (by omega) k0 (fun z16 z17 t15 h18 iv19 F20 b21 b22 => ?_) (g_C g - 0 + 1 : Int).toNat h 0 (x8_) (x9_) iv F (by omega) (by omega)  (by omega) (by omega) (by omega)
      refine w_run k_180396 (w_il (fun _ => rfl) (w_al (fun _ => rfl) ?_))
      obtain ⟨_, m23, kpr23, sta23, fnd23, kco23, rfl, l23_kpr, u23_kpr, l23_sta, u23_sta, l23_fnd, u23_fnd, l23_kco, u23_kco, f23_0, f23_1, f23_2, f23_3, f23_4, f23_5, f23_6⟩ := iv_9 iv19
      refine w_getf m23 rfl (fun _ => rfl) ?_
      obtain ⟨_, m24, kp24, sp24, rl24, rfl, l24_kp, u24_kp, l24_sp, u24_sp, l24_rl, u24_rl, f24_0, f24_1⟩ := iv_1 iv19
      refine w_getf m24 rfl (fun _ => rfl) (w_opR mul_lt (fun x25 x250 x251 x25e => ?_))
      refine w_is (fun _ => rfl) (w_inc (c := w_i (ho + 1)) (fun _ => rfl) (i_addL (y := 1) rfl ho) (fun _ => rfl) (w_go ?_))
      exact ih h18 x25 (ho + 1) (.inl (w_i (a_g A4 ho))) (.inl (w_i y12)) (.inl (w_i t15)) (z16) (z17) iv19 F20 (by omega) (by omega) (by omega) (by omega)  (by omega) (by omega) (by omega)
theorem k_180224 : m_cg 180224 = g_44_0 := rfl
theorem c_widenC {g : w_G} {o : w_O} {h : m_H} {d : Nat} {Q : Option m_V → m_H → Prop} (iv : w_Inv g o h) {fro : Int} (fro_lo : -2147483648 ≤ fro) (fro_hi : fro ≤ 2147483647) (hL : g_N g ≤ g_L g) (q0_ : 0 ≤ fro) (q1_ : fro < g_L g) (k0 : ∀ h2 : m_H, w_Inv g o h2 → w_fr o [11, 103, 104] h h2 → Q none h2) : wp (d + 2) 180224 [.inr (.inl (some 9)), .inl (w_i fro), .inl (w_i 2), .inr (.inr (.inl 0)), .inr (.inr (.inl 0)), .inr (.inr (.inl 0)), .inr (.inr (.inl 0)), .inr (.inr (.inl 0)), .inr (.inr (.inl 0)), .inr (.inr (.inl 0))] [] h Q := by
  have F := fr_rf (o := o) (h := h) (W := [11, 103, 104])
  have W := iv_wc iv
  have Wo := iv_wo iv
  refine w_run k_180224 (w_al (fun _ => rfl) (w_il (fun _ => rfl) ?_))
  obtain ⟨_, m1, kpr1, sta1, fnd1, kco1, rfl, l1_kpr, u1_kpr, l1_sta, u1_sta, l1_fnd, u1_fnd, l1_kco, u1_kco, f1_0, f1_1, f1_2, f1_3, f1_4, f1_5, f1_6⟩ := iv_9 iv
  refine w_this (fun _ => rfl) m1 ?_
  refine w_cv (fun _ => rfl) rfl (c_lookAt (d := (d + 1)) iv (n := fro) (by omega) (by omega) (by omega)  (fun h2 iv3 F4 => ⟨rfl, ?_⟩))
  have F5 := fr_ca F F4 (fun t ht => by simp at ht ⊢; omega)
  refine w_icI (x := 1) rfl (w_is (fun _ => rfl) (w_icI (x := 0) rfl (w_is (fun _ => rfl) (w_nur k_180234 ?_))))
  exact l_widenC_10     fro_lo fro_hi hL q0_ q1_    k0 (g_H g - 0 + 1 : Int).toNat h2 1 0 (.inr (.inr (.inl 0))) (.inr (.inr (.inl 0))) (.inr (.inr (.inl 0))) (.inr (.inr (.inl 0))) (.inr (.inr (.inl 0))) iv3 F5 (by omega) (by omega) (by omega) (by omega)  (by omega) (by omega) (by omega)
theorem k_180362 : m_cg 180362 = g_44_138 := rfl
theorem k_180383 : m_cg 180383 = g_44_159 := rfl
theorem l_widenM_57 {g : w_G} {o : w_O} {h0 : m_H} {d : Nat} {Q : Option m_V → m_H → Prop} {b : Int} {fro : Int} {how : Int} (fro_lo : -2147483648 ≤ fro) (fro_hi : fro ≤ 2147483647) (how_lo : -2147483648 ≤ how) (how_hi : how ≤ 2147483647) (hL : g_N g ≤ g_L g) (q0_ : 0 ≤ fro) (w0 : 0 ≤ how) (w1 : how ≤ 1) {wei : Int} {ho : Int} {f : Int} {hin : Int} (wei_lo : -2147483648 ≤ wei) (wei_hi : wei ≤ 2147483647) (ho_lo : -2147483648 ≤ ho) (ho_hi : ho ≤ 2147483647) (f_lo : -2147483648 ≤ f) (f_hi : f ≤ 2147483647) (hin_lo : -2147483648 ≤ hin) (hin_hi : hin ≤ 2147483647) (h0_ : 0 ≤ ho) (h1_ : ho < g_H g) (f0 : 0 ≤ f) (f1 : f < 5) (k0 : ∀ h2 : m_H, w_Inv g o h2 → w_fr o [9, 11, 100, 101, 102] h0 h2 → w_SF g o h2 b → Q none h2) (kx : ∀ (x8_ x9_ : m_V), ∀ (t : Int), ∀ h2 : m_H, w_Inv g o h2 → w_fr o [9, 11, 100, 101, 102] h0 h2 → w_SF g o h2 b → -2147483648 ≤ t → t ≤ 2147483647 → wp (d + 2) 180396 [.inr (.inl (some 9)), .inl (w_i fro), .inl (w_i how), .inl (w_i wei), .inl (w_i ho), .inl (w_i f), .inl (w_i hin), .inl (w_i t), x8_, x9_] [] h2 Q) : ∀ (k : Nat) (h : m_H) (t : Int) (x8_ : m_V) (x9_ : m_V) (iv : w_Inv g o h) (F : w_fr o [9, 11, 100, 101, 102] h0 h) (sf : w_SF g o h b) (t_lo : -2147483648 ≤ t) (t_hi : t ≤ 2147483647) (t0 : 0 ≤ t) (t1 : t ≤ g_C g), g_C g - t < (k : Int) → wp (d + 2) 180281 [.inr (.inl (some 9)), .inl (w_i fro), .inl (w_i how), .inl (w_i wei), .inl (w_i ho), .inl (w_i f), .inl (w_i hin), .inl (w_i t), x8_, x9_] [] h Q := by
  intro k
  induction k with
  | zero => intro h t x8_ x9_ iv F sf t_lo t_hi t0 t1 hk; exact absurd hk (by omega)
  | succ k ih =>
    intro h t x8_ x9_ iv F sf t_lo t_hi t0 t1 hk
    have W := iv_wc iv
    have Wo := iv_wo iv
    refine w_run k_180281 (w_il (fun _ => rfl) (w_al (fun _ => rfl) ?_))
    obtain ⟨_, m1, kpr1, sta1, fnd1, kco1, rfl, l1_kpr, u1_kpr, l1_sta, u1_sta, l1_fnd, u1_fnd, l1_kco, u1_kco, f1_0, f1_1, f1_2, f1_3, f1_4, f1_5, f1_6⟩ := iv_9 iv
    refine w_getf m1 rfl (fun _ => rfl) ?_
    obtain ⟨_, m2, kp2, sp2, rl2, rfl, l2_kp, u2_kp, l2_sp, u2_sp, l2_rl, u2_rl, f2_0, f2_1⟩ := iv_1 iv
    refine w_getf m2 rfl (fun _ => rfl) ?_
    refine w_ge2 (by omega) (by omega) (by omega) (by omega)  (fun c3 => ?_) (fun c3 => ?_)
    · exact kx (x8_) (x9_) t h iv F sf (by omega) (by omega)  
    · refine w_al (fun _ => rfl) (w_getf m1 rfl (fun _ => rfl) (w_il (fun _ => rfl) (w_il (fun _ => rfl) (w_il (fun _ => rfl) (w_ca (fun _ => rfl) rfl (w_run k_159744 (w_il (fun _ => rfl) (w_icI (x := 5) rfl (w_op (c := w_i (ho * 5)) (i_mul ho 5) (w_il (fun _ => rfl) (w_op (c := w_i ((ho * 5) + f)) (i_add (ho * 5) f) (w_icI (x := 5) rfl (w_op (c := w_i (((ho * 5) + f) * 5)) (i_mul ((ho * 5) + f) 5) (w_il (fun _ => rfl) (w_op (c := w_i ((((ho * 5) + f) * 5) + t)) (i_add (((ho * 5) + f) * 5) t) (w_ri ⟨_, rfl, ?_⟩))))))))))))))))
      obtain ⟨_, m4, A4, rfl⟩ := iv_10 iv
      refine w_aldI m4 (by omega) (by omega) (by omega) ?_
      obtain ⟨b5, b6⟩ := ag_rg A4 ((((ho * 5) + f) * 5) + t)
      refine w_is (fun _ => rfl) (w_il (fun _ => rfl) ?_)
      refine w_ltz2 (by omega) (by omega)  (fun c7 => ?_) (fun c7 => ?_)
      · refine w_run k_180390 (w_inc (c := w_i (t + 1)) (fun _ => rfl) (i_addL (y := 1) rfl t) (fun _ => rfl) (w_go ?_))
        exact ih h (t + 1) (.inl (w_i (a_g A4 ((((ho * 5) + f) * 5) + t)))) (x9_) iv F sf (by omega) (by omega)  (by omega) (by omega) (by omega)
      · refine w_il (fun _ => rfl) (w_il (fun _ => rfl) (w_opR shr_lt (fun x8 x80 x81 x8e => ?_)))
        refine w_icI (x := 1) rfl (w_op01 and_1 (fun x9 x90 x91 x9e => ?_))
        refine w_icI (x := 1) rfl ?_
        refine w_ne2 (by omega) (by omega) (by omega) (by omega)  (fun c10 => ?_) (fun c10 => ?_)
        · refine w_run k_180328 (w_il (fun _ => rfl) (w_il (fun _ => rfl) (w_il (fun _ => rfl) (w_op (c := w_i (t - f)) (i_sub t f) (w_il (fun _ => rfl) (w_opR mul_lt (fun x11 x110 x111 x11e => ?_)))))))
          refine w_opR add_lt (fun x12 x120 x121 x12e => ?_)
          refine w_is (fun _ => rfl) (w_il (fun _ => rfl) (w_icI (x := 2) rfl (w_net (by omega) (by omega) (by omega) (by omega) (by omega)  (w_run k_180362 (w_il (fun _ => rfl) ?_)))))
          refine w_eqz2 (by omega) (by omega)  (fun c13 => ?_) (fun c13 => ?_)
          · refine w_run k_180383 (w_al (fun _ => rfl) (w_il (fun _ => rfl) (w_il (fun _ => rfl) (w_this (fun _ => rfl) m1 ?_))))
            refine w_cv (fun _ => rfl) rfl (c_meet (d := d) iv (fro := fro) (to := x12) (by omega) (by omega) (by omega) (by omega) (by omega) sf (fun h14 iv15 F16 b17 b18 => ⟨rfl, ?_⟩))
            have F19 := fr_ca F F16 (fun t ht => by simp at ht ⊢; omega)
            refine w_inc (c := w_i (t + 1)) (fun _ => rfl) (i_addL (y := 1) rfl t) (fun _ => rfl) (w_go ?_)
            exact ih h14 (t + 1) (.inl (w_i (a_g A4 ((((ho * 5) + f) * 5) + t)))) (.inl (w_i x12)) iv15 F19 b17 (by omega) (by omega)  (by omega) (by omega) (by omega)
          · refine w_al (fun _ => rfl) (w_getf m1 rfl (fun _ => rfl) (w_il (fun _ => rfl) (w_il (fun _ => rfl) (w_il (fun _ => rfl) (w_ca (fun _ => rfl) rfl (w_run k_159744 (w_il (fun _ => rfl) (w_icI (x := 5) rfl (w_op (c := w_i (ho * 5)) (i_mul ho 5) (w_il (fun _ => rfl) (w_op (c := w_i ((ho * 5) + t)) (i_add (ho * 5) t) (w_icI (x := 5) rfl (w_op (c := w_i (((ho * 5) + t) * 5)) (i_mul ((ho * 5) + t) 5) (w_il (fun _ => rfl) (w_op (c := w_i ((((ho * 5) + t) * 5) + f)) (i_add (((ho * 5) + t) * 5) f) (w_ri ⟨_, rfl, ?_⟩))))))))))))))))
            refine w_aldI m4 (by omega) (by omega) (by omega) ?_
            obtain ⟨b20, b21⟩ := ag_rg A4 ((((ho * 5) + t) * 5) + f)
            refine w_ltz2 (by omega) (by omega)  (fun c22 => ?_) (fun c22 => ?_)
            · refine w_run k_180390 (w_inc (c := w_i (t + 1)) (fun _ => rfl) (i_addL (y := 1) rfl t) (fun _ => rfl) (w_go ?_))
              exact ih h (t + 1) (.inl (w_i (a_g A4 ((((ho * 5) + f) * 5) + t)))) (.inl (w_i x12)) iv F sf (by omega) (by omega)  (by omega) (by omega) (by omega)
            · refine w_al (fun _ => rfl) (w_il (fun _ => rfl) (w_il (fun _ => rfl) (w_this (fun _ => rfl) m1 ?_)))
              refine w_cv (fun _ => rfl) rfl (c_meet (d := d) iv (fro := fro) (to := x12) (by omega) (by omega) (by omega) (by omega) (by omega) sf (fun h23 iv24 F25 b26 b27 => ⟨rfl, ?_⟩))
              have F28 := fr_ca F F25 (fun t ht => by simp at ht ⊢; omega)
              refine w_inc (c := w_i (t + 1)) (fun _ => rfl) (i_addL (y := 1) rfl t) (fun _ => rfl) (w_go ?_)
              exact ih h23 (t + 1) (.inl (w_i (a_g A4 ((((ho * 5) + f) * 5) + t)))) (.inl (w_i x12)) iv24 F28 b26 (by omega) (by omega)  (by omega) (by omega) (by omega)
        · refine w_go (w_run k_180390 (w_inc (c := w_i (t + 1)) (fun _ => rfl) (i_addL (y := 1) rfl t) (fun _ => rfl) (w_go ?_)))
          exact ih h (t + 1) (.inl (w_i (a_g A4 ((((ho * 5) + f) * 5) + t)))) (x9_) iv F sf (by omega) (by omega)  (by omega) (by omega) (by omega)
theorem l_widenM_10 {g : w_G} {o : w_O} {h0 : m_H} {d : Nat} {Q : Option m_V → m_H → Prop} {b : Int} {fro : Int} {how : Int} (fro_lo : -2147483648 ≤ fro) (fro_hi : fro ≤ 2147483647) (how_lo : -2147483648 ≤ how) (how_hi : how ≤ 2147483647) (hL : g_N g ≤ g_L g) (q0_ : 0 ≤ fro) (w0 : 0 ≤ how) (w1 : how ≤ 1) (k0 : ∀ h2 : m_H, w_Inv g o h2 → w_fr o [9, 11, 100, 101, 102] h0 h2 → w_SF g o h2 b → Q none h2) : ∀ (k : Nat) (h : m_H) (wei ho : Int) (x5_ : m_V) (x6_ : m_V) (x7_ : m_V) (x8_ : m_V) (x9_ : m_V) (iv : w_Inv g o h) (F : w_fr o [9, 11, 100, 101, 102] h0 h) (sf : w_SF g o h b) (wei_lo : -2147483648 ≤ wei) (wei_hi : wei ≤ 2147483647) (ho_lo : -2147483648 ≤ ho) (ho_hi : ho ≤ 2147483647) (h0_ : 0 ≤ ho) (h1_ : ho ≤ g_H g), g_H g - ho < (k : Int) → wp (d + 2) 180234 [.inr (.inl (some 9)), .inl (w_i fro), .inl (w_i how), .inl (w_i wei), .inl (w_i ho), x5_, x6_, x7_, x8_, x9_] [] h Q := by
  intro k
  induction k with
  | zero => intro h wei ho x5_ x6_ x7_ x8_ x9_ iv F sf wei_lo wei_hi ho_lo ho_hi h0_ h1_ hk; exact absurd hk (by omega)
  | succ k ih =>
    intro h wei ho x5_ x6_ x7_ x8_ x9_ iv F sf wei_lo wei_hi ho_lo ho_hi h0_ h1_ hk
    have W := iv_wc iv
    have Wo := iv_wo iv
    refine w_run k_180234 (w_il (fun _ => rfl) (w_al (fun _ => rfl) ?_))
    obtain ⟨_, m1, kpr1, sta1, fnd1, kco1, rfl, l1_kpr, u1_kpr, l1_sta, u1_sta, l1_fnd, u1_fnd, l1_kco, u1_kco, f1_0, f1_1, f1_2, f1_3, f1_4, f1_5, f1_6⟩ := iv_9 iv
    refine w_getf m1 rfl (fun _ => rfl) ?_
    obtain ⟨_, m2, kp2, sp2, rl2, rfl, l2_kp, u2_kp, l2_sp, u2_sp, l2_rl, u2_rl, f2_0, f2_1⟩ := iv_1 iv
    refine w_getf m2 rfl (fun _ => rfl) ?_
    refine w_ge2 (by omega) (by omega) (by omega) (by omega)  (fun c3 => ?_) (fun c3 => ?_)
    · refine w_run k_180412 (w_rv ?_)
      exact k0 h iv F sf
    · refine w_al (fun _ => rfl) (w_getf m1 rfl (fun _ => rfl) (w_il (fun _ => rfl) ?_))
      obtain ⟨_, m4, A4, rfl, e4⟩ := iv_11 iv
      refine w_aldI m4 (by omega) (by omega) (by omega) ?_
      obtain ⟨b5, b6⟩ := ag_rg A4 ho
      have e7 := e4 ho (by omega) (by omega)
      refine w_is (fun _ => rfl) (w_al (fun _ => rfl) (w_getf m1 rfl (fun _ => rfl) (w_al (fun _ => rfl) (w_getf m1 rfl (fun _ => rfl) (w_getf m2 rfl (fun _ => rfl) (w_il (fun _ => rfl) ?_))))))
      obtain ⟨_, m8, A8, rfl, e8⟩ := iv_2 iv
      refine w_aldI m8 (by omega) (by omega) (by omega) ?_
      obtain ⟨b9, b10⟩ := ag_rg A8 ho
      have e11 := e8 ho (by omega) (by omega)
      refine w_al (fun _ => rfl) (w_getf m1 rfl (fun _ => rfl) (w_this (fun _ => rfl) m2 ?_))
      refine w_ca (fun _ => rfl) rfl (c_coloursOf (d := (d + 1)) iv (told := (a_g A8 ho)) (q := 11) (by omega) (by omega) m4  (fun y12 b13 b14 => ⟨_, rfl, ?_⟩))
      refine w_is (fun _ => rfl) (w_icI (x := 0) rfl (w_is (fun _ => rfl) (w_nur k_180281 ?_)))
      refine l_widenM_57  (b := b) (wei := wei) (ho := ho) (f := (a_g A4 ho)) (hin := y12)  fro_lo fro_hi how_lo how_hi hL q0_ w0 w1  (by omega) (by omega) (by omega) (by omega) (by omega) (by omega) (by omega) (by omega) (by omega) (by omega) (by omega) (by omega) k0 (fun z16 z17 t15 h18 iv19 F20 sf21 b22 b23 => ?_) (g_C g - 0 + 1 : Int).toNat h 0 (x8_) (x9_) iv F sf (by omega) (by omega)  (by omega) (by omega) (by omega)
      refine w_run k_180396 (w_il (fun _ => rfl) (w_al (fun _ => rfl) ?_))
      obtain ⟨_, m24, kpr24, sta24, fnd24, kco24, rfl, l24_kpr, u24_kpr, l24_sta, u24_sta, l24_fnd, u24_fnd, l24_kco, u24_kco, f24_0, f24_1, f24_2, f24_3, f24_4, f24_5, f24_6⟩ := iv_9 iv19
      refine w_getf m24 rfl (fun _ => rfl) ?_
      obtain ⟨_, m25, kp25, sp25, rl25, rfl, l25_kp, u25_kp, l25_sp, u25_sp, l25_rl, u25_rl, f25_0, f25_1⟩ := iv_1 iv19
      refine w_getf m25 rfl (fun _ => rfl) (w_opR mul_lt (fun x26 x260 x261 x26e => ?_))
      refine w_is (fun _ => rfl) (w_inc (c := w_i (ho + 1)) (fun _ => rfl) (i_addL (y := 1) rfl ho) (fun _ => rfl) (w_go ?_))
      exact ih h18 x26 (ho + 1) (.inl (w_i (a_g A4 ho))) (.inl (w_i y12)) (.inl (w_i t15)) (z16) (z17) iv19 F20 sf21 (by omega) (by omega) (by omega) (by omega)  (by omega) (by omega) (by omega)
theorem c_widenM {g : w_G} {o : w_O} {h : m_H} {d : Nat} {Q : Option m_V → m_H → Prop} (iv : w_Inv g o h) {b : Int} {fro : Int} {how : Int} (fro_lo : -2147483648 ≤ fro) (fro_hi : fro ≤ 2147483647) (how_lo : -2147483648 ≤ how) (how_hi : how ≤ 2147483647) (hL : g_N g ≤ g_L g) (q0_ : 0 ≤ fro) (w0 : 0 ≤ how) (w1 : how ≤ 1) (sf : w_SF g o h b) (k0 : ∀ h2 : m_H, w_Inv g o h2 → w_fr o [9, 11, 100, 101, 102] h h2 → w_SF g o h2 b → Q none h2) : wp (d + 2) 180224 [.inr (.inl (some 9)), .inl (w_i fro), .inl (w_i how), .inr (.inr (.inl 0)), .inr (.inr (.inl 0)), .inr (.inr (.inl 0)), .inr (.inr (.inl 0)), .inr (.inr (.inl 0)), .inr (.inr (.inl 0)), .inr (.inr (.inl 0))] [] h Q := by
  have F := fr_rf (o := o) (h := h) (W := [9, 11, 100, 101, 102])
  have W := iv_wc iv
  have Wo := iv_wo iv
  refine w_run k_180224 (w_al (fun _ => rfl) (w_il (fun _ => rfl) ?_))
  obtain ⟨_, m1, kpr1, sta1, fnd1, kco1, rfl, l1_kpr, u1_kpr, l1_sta, u1_sta, l1_fnd, u1_fnd, l1_kco, u1_kco, f1_0, f1_1, f1_2, f1_3, f1_4, f1_5, f1_6⟩ := iv_9 iv
  refine w_this (fun _ => rfl) m1 ?_
  refine w_cv (fun _ => rfl) rfl (c_lookAt (d := (d + 1)) iv (n := fro) (by omega) (by omega) (by omega)  (fun h2 iv3 F4 => ⟨rfl, ?_⟩))
  have F5 := fr_ca F F4 (fun t ht => by simp at ht ⊢; omega)
  refine w_icI (x := 1) rfl (w_is (fun _ => rfl) (w_icI (x := 0) rfl (w_is (fun _ => rfl) (w_nur k_180234 ?_))))
  have sf6 := sf_fr iv sf F4 rfl
  exact l_widenM_10  (b := b)   fro_lo fro_hi how_lo how_hi hL q0_ w0 w1    k0 (g_H g - 0 + 1 : Int).toNat h2 1 0 (.inr (.inr (.inl 0))) (.inr (.inr (.inl 0))) (.inr (.inr (.inl 0))) (.inr (.inr (.inl 0))) (.inr (.inr (.inl 0))) iv3 F5 sf6 (by omega) (by omega) (by omega) (by omega)  (by omega) (by omega) (by omega)
