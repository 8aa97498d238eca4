theorem k_688128 : m_cg 688128 = g_168_0 := rfl
theorem k_688153 : m_cg 688153 = g_168_25 := rfl
theorem k_675840 : m_cg 675840 = g_165_0 := rfl
theorem k_675851 : m_cg 675851 = g_165_11 := rfl
theorem k_684032 : m_cg 684032 = g_167_0 := rfl
theorem k_684064 : m_cg 684064 = g_167_32 := rfl
theorem k_647168 : m_cg 647168 = g_158_0 := rfl
theorem k_684074 : m_cg 684074 = g_167_42 := rfl
theorem l_mLetsFrom_0 {g : w_G} {o : w_O} {h0 : m_H} {d : Nat} {Q : Option m_V → m_H → Prop} {rw : Int} {st : Int} {sl : Int} {n0 : Int} {hg : Int} (hg_lo : -2147483648 ≤ hg) (hg_hi : hg ≤ 2147483647) (g0_ : 1 ≤ hg) (g1_ : hg ≤ 7) (k0 : ∀ h2 : m_H, w_Inv g o h2 → w_fr o [31, 51, 52] h0 h2 → (∃ m : Int, w_rd g o h2 rw 1 st m hg sl n0) → Q none h2) : ∀ (k : Nat) (h : m_H) (m : Int) (iv : w_Inv g o h) (F : w_fr o [31, 51, 52] h0 h) (rdl : w_rd g o h rw 1 st m 7 sl n0) (m0_ : 0 ≤ m), m < (k : Int) → wp (d + 3) 688128 [.inr (.inl (some 31)), .inl (w_i hg)] [] h Q := by
  intro k
  induction k with
  | zero => intro h m iv F rdl m0_ hk; exact absurd hk (by omega)
  | succ k ih =>
    intro h m iv F rdl m0_ hk
    have W := iv_wm iv
    obtain ⟨Aw1, Bw1, Cw1, xw1, paw1, pbw1, pcw1, a1w1, a2w1, a3w1, a4w1, a5w1, a6w1, a7w1, a8w1, a9w1, aaw1, abw1⟩ := (id rdl)
    have hmrw1 := rs_n xw1
    have a0w1 := iv_51h iv paw1
    have b0w1 := iv_52h iv pbw1
    obtain ⟨sprz2, keez2, rulz2, tpdz2, nxtz2, tokz2, tkaz2, valz2, opnz2, kspz2, kkez2, kruz2, pz2, rz2_0, rz2_1, rz2_2, rz2_3, rz2_4, rz2_5, rz2_6, rz2_7, rz2_8, rz2_9, rz2_10, rz2_11, rz2_12, rz2_13, rz2_14, rz2_15, rz2_16, rz2_17, rz2_18, rz2_19, rz2_20, rz2_21, rz2_22, rz2_23, rz2_24, rz2_25, rz2_26, rz2_27, rz2_28, rz2_29, rz2_30, rz2_31, rz2_32, rz2_33, rz2_34, rz2_35, rz2_36, rz2_37, sz2_0, sz2_1, sz2_2, sz2_3, sz2_4, sz2_5, sz2_6, sz2_7, sz2_8⟩ := (id xw1)
    refine w_run k_688128 (w_al (fun _ => rfl) (w_getf pz2 rfl (fun _ => rfl) ?_))
    refine w_lez2 (by omega) (by omega)  (fun c3 => ?_) (fun c3 => ?_)
    · refine w_run k_688153 (w_rv ?_)
      exact k0 h iv F ⟨m, _, _, _, ⟨_, _, _, _, _, _, _, _, _, _, _, _, pz2, by omega, by omega, by omega, by omega, by omega, by omega, by omega, by omega, by omega, by omega, by omega, by omega, by omega, by omega, by omega, by omega, by omega, by omega, by omega, by omega, by omega, by omega, by omega, by omega, by omega, by omega, by omega, by omega, by omega, by omega, by omega, by omega, by omega, by omega, by omega, by omega, by omega, by omega, by omega, by omega, by omega, by omega, by omega, by omega, by omega, by omega, by omega⟩, paw1, pbw1, pcw1, by omega, by omega, by omega, by omega, by omega, by omega, a7w1, a8w1, a9w1, (fun _ => by omega), abw1⟩
    · refine w_al (fun _ => rfl) (w_this (fun _ => rfl) pz2 (w_ca (fun _ => rfl) rfl (w_run k_675840 (w_al (fun _ => rfl) (w_getf pz2 rfl (fun _ => rfl) (w_nezt (by omega) (by omega) (by omega)  (w_run k_675851 (w_al (fun _ => rfl) (w_getf pz2 rfl (fun _ => rfl) (w_al (fun _ => rfl) (w_getf pz2 rfl (fun _ => rfl) (w_icI (x := 1) rfl (w_op (c := w_i (m - 1)) (i_sub m 1) (w_aldI pcw1 (by omega) (by omega) (by omega) ?_))))))))))))))
      obtain ⟨b4, b5⟩ := ag_rg Cw1 (m - 1)
      have e6 := a9w1 (m - 1) (by omega) (by omega)
      refine w_ri ⟨_, rfl, ?_⟩
      refine w_ca (fun _ => rfl) rfl (c_mHeightX (d := (d + 2)) iv (n := (a_g Cw1 (m - 1))) (by omega) (by omega)   (fun y7 b8 b9 b10 b11 b12 => ⟨_, rfl, ?_⟩))
      refine w_il (fun _ => rfl) ?_
      refine w_lt2 (by omega) (by omega) (by omega) (by omega)  (fun c13 => ?_) (fun c13 => ?_)
      · refine w_run k_688153 (w_rv ?_)
        exact k0 h iv F ⟨m, _, _, _, ⟨_, _, _, _, _, _, _, _, _, _, _, _, pz2, by omega, by omega, by omega, by omega, by omega, by omega, by omega, by omega, by omega, by omega, by omega, by omega, by omega, by omega, by omega, by omega, by omega, by omega, by omega, by omega, by omega, by omega, by omega, by omega, by omega, by omega, by omega, by omega, by omega, by omega, by omega, by omega, by omega, by omega, by omega, by omega, by omega, by omega, by omega, by omega, by omega, by omega, by omega, by omega, by omega, by omega, by omega⟩, paw1, pbw1, pcw1, by omega, by omega, by omega, by omega, by omega, by omega, a7w1, a8w1, a9w1, (fun _ => by omega), abw1⟩
      · have hbc0 := bc_c (C := Cw1) (m := m - 1) (by omega)
        rw [show m - 1 + 1 = m from by omega] at hbc0
        have hb00 := bc_0 Cw1 (m - 1).toNat
        refine w_al (fun _ => rfl) (w_this (fun _ => rfl) pz2 (w_cv (fun _ => rfl) rfl (w_run k_684032 (w_al (fun _ => rfl) (w_dup (fun _ => rfl) (w_getf pz2 rfl (fun _ => rfl) (w_icI (x := 1) rfl (w_op (c := w_i (m - 1)) (i_sub m 1) (w_putf [.inr (.inl (some 32)), .inr (.inl (some 33)), .inr (.inl (some 34)), .inr (.inl (some 35)), .inr (.inl (some 36)), .inl (w_i (g_mH g)), .inl (w_i (g_mC g)), .inl (w_i sprz2), .inl (w_i keez2), .inl (w_i (g_mnp g)), .inl (w_i rulz2), .inl (w_i (g_mhi g)), .inr (.inl (some 37)), .inr (.inl (some 50)), .inr (.inl (some 51)), .inr (.inl (some 52)), .inr (.inl (some 53)), .inr (.inl (some 54)), .inl (w_i tpdz2), .inl (w_i (g_mnt g)), .inl (w_i nxtz2), .inl (w_i tokz2), .inl (w_i tkaz2), .inl (w_i valz2), .inl (w_i opnz2), .inl (w_i (m - 1)), .inl (w_i rw), .inr (.inl (some 55)), .inr (.inl (some 56)), .inr (.inl (some 57)), .inr (.inl (some 58)), .inr (.inl (some 59)), .inr (.inl (some 60)), .inr (.inl (some 61)), .inr (.inl (some 62)), .inl (w_i kspz2), .inl (w_i kkez2), .inl (w_i kruz2), .inr (.inl (some 63)), .inr (.inl (some 64)), .inr (.inl (some 65)), .inr (.inl (some 66))] pz2 rfl rfl rfl (fun _ => rfl) (fun h15 s14 => ?_))))))))))
        have iv16 := is_31 iv s14 ⟨_, _, _, _, _, _, _, _, _, _, _, _, _, _, rfl, by omega, by omega, by omega, by omega, by omega, by omega, by omega, by omega, by omega, by omega, by omega, by omega, by omega, by omega, by omega, by omega, by omega, by omega, by omega, by omega, by omega, by omega, by omega, by omega, by omega, by omega, by omega, by omega, by omega, by omega, by omega, by omega, by omega, by omega, by omega, by omega, by omega, by omega⟩
        have F17 := fr_st F s14 (by rw [(ow_31 iv)]; rfl)
        refine w_al (fun _ => rfl) (w_getf s14.2.2.1 rfl (fun _ => rfl) (w_al (fun _ => rfl) (w_getf s14.2.2.1 rfl (fun _ => rfl) ?_)))
        have m18 := st_fr s14 pcw1 (by decide)
        refine w_aldI m18 (by omega) (by omega) (by omega) ?_
        obtain ⟨b19, b20⟩ := ag_rg Cw1 (m - 1)
        have e21 := a9w1 (m - 1) (by omega) (by omega)
        refine w_is (fun _ => rfl) (w_il (fun _ => rfl) (w_icI (x := 8) rfl ?_))
        refine w_eq2 (by omega) (by omega) (by omega) (by omega)  (fun c22 => ?_) (fun c22 => ?_)
        · refine w_run k_684064 (w_al (fun _ => rfl) (w_dup (fun _ => rfl) (w_getf s14.2.2.1 rfl (fun _ => rfl) (w_icI (x := 1) rfl (w_opR sub_lt (fun x23 x230 x231 x23e => ?_))))))
          refine w_putf [.inr (.inl (some 32)), .inr (.inl (some 33)), .inr (.inl (some 34)), .inr (.inl (some 35)), .inr (.inl (some 36)), .inl (w_i (g_mH g)), .inl (w_i (g_mC g)), .inl (w_i sprz2), .inl (w_i keez2), .inl (w_i (g_mnp g)), .inl (w_i rulz2), .inl (w_i (g_mhi g)), .inr (.inl (some 37)), .inr (.inl (some 50)), .inr (.inl (some 51)), .inr (.inl (some 52)), .inr (.inl (some 53)), .inr (.inl (some 54)), .inl (w_i tpdz2), .inl (w_i (g_mnt g)), .inl (w_i nxtz2), .inl (w_i tokz2), .inl (w_i tkaz2), .inl (w_i valz2), .inl (w_i x23), .inl (w_i (m - 1)), .inl (w_i rw), .inr (.inl (some 55)), .inr (.inl (some 56)), .inr (.inl (some 57)), .inr (.inl (some 58)), .inr (.inl (some 59)), .inr (.inl (some 60)), .inr (.inl (some 61)), .inr (.inl (some 62)), .inl (w_i kspz2), .inl (w_i kkez2), .inl (w_i kruz2), .inr (.inl (some 63)), .inr (.inl (some 64)), .inr (.inl (some 65)), .inr (.inl (some 66))] s14.2.2.1 rfl rfl rfl (fun _ => rfl) (fun h25 s24 => ?_)
          have iv26 := is_31 iv16 s24 ⟨_, _, _, _, _, _, _, _, _, _, _, _, _, _, rfl, by omega, by omega, by omega, by omega, by omega, by omega, by omega, by omega, by omega, by omega, by omega, by omega, by omega, by omega, by omega, by omega, by omega, by omega, by omega, by omega, by omega, by omega, by omega, by omega, by omega, by omega, by omega, by omega, by omega, by omega, by omega, by omega, by omega, by omega, by omega, by omega, by omega, by omega⟩
          have F27 := fr_st F17 s24 (by rw [(ow_31 iv16)]; rfl)
          refine w_al (fun _ => rfl) (w_icI (x := 30000) rfl (w_il (fun _ => rfl) (w_op (c := w_i (30000 + (a_g Cw1 (m - 1)))) (i_add 30000 (a_g Cw1 (m - 1))) (w_this (fun _ => rfl) s24.2.2.1 (w_cv (fun _ => rfl) rfl (w_run k_647168 (w_al (fun _ => rfl) (w_getf s24.2.2.1 rfl (fun _ => rfl) (w_icI (x := 170) rfl (w_al (fun _ => rfl) (w_getf s24.2.2.1 rfl (fun _ => rfl) (w_op (c := w_i (170 * rw)) (i_mul 170 rw) (w_al (fun _ => rfl) (w_getf s24.2.2.1 rfl (fun _ => rfl) (w_al (fun _ => rfl) (w_getf s24.2.2.1 rfl (fun _ => rfl) ?_))))))))))))))))
          have m28 := st_fr s14 pbw1 (by decide)
          have m29 := st_fr s24 m28 (by decide)
          refine w_aldI m29 (by omega) (by omega) (by omega) ?_
          obtain ⟨b30, b31⟩ := ag_rg Bw1 rw
          have e32 := b0w1 rw (by omega) (by omega)
          refine w_op (c := w_i ((170 * rw) + (a_g Bw1 rw))) (i_add (170 * rw) (a_g Bw1 rw)) (w_il (fun _ => rfl) ?_)
          have m33 := st_fr s14 paw1 (by decide)
          have m34 := st_fr s24 m33 (by decide)
          refine w_astI m34 (by omega) (by omega) (by omega) (by omega) (by omega) (fun A38 h36 w39 s35 => ?_)
          have moreA38 : ∀ i : Int, 0 ≤ i → i < 3 * g_mnt g → w_rp A38 i (g_mCL g i) := fun i i0 i1 => rp_old (rw := rw) (v := a_g Bw1 rw) i0 (by omega) (a0w1 i i0 i1) (by omega) (by omega) (by omega) w39
          have iv37 := is_51 iv26 s35 ⟨_, rfl, by assumption⟩
          have F40 := fr_st F27 s35 (by rw [(ow_51 iv26)]; rfl)
          refine w_al (fun _ => rfl) ?_
          have m41 := st_fr s35 s24.2.2.1 (by decide)
          refine w_getf m41 rfl (fun _ => rfl) (w_al (fun _ => rfl) (w_getf m41 rfl (fun _ => rfl) (w_dup2 (fun _ => rfl) (fun _ => rfl) ?_)))
          have m42 := st_fr s35 m29 (by decide)
          refine w_aldI m42 (by omega) (by omega) (by omega) ?_
          obtain ⟨b43, b44⟩ := ag_rg Bw1 rw
          have e45 := b0w1 rw (by omega) (by omega)
          refine w_icI (x := 1) rfl (w_op (c := w_i ((a_g Bw1 rw) + 1)) (i_add (a_g Bw1 rw) 1) (w_astI m42 (by omega) (by omega) (by omega) (by omega) (by omega) (fun A49 h47 w50 s46 => ?_)))
          have e51 : ∀ j : Int, 0 ≤ j → j < 18 → 0 ≤ a_g A49 j ∧ a_g A49 j ≤ 170 ∧ (j < 3 * g_mnt g → a_g A49 j = g_mCL g j) := fun j j0 j1 => by
            rw [w50 j j0 j1]
            by_cases hj : j = rw
            · rw [if_pos hj]; intros; omega
            · rw [if_neg hj]; exact b0w1 j j0 j1
          have iv48 := is_52 iv37 s46 ⟨_, rfl, e51⟩
          have F52 := fr_st F40 s46 (by rw [(ow_52 iv37)]; rfl)
          refine w_rv ⟨rfl, ?_⟩
          refine w_rv ⟨rfl, ?_⟩
          refine w_go ?_
          have q1w1 : a_g A49 rw = a_g Bw1 rw + 1 := by rw [w50 rw (by omega) (by omega)]; exact if_pos rfl
          have q2w1 := rp_push (rw := rw) (y := (30000 + (a_g Cw1 (m - 1)))) (by omega) (by omega) a7w1 (by omega) (show ((170 * rw) + (a_g Bw1 rw)) = 170 * rw + a_g Bw1 rw from by omega) w39 (by omega)
          have q3w1 := prev_put (l := a_g Bw1 rw) (by omega) (by omega) (by omega) abw1 w39 (show ((170 * rw) + (a_g Bw1 rw)) = 170 * rw + a_g Bw1 rw from by omega) w50
          rw [← q1w1] at q2w1
          have hbc := bc_c (C := Cw1) (m := m - 1) (by omega)
          rw [show m - 1 + 1 = m from by omega] at hbc
          have hb0 := bc_0 Cw1 m.toNat
          have m53 := st_fr s46 s35.2.2.1 (by decide)
          have m54 := st_fr s24 m18 (by decide)
          have m55 := st_fr s35 m54 (by decide)
          have m56 := st_fr s46 m55 (by decide)
          have m57 := st_fr s46 m41 (by decide)
          exact ih h47 (m - 1) iv48 F52 ⟨_, _, _, ⟨_, _, _, _, _, _, _, _, _, _, _, _, m57, by omega, by omega, by omega, by omega, by omega, by omega, by omega, by omega, by omega, by omega, by omega, by omega, by omega, by omega, by omega, by omega, by omega, by omega, by omega, by omega, by omega, by omega, by omega, by omega, by omega, by omega, by omega, by omega, by omega, by omega, by omega, by omega, by omega, by omega, by omega, by omega, by omega, by omega, by omega, by omega, by omega, by omega, by omega, by omega, by omega, by omega, by omega⟩, m53, s46.2.2.1, m56, by omega, by omega, by omega, by omega, by omega, by omega, q2w1.1, (by omega), (fun j j0 j1 => a9w1 j j0 (by omega)), (fun e => absurd e (by omega)), q3w1⟩  (by omega) (by omega)
        · refine w_il (fun _ => rfl) (w_icI (x := 9) rfl ?_)
          refine w_ne2 (by omega) (by omega) (by omega) (by omega)  (fun c58 => ?_) (fun c58 => ?_)
          · refine w_run k_684074 (w_al (fun _ => rfl) (w_icI (x := 30000) rfl (w_il (fun _ => rfl) (w_op (c := w_i (30000 + (a_g Cw1 (m - 1)))) (i_add 30000 (a_g Cw1 (m - 1))) (w_this (fun _ => rfl) s14.2.2.1 (w_cv (fun _ => rfl) rfl (w_run k_647168 (w_al (fun _ => rfl) (w_getf s14.2.2.1 rfl (fun _ => rfl) (w_icI (x := 170) rfl (w_al (fun _ => rfl) (w_getf s14.2.2.1 rfl (fun _ => rfl) (w_op (c := w_i (170 * rw)) (i_mul 170 rw) (w_al (fun _ => rfl) (w_getf s14.2.2.1 rfl (fun _ => rfl) (w_al (fun _ => rfl) (w_getf s14.2.2.1 rfl (fun _ => rfl) ?_)))))))))))))))))
            have m59 := st_fr s14 pbw1 (by decide)
            refine w_aldI m59 (by omega) (by omega) (by omega) ?_
            obtain ⟨b60, b61⟩ := ag_rg Bw1 rw
            have e62 := b0w1 rw (by omega) (by omega)
            refine w_op (c := w_i ((170 * rw) + (a_g Bw1 rw))) (i_add (170 * rw) (a_g Bw1 rw)) (w_il (fun _ => rfl) ?_)
            have m63 := st_fr s14 paw1 (by decide)
            refine w_astI m63 (by omega) (by omega) (by omega) (by omega) (by omega) (fun A67 h65 w68 s64 => ?_)
            have moreA67 : ∀ i : Int, 0 ≤ i → i < 3 * g_mnt g → w_rp A67 i (g_mCL g i) := fun i i0 i1 => rp_old (rw := rw) (v := a_g Bw1 rw) i0 (by omega) (a0w1 i i0 i1) (by omega) (by omega) (by omega) w68
            have iv66 := is_51 iv16 s64 ⟨_, rfl, by assumption⟩
            have F69 := fr_st F17 s64 (by rw [(ow_51 iv16)]; rfl)
            refine w_al (fun _ => rfl) ?_
            have m70 := st_fr s64 s14.2.2.1 (by decide)
            refine w_getf m70 rfl (fun _ => rfl) (w_al (fun _ => rfl) (w_getf m70 rfl (fun _ => rfl) (w_dup2 (fun _ => rfl) (fun _ => rfl) ?_)))
            have m71 := st_fr s64 m59 (by decide)
            refine w_aldI m71 (by omega) (by omega) (by omega) ?_
            obtain ⟨b72, b73⟩ := ag_rg Bw1 rw
            have e74 := b0w1 rw (by omega) (by omega)
            refine w_icI (x := 1) rfl (w_op (c := w_i ((a_g Bw1 rw) + 1)) (i_add (a_g Bw1 rw) 1) (w_astI m71 (by omega) (by omega) (by omega) (by omega) (by omega) (fun A78 h76 w79 s75 => ?_)))
            have e80 : ∀ j : Int, 0 ≤ j → j < 18 → 0 ≤ a_g A78 j ∧ a_g A78 j ≤ 170 ∧ (j < 3 * g_mnt g → a_g A78 j = g_mCL g j) := fun j j0 j1 => by
              rw [w79 j j0 j1]
              by_cases hj : j = rw
              · rw [if_pos hj]; intros; omega
              · rw [if_neg hj]; exact b0w1 j j0 j1
            have iv77 := is_52 iv66 s75 ⟨_, rfl, e80⟩
            have F81 := fr_st F69 s75 (by rw [(ow_52 iv66)]; rfl)
            refine w_rv ⟨rfl, ?_⟩
            refine w_rv ⟨rfl, ?_⟩
            refine w_go ?_
            have q1w1 : a_g A78 rw = a_g Bw1 rw + 1 := by rw [w79 rw (by omega) (by omega)]; exact if_pos rfl
            have q2w1 := rp_push (rw := rw) (y := (30000 + (a_g Cw1 (m - 1)))) (by omega) (by omega) a7w1 (by omega) (show ((170 * rw) + (a_g Bw1 rw)) = 170 * rw + a_g Bw1 rw from by omega) w68 (by omega)
            have q3w1 := prev_put (l := a_g Bw1 rw) (by omega) (by omega) (by omega) abw1 w68 (show ((170 * rw) + (a_g Bw1 rw)) = 170 * rw + a_g Bw1 rw from by omega) w79
            rw [← q1w1] at q2w1
            have hbc := bc_c (C := Cw1) (m := m - 1) (by omega)
            rw [show m - 1 + 1 = m from by omega] at hbc
            have hb0 := bc_0 Cw1 m.toNat
            have m82 := st_fr s75 s64.2.2.1 (by decide)
            have m83 := st_fr s64 m18 (by decide)
            have m84 := st_fr s75 m83 (by decide)
            have m85 := st_fr s75 m70 (by decide)
            exact ih h76 (m - 1) iv77 F81 ⟨_, _, _, ⟨_, _, _, _, _, _, _, _, _, _, _, _, m85, by omega, by omega, by omega, by omega, by omega, by omega, by omega, by omega, by omega, by omega, by omega, by omega, by omega, by omega, by omega, by omega, by omega, by omega, by omega, by omega, by omega, by omega, by omega, by omega, by omega, by omega, by omega, by omega, by omega, by omega, by omega, by omega, by omega, by omega, by omega, by omega, by omega, by omega, by omega, by omega, by omega, by omega, by omega, by omega, by omega, by omega, by omega⟩, m82, s75.2.2.1, m84, by omega, by omega, by omega, by omega, by omega, by omega, q2w1.1, (by omega), (fun j j0 j1 => a9w1 j j0 (by omega)), (fun e => absurd e (by omega)), q3w1⟩  (by omega) (by omega)
          · refine w_al (fun _ => rfl) (w_dup (fun _ => rfl) (w_getf s14.2.2.1 rfl (fun _ => rfl) (w_icI (x := 1) rfl (w_opR sub_lt (fun x86 x860 x861 x86e => ?_)))))
            refine w_putf [.inr (.inl (some 32)), .inr (.inl (some 33)), .inr (.inl (some 34)), .inr (.inl (some 35)), .inr (.inl (some 36)), .inl (w_i (g_mH g)), .inl (w_i (g_mC g)), .inl (w_i sprz2), .inl (w_i keez2), .inl (w_i (g_mnp g)), .inl (w_i rulz2), .inl (w_i (g_mhi g)), .inr (.inl (some 37)), .inr (.inl (some 50)), .inr (.inl (some 51)), .inr (.inl (some 52)), .inr (.inl (some 53)), .inr (.inl (some 54)), .inl (w_i tpdz2), .inl (w_i (g_mnt g)), .inl (w_i nxtz2), .inl (w_i tokz2), .inl (w_i tkaz2), .inl (w_i valz2), .inl (w_i x86), .inl (w_i (m - 1)), .inl (w_i rw), .inr (.inl (some 55)), .inr (.inl (some 56)), .inr (.inl (some 57)), .inr (.inl (some 58)), .inr (.inl (some 59)), .inr (.inl (some 60)), .inr (.inl (some 61)), .inr (.inl (some 62)), .inl (w_i kspz2), .inl (w_i kkez2), .inl (w_i kruz2), .inr (.inl (some 63)), .inr (.inl (some 64)), .inr (.inl (some 65)), .inr (.inl (some 66))] s14.2.2.1 rfl rfl rfl (fun _ => rfl) (fun h88 s87 => ?_)
            have iv89 := is_31 iv16 s87 ⟨_, _, _, _, _, _, _, _, _, _, _, _, _, _, rfl, by omega, by omega, by omega, by omega, by omega, by omega, by omega, by omega, by omega, by omega, by omega, by omega, by omega, by omega, by omega, by omega, by omega, by omega, by omega, by omega, by omega, by omega, by omega, by omega, by omega, by omega, by omega, by omega, by omega, by omega, by omega, by omega, by omega, by omega, by omega, by omega, by omega, by omega⟩
            have F90 := fr_st F17 s87 (by rw [(ow_31 iv16)]; rfl)
            refine w_al (fun _ => rfl) (w_icI (x := 30000) rfl (w_il (fun _ => rfl) (w_op (c := w_i (30000 + (a_g Cw1 (m - 1)))) (i_add 30000 (a_g Cw1 (m - 1))) (w_this (fun _ => rfl) s87.2.2.1 (w_cv (fun _ => rfl) rfl (w_run k_647168 (w_al (fun _ => rfl) (w_getf s87.2.2.1 rfl (fun _ => rfl) (w_icI (x := 170) rfl (w_al (fun _ => rfl) (w_getf s87.2.2.1 rfl (fun _ => rfl) (w_op (c := w_i (170 * rw)) (i_mul 170 rw) (w_al (fun _ => rfl) (w_getf s87.2.2.1 rfl (fun _ => rfl) (w_al (fun _ => rfl) (w_getf s87.2.2.1 rfl (fun _ => rfl) ?_))))))))))))))))
            have m91 := st_fr s14 pbw1 (by decide)
            have m92 := st_fr s87 m91 (by decide)
            refine w_aldI m92 (by omega) (by omega) (by omega) ?_
            obtain ⟨b93, b94⟩ := ag_rg Bw1 rw
            have e95 := b0w1 rw (by omega) (by omega)
            refine w_op (c := w_i ((170 * rw) + (a_g Bw1 rw))) (i_add (170 * rw) (a_g Bw1 rw)) (w_il (fun _ => rfl) ?_)
            have m96 := st_fr s14 paw1 (by decide)
            have m97 := st_fr s87 m96 (by decide)
            refine w_astI m97 (by omega) (by omega) (by omega) (by omega) (by omega) (fun A101 h99 w102 s98 => ?_)
            have moreA101 : ∀ i : Int, 0 ≤ i → i < 3 * g_mnt g → w_rp A101 i (g_mCL g i) := fun i i0 i1 => rp_old (rw := rw) (v := a_g Bw1 rw) i0 (by omega) (a0w1 i i0 i1) (by omega) (by omega) (by omega) w102
            have iv100 := is_51 iv89 s98 ⟨_, rfl, by assumption⟩
            have F103 := fr_st F90 s98 (by rw [(ow_51 iv89)]; rfl)
            refine w_al (fun _ => rfl) ?_
            have m104 := st_fr s98 s87.2.2.1 (by decide)
            refine w_getf m104 rfl (fun _ => rfl) (w_al (fun _ => rfl) (w_getf m104 rfl (fun _ => rfl) (w_dup2 (fun _ => rfl) (fun _ => rfl) ?_)))
            have m105 := st_fr s98 m92 (by decide)
            refine w_aldI m105 (by omega) (by omega) (by omega) ?_
            obtain ⟨b106, b107⟩ := ag_rg Bw1 rw
            have e108 := b0w1 rw (by omega) (by omega)
            refine w_icI (x := 1) rfl (w_op (c := w_i ((a_g Bw1 rw) + 1)) (i_add (a_g Bw1 rw) 1) (w_astI m105 (by omega) (by omega) (by omega) (by omega) (by omega) (fun A112 h110 w113 s109 => ?_)))
            have e114 : ∀ j : Int, 0 ≤ j → j < 18 → 0 ≤ a_g A112 j ∧ a_g A112 j ≤ 170 ∧ (j < 3 * g_mnt g → a_g A112 j = g_mCL g j) := fun j j0 j1 => by
              rw [w113 j j0 j1]
              by_cases hj : j = rw
              · rw [if_pos hj]; intros; omega
              · rw [if_neg hj]; exact b0w1 j j0 j1
            have iv111 := is_52 iv100 s109 ⟨_, rfl, e114⟩
            have F115 := fr_st F103 s109 (by rw [(ow_52 iv100)]; rfl)
            refine w_rv ⟨rfl, ?_⟩
            refine w_rv ⟨rfl, ?_⟩
            refine w_go ?_
            have q1w1 : a_g A112 rw = a_g Bw1 rw + 1 := by rw [w113 rw (by omega) (by omega)]; exact if_pos rfl
            have q2w1 := rp_push (rw := rw) (y := (30000 + (a_g Cw1 (m - 1)))) (by omega) (by omega) a7w1 (by omega) (show ((170 * rw) + (a_g Bw1 rw)) = 170 * rw + a_g Bw1 rw from by omega) w102 (by omega)
            have q3w1 := prev_put (l := a_g Bw1 rw) (by omega) (by omega) (by omega) abw1 w102 (show ((170 * rw) + (a_g Bw1 rw)) = 170 * rw + a_g Bw1 rw from by omega) w113
            rw [← q1w1] at q2w1
            have hbc := bc_c (C := Cw1) (m := m - 1) (by omega)
            rw [show m - 1 + 1 = m from by omega] at hbc
            have hb0 := bc_0 Cw1 m.toNat
            have m116 := st_fr s109 s98.2.2.1 (by decide)
            have m117 := st_fr s87 m18 (by decide)
            have m118 := st_fr s98 m117 (by decide)
            have m119 := st_fr s109 m118 (by decide)
            have m120 := st_fr s109 m104 (by decide)
            exact ih h110 (m - 1) iv111 F115 ⟨_, _, _, ⟨_, _, _, _, _, _, _, _, _, _, _, _, m120, by omega, by omega, by omega, by omega, by omega, by omega, by omega, by omega, by omega, by omega, by omega, by omega, by omega, by omega, by omega, by omega, by omega, by omega, by omega, by omega, by omega, by omega, by omega, by omega, by omega, by omega, by omega, by omega, by omega, by omega, by omega, by omega, by omega, by omega, by omega, by omega, by omega, by omega, by omega, by omega, by omega, by omega, by omega, by omega, by omega, by omega, by omega⟩, m116, s109.2.2.1, m119, by omega, by omega, by omega, by omega, by omega, by omega, q2w1.1, (by omega), (fun j j0 j1 => a9w1 j j0 (by omega)), (fun e => absurd e (by omega)), q3w1⟩  (by omega) (by omega)
theorem c_mLetsFrom {g : w_G} {o : w_O} {h : m_H} {d : Nat} {Q : Option m_V → m_H → Prop} (iv : w_Inv g o h) {rw : Int} {st : Int} {sl : Int} {n0 : Int} {hg : Int} (hg_lo : -2147483648 ≤ hg) (hg_hi : hg ≤ 2147483647) (g0_ : 1 ≤ hg) (g1_ : hg ≤ 7) (rlx : (∃ m : Int, w_rd g o h rw 1 st m 7 sl n0)) (k0 : ∀ h2 : m_H, w_Inv g o h2 → w_fr o [31, 51, 52] h h2 → (∃ m : Int, w_rd g o h2 rw 1 st m hg sl n0) → Q none h2) : wp (d + 3) 688128 [.inr (.inl (some 31)), .inl (w_i hg)] [] h Q := by
  have F := fr_rf (o := o) (h := h) (W := [31, 51, 52])
  have W := iv_wm iv
  obtain ⟨m, rd0⟩ := (id rlx)
  have hm0 : 0 ≤ m := by obtain ⟨_, _, _, _, _, _, _, _, _, z, _⟩ := rd0; exact z
  exact l_mLetsFrom_0  (rw := rw) (st := st) (sl := sl) (n0 := n0)   hg_lo hg_hi g0_ g1_    k0 (m + 1 : Int).toNat h m iv F rd0  (by omega) (by omega)
theorem k_700416 : m_cg 700416 = g_171_0 := rfl
theorem k_700443 : m_cg 700443 = g_171_27 := rfl
theorem k_700468 : m_cg 700468 = g_171_52 := rfl
theorem k_700473 : m_cg 700473 = g_171_57 := rfl
theorem k_700503 : m_cg 700503 = g_171_87 := rfl
theorem k_700526 : m_cg 700526 = g_171_110 := rfl
theorem k_700549 : m_cg 700549 = g_171_133 := rfl
theorem k_700563 : m_cg 700563 = g_171_147 := rfl
theorem k_700550 : m_cg 700550 = g_171_134 := rfl
theorem k_700565 : m_cg 700565 = g_171_149 := rfl
theorem k_679936 : m_cg 679936 = g_166_0 := rfl
theorem k_696320 : m_cg 696320 = g_170_0 := rfl
theorem k_696356 : m_cg 696356 = g_170_36 := rfl
theorem k_696361 : m_cg 696361 = g_170_41 := rfl
theorem k_696360 : m_cg 696360 = g_170_40 := rfl
theorem k_675862 : m_cg 675862 = g_165_22 := rfl
theorem k_700460 : m_cg 700460 = g_171_44 := rfl
theorem c_mAhead {g : w_G} {o : w_O} {h : m_H} {d : Nat} {Q : Option m_V → m_H → Prop} (iv : w_Inv g o h) {rw : Int} {n0 : Int} (r01 : (∃ m : Int, w_rd g o h rw 0 1 m 7 0 n0)) (k0 : ∀ h2 : m_H, w_Inv g o h2 → w_fr o [31, 51, 52, 53] h h2 → (∃ m : Int, w_rd g o h2 rw 1 0 m 7 0 (n0 + 1)) → Q (some (.inl (w_i 1))) h2) (k1 : ∀ h2 : m_H, w_Inv g o h2 → w_fr o [31, 51, 52, 53] h h2 → (∃ m : Int, w_rd g o h2 rw 0 0 m 7 0 (n0 + 1)) → Q (some (.inl (w_i 0))) h2) (k2 : ∀ h2 : m_H, w_Inv g o h2 → w_fr o [31, 51, 52, 53] h h2 → Q (some (.inl (w_i (-1)))) h2) : wp (d + 4) 700416 [.inr (.inl (some 31)), .inr (.inr (.inl 0))] [] h Q := by
  have F := fr_rf (o := o) (h := h) (W := [31, 51, 52, 53])
  have W := iv_wm iv
  have hx01 := r01
  obtain ⟨mw1, Aw1, Bw1, Cw1, xw1, paw1, pbw1, pcw1, a1w1, a2w1, a3w1, a4w1, a5w1, a6w1, a7w1, a8w1, a9w1, aaw1, abw1⟩ := (id r01)
  have hmrw1 := rs_n xw1
  have a0w1 := iv_51h iv paw1
  have b0w1 := iv_52h iv pbw1
  obtain ⟨sprz2, keez2, rulz2, tpdz2, nxtz2, tokz2, tkaz2, valz2, opnz2, kspz2, kkez2, kruz2, pz2, rz2_0, rz2_1, rz2_2, rz2_3, rz2_4, rz2_5, rz2_6, rz2_7, rz2_8, rz2_9, rz2_10, rz2_11, rz2_12, rz2_13, rz2_14, rz2_15, rz2_16, rz2_17, rz2_18, rz2_19, rz2_20, rz2_21, rz2_22, rz2_23, rz2_24, rz2_25, rz2_26, rz2_27, rz2_28, rz2_29, rz2_30, rz2_31, rz2_32, rz2_33, rz2_34, rz2_35, rz2_36, rz2_37, sz2_0, sz2_1, sz2_2, sz2_3, sz2_4, sz2_5, sz2_6, sz2_7, sz2_8⟩ := (id xw1)
  refine w_run k_700416 (w_al (fun _ => rfl) (w_getf pz2 rfl (fun _ => rfl) (w_icI (x := 100) rfl ?_)))
  refine w_eq2 (by omega) (by omega) (by omega) (by omega)  (fun c3 => ?_) (fun c3 => ?_)
  · refine w_run k_700443 (w_al (fun _ => rfl) (w_al (fun _ => rfl) (w_getf pz2 rfl (fun _ => rfl) (w_icI (x := 100) rfl (w_nef (by omega) (by omega) (by omega) (by omega) (by omega)  (w_al (fun _ => rfl) (w_getf pz2 rfl (fun _ => rfl) (w_go (w_run k_700468 (w_this (fun _ => rfl) pz2 (w_cv (fun _ => rfl) rfl (w_run k_647168 (w_al (fun _ => rfl) (w_getf pz2 rfl (fun _ => rfl) (w_icI (x := 170) rfl (w_al (fun _ => rfl) (w_getf pz2 rfl (fun _ => rfl) (w_op (c := w_i (170 * rw)) (i_mul 170 rw) (w_al (fun _ => rfl) (w_getf pz2 rfl (fun _ => rfl) (w_al (fun _ => rfl) (w_getf pz2 rfl (fun _ => rfl) (w_aldI pbw1 (by omega) (by omega) (by omega) ?_)))))))))))))))))))))))
    obtain ⟨b4, b5⟩ := ag_rg Bw1 rw
    have e6 := b0w1 rw (by omega) (by omega)
    refine w_op (c := w_i ((170 * rw) + (a_g Bw1 rw))) (i_add (170 * rw) (a_g Bw1 rw)) (w_il (fun _ => rfl) (w_astI paw1 (by omega) (by omega) (by omega) (by omega) (by omega) (fun A10 h8 w11 s7 => ?_)))
    have moreA10 : ∀ i : Int, 0 ≤ i → i < 3 * g_mnt g → w_rp A10 i (g_mCL g i) := fun i i0 i1 => rp_old (rw := rw) (v := a_g Bw1 rw) i0 (by omega) (a0w1 i i0 i1) (by omega) (by omega) (by omega) w11
    have iv9 := is_51 iv s7 ⟨_, rfl, by assumption⟩
    have F12 := fr_st F s7 (by rw [(ow_51 iv)]; rfl)
    refine w_al (fun _ => rfl) ?_
    have m13 := st_fr s7 pz2 (by decide)
    refine w_getf m13 rfl (fun _ => rfl) (w_al (fun _ => rfl) (w_getf m13 rfl (fun _ => rfl) (w_dup2 (fun _ => rfl) (fun _ => rfl) ?_)))
    have m14 := st_fr s7 pbw1 (by decide)
    refine w_aldI m14 (by omega) (by omega) (by omega) ?_
    obtain ⟨b15, b16⟩ := ag_rg Bw1 rw
    have e17 := b0w1 rw (by omega) (by omega)
    refine w_icI (x := 1) rfl (w_op (c := w_i ((a_g Bw1 rw) + 1)) (i_add (a_g Bw1 rw) 1) (w_astI m14 (by omega) (by omega) (by omega) (by omega) (by omega) (fun A21 h19 w22 s18 => ?_)))
    have e23 : ∀ j : Int, 0 ≤ j → j < 18 → 0 ≤ a_g A21 j ∧ a_g A21 j ≤ 170 ∧ (j < 3 * g_mnt g → a_g A21 j = g_mCL g j) := fun j j0 j1 => by
      rw [w22 j j0 j1]
      by_cases hj : j = rw
      · rw [if_pos hj]; intros; omega
      · rw [if_neg hj]; exact b0w1 j j0 j1
    have iv20 := is_52 iv9 s18 ⟨_, rfl, e23⟩
    have F24 := fr_st F12 s18 (by rw [(ow_52 iv9)]; rfl)
    refine w_rv ⟨rfl, ?_⟩
    have q1w1 : a_g A21 rw = a_g Bw1 rw + 1 := by rw [w22 rw (by omega) (by omega)]; exact if_pos rfl
    have q2w1 := rp_push (rw := rw) (y := valz2) (by omega) (by omega) a7w1 (by omega) (show ((170 * rw) + (a_g Bw1 rw)) = 170 * rw + a_g Bw1 rw from by omega) w11 (by omega)
    have q3w1 := prev_put (l := a_g Bw1 rw) (by omega) (by omega) (by omega) abw1 w11 (show ((170 * rw) + (a_g Bw1 rw)) = 170 * rw + a_g Bw1 rw from by omega) w22
    rw [← q1w1] at q2w1
    refine w_icI (x := 1) rfl (w_ri ?_)
    have m25 := st_fr s18 m13 (by decide)
    have m26 := st_fr s18 s7.2.2.1 (by decide)
    have m27 := st_fr s7 pcw1 (by decide)
    have m28 := st_fr s18 m27 (by decide)
    exact k0 h19 iv20 F24 ⟨mw1, _, _, _, ⟨_, _, _, _, _, _, _, _, _, _, _, _, m25, by omega, by omega, by omega, by omega, by omega, by omega, by omega, by omega, by omega, by omega, by omega, by omega, by omega, by omega, by omega, by omega, by omega, by omega, by omega, by omega, by omega, by omega, by omega, by omega, by omega, by omega, by omega, by omega, by omega, by omega, by omega, by omega, by omega, by omega, by omega, by omega, by omega, by omega, by omega, by omega, by omega, by omega, by omega, by omega, by omega, by omega, by omega⟩, m26, s18.2.2.1, m28, by omega, by omega, by omega, by omega, by omega, by omega, q2w1.1, (by omega), (fun j j0 j1 => a9w1 j j0 j1), (fun e => absurd e (by omega)), q3w1⟩
  · refine w_al (fun _ => rfl) (w_getf pz2 rfl (fun _ => rfl) (w_icI (x := 101) rfl ?_))
    refine w_ne2 (by omega) (by omega) (by omega) (by omega)  (fun c29 => ?_) (fun c29 => ?_)
    · refine w_run k_700473 (w_al (fun _ => rfl) (w_getf pz2 rfl (fun _ => rfl) (w_icI (x := 101) rfl ?_)))
      refine w_ne2 (by omega) (by omega) (by omega) (by omega)  (fun c30 => ?_) (fun c30 => ?_)
      · refine w_run k_700503 (w_al (fun _ => rfl) (w_getf pz2 rfl (fun _ => rfl) (w_icI (x := 102) rfl ?_)))
        refine w_ne2 (by omega) (by omega) (by omega) (by omega)  (fun c31 => ?_) (fun c31 => ?_)
        · refine w_run k_700526 (w_al (fun _ => rfl) (w_getf pz2 rfl (fun _ => rfl) (w_icI (x := 102) rfl ?_)))
          refine w_ne2 (by omega) (by omega) (by omega) (by omega)  (fun c32 => ?_) (fun c32 => ?_)
          · refine w_run k_700549 (w_icI (x := 0) rfl (w_is (fun _ => rfl) (w_il (fun _ => rfl) (w_eqzt (by omega) (by omega) (by omega)  (w_run k_700563 (w_icI (x := (-1)) wn_1 (w_ri ?_)))))))
            exact k2 h iv F
          · refine w_al (fun _ => rfl) (w_getf pz2 rfl (fun _ => rfl) (w_icI (x := 40) rfl ?_))
            refine w_ne2 (by omega) (by omega) (by omega) (by omega)  (fun c33 => ?_) (fun c33 => ?_)
            · refine w_run k_700549 (w_icI (x := 0) rfl (w_is (fun _ => rfl) (w_il (fun _ => rfl) (w_eqzt (by omega) (by omega) (by omega)  (w_run k_700563 (w_icI (x := (-1)) wn_1 (w_ri ?_)))))))
              exact k2 h iv F
            · refine w_icI (x := 10) rfl (w_go (w_run k_700550 (w_is (fun _ => rfl) (w_il (fun _ => rfl) (w_eqzf (by omega) (by omega) (by omega)  (w_al (fun _ => rfl) (w_getf pz2 rfl (fun _ => rfl) (w_icI (x := 5) rfl ?_))))))))
              refine w_ne2 (by omega) (by omega) (by omega) (by omega)  (fun c34 => ?_) (fun c34 => ?_)
              · refine w_run k_700565 (w_al (fun _ => rfl) (w_dup (fun _ => rfl) (w_getf pz2 rfl (fun _ => rfl) (w_icI (x := 1) rfl (w_opR add_lt (fun x35 x350 x351 x35e => ?_))))))
                refine w_putf [.inr (.inl (some 32)), .inr (.inl (some 33)), .inr (.inl (some 34)), .inr (.inl (some 35)), .inr (.inl (some 36)), .inl (w_i (g_mH g)), .inl (w_i (g_mC g)), .inl (w_i sprz2), .inl (w_i keez2), .inl (w_i (g_mnp g)), .inl (w_i rulz2), .inl (w_i (g_mhi g)), .inr (.inl (some 37)), .inr (.inl (some 50)), .inr (.inl (some 51)), .inr (.inl (some 52)), .inr (.inl (some 53)), .inr (.inl (some 54)), .inl (w_i tpdz2), .inl (w_i (g_mnt g)), .inl (w_i nxtz2), .inl (w_i tokz2), .inl (w_i tkaz2), .inl (w_i valz2), .inl (w_i x35), .inl (w_i mw1), .inl (w_i rw), .inr (.inl (some 55)), .inr (.inl (some 56)), .inr (.inl (some 57)), .inr (.inl (some 58)), .inr (.inl (some 59)), .inr (.inl (some 60)), .inr (.inl (some 61)), .inr (.inl (some 62)), .inl (w_i kspz2), .inl (w_i kkez2), .inl (w_i kruz2), .inr (.inl (some 63)), .inr (.inl (some 64)), .inr (.inl (some 65)), .inr (.inl (some 66))] pz2 rfl rfl rfl (fun _ => rfl) (fun h37 s36 => ?_)
                have iv38 := is_31 iv s36 ⟨_, _, _, _, _, _, _, _, _, _, _, _, _, _, rfl, by omega, by omega, by omega, by omega, by omega, by omega, by omega, by omega, by omega, by omega, by omega, by omega, by omega, by omega, by omega, by omega, by omega, by omega, by omega, by omega, by omega, by omega, by omega, by omega, by omega, by omega, by omega, by omega, by omega, by omega, by omega, by omega, by omega, by omega, by omega, by omega, by omega, by omega⟩
                have F39 := fr_st F s36 (by rw [(ow_31 iv)]; rfl)
                refine w_al (fun _ => rfl) (w_il (fun _ => rfl) (w_this (fun _ => rfl) s36.2.2.1 (w_cv (fun _ => rfl) rfl (w_run k_679936 (w_al (fun _ => rfl) (w_getf s36.2.2.1 rfl (fun _ => rfl) (w_al (fun _ => rfl) (w_getf s36.2.2.1 rfl (fun _ => rfl) (w_il (fun _ => rfl) ?_)))))))))
                have m40 := st_fr s36 pcw1 (by decide)
                refine w_astI m40 (by omega) (by omega) (by omega) (by omega) (by omega) (fun A44 h42 w45 s41 => ?_)
                have iv43 := is_53 iv38 s41 ⟨_, rfl⟩
                have F46 := fr_st F39 s41 (by rw [(ow_53 iv38)]; rfl)
                refine w_al (fun _ => rfl) (w_dup (fun _ => rfl) ?_)
                have m47 := st_fr s41 s36.2.2.1 (by decide)
                refine w_getf m47 rfl (fun _ => rfl) (w_icI (x := 1) rfl (w_op (c := w_i (mw1 + 1)) (i_add mw1 1) (w_putf [.inr (.inl (some 32)), .inr (.inl (some 33)), .inr (.inl (some 34)), .inr (.inl (some 35)), .inr (.inl (some 36)), .inl (w_i (g_mH g)), .inl (w_i (g_mC g)), .inl (w_i sprz2), .inl (w_i keez2), .inl (w_i (g_mnp g)), .inl (w_i rulz2), .inl (w_i (g_mhi g)), .inr (.inl (some 37)), .inr (.inl (some 50)), .inr (.inl (some 51)), .inr (.inl (some 52)), .inr (.inl (some 53)), .inr (.inl (some 54)), .inl (w_i tpdz2), .inl (w_i (g_mnt g)), .inl (w_i nxtz2), .inl (w_i tokz2), .inl (w_i tkaz2), .inl (w_i valz2), .inl (w_i x35), .inl (w_i (mw1 + 1)), .inl (w_i rw), .inr (.inl (some 55)), .inr (.inl (some 56)), .inr (.inl (some 57)), .inr (.inl (some 58)), .inr (.inl (some 59)), .inr (.inl (some 60)), .inr (.inl (some 61)), .inr (.inl (some 62)), .inl (w_i kspz2), .inl (w_i kkez2), .inl (w_i kruz2), .inr (.inl (some 63)), .inr (.inl (some 64)), .inr (.inl (some 65)), .inr (.inl (some 66))] m47 rfl rfl rfl (fun _ => rfl) (fun h49 s48 => ?_))))
                have iv50 := is_31 iv43 s48 ⟨_, _, _, _, _, _, _, _, _, _, _, _, _, _, rfl, by omega, by omega, by omega, by omega, by omega, by omega, by omega, by omega, by omega, by omega, by omega, by omega, by omega, by omega, by omega, by omega, by omega, by omega, by omega, by omega, by omega, by omega, by omega, by omega, by omega, by omega, by omega, by omega, by omega, by omega, by omega, by omega, by omega, by omega, by omega, by omega, by omega, by omega⟩
                have F51 := fr_st F46 s48 (by rw [(ow_31 iv43)]; rfl)
                refine w_rv ⟨rfl, ?_⟩
                have hpw1 := bc_put (m := mw1) (v := 10) (by omega) (by omega) w45
                have hhw1 := held_put (m := mw1) (v := 10) (by omega) (by omega) (by omega) (by omega) a9w1 w45
                refine w_icI (x := 0) rfl (w_ri ?_)
                have m52 := st_fr s36 paw1 (by decide)
                have m53 := st_fr s41 m52 (by decide)
                have m54 := st_fr s48 m53 (by decide)
                have m55 := st_fr s36 pbw1 (by decide)
                have m56 := st_fr s41 m55 (by decide)
                have m57 := st_fr s48 m56 (by decide)
                have m58 := st_fr s48 s41.2.2.1 (by decide)
                exact k1 h49 iv50 F51 ⟨mw1 + 1, _, _, _, ⟨_, _, _, _, _, _, _, _, _, _, _, _, s48.2.2.1, by omega, by omega, by omega, by omega, by omega, by omega, by omega, by omega, by omega, by omega, by omega, by omega, by omega, by omega, by omega, by omega, by omega, by omega, by omega, by omega, by omega, by omega, by omega, by omega, by omega, by omega, by omega, by omega, by omega, by omega, by omega, by omega, by omega, by omega, by omega, by omega, by omega, by omega, by omega, by omega, by omega, by omega, by omega, by omega, by omega, by omega, by omega⟩, m54, m57, m58, by omega, by omega, by omega, by omega, by omega, by omega, a7w1, (by omega), hhw1, (fun e => absurd e (by omega)), abw1⟩
              · refine w_icI (x := (-1)) wn_1 (w_ri ?_)
                exact k2 h iv F
        · refine w_al (fun _ => rfl) (w_getf pz2 rfl (fun _ => rfl) (w_icI (x := 45) rfl ?_))
          refine w_ne2 (by omega) (by omega) (by omega) (by omega)  (fun c59 => ?_) (fun c59 => ?_)
          · refine w_run k_700526 (w_al (fun _ => rfl) (w_getf pz2 rfl (fun _ => rfl) (w_icI (x := 102) rfl (w_nef (by omega) (by omega) (by omega) (by omega) (by omega)  (w_al (fun _ => rfl) (w_getf pz2 rfl (fun _ => rfl) (w_icI (x := 40) rfl ?_)))))))
            refine w_ne2 (by omega) (by omega) (by omega) (by omega)  (fun c60 => ?_) (fun c60 => ?_)
            · refine w_run k_700549 (w_icI (x := 0) rfl (w_is (fun _ => rfl) (w_il (fun _ => rfl) (w_eqzt (by omega) (by omega) (by omega)  (w_run k_700563 (w_icI (x := (-1)) wn_1 (w_ri ?_)))))))
              exact k2 h iv F
            · refine w_icI (x := 10) rfl (w_go (w_run k_700550 (w_is (fun _ => rfl) (w_il (fun _ => rfl) (w_eqzf (by omega) (by omega) (by omega)  (w_al (fun _ => rfl) (w_getf pz2 rfl (fun _ => rfl) (w_icI (x := 5) rfl ?_))))))))
              refine w_ne2 (by omega) (by omega) (by omega) (by omega)  (fun c61 => ?_) (fun c61 => ?_)
              · refine w_run k_700565 (w_al (fun _ => rfl) (w_dup (fun _ => rfl) (w_getf pz2 rfl (fun _ => rfl) (w_icI (x := 1) rfl (w_opR add_lt (fun x62 x620 x621 x62e => ?_))))))
                refine w_putf [.inr (.inl (some 32)), .inr (.inl (some 33)), .inr (.inl (some 34)), .inr (.inl (some 35)), .inr (.inl (some 36)), .inl (w_i (g_mH g)), .inl (w_i (g_mC g)), .inl (w_i sprz2), .inl (w_i keez2), .inl (w_i (g_mnp g)), .inl (w_i rulz2), .inl (w_i (g_mhi g)), .inr (.inl (some 37)), .inr (.inl (some 50)), .inr (.inl (some 51)), .inr (.inl (some 52)), .inr (.inl (some 53)), .inr (.inl (some 54)), .inl (w_i tpdz2), .inl (w_i (g_mnt g)), .inl (w_i nxtz2), .inl (w_i tokz2), .inl (w_i tkaz2), .inl (w_i valz2), .inl (w_i x62), .inl (w_i mw1), .inl (w_i rw), .inr (.inl (some 55)), .inr (.inl (some 56)), .inr (.inl (some 57)), .inr (.inl (some 58)), .inr (.inl (some 59)), .inr (.inl (some 60)), .inr (.inl (some 61)), .inr (.inl (some 62)), .inl (w_i kspz2), .inl (w_i kkez2), .inl (w_i kruz2), .inr (.inl (some 63)), .inr (.inl (some 64)), .inr (.inl (some 65)), .inr (.inl (some 66))] pz2 rfl rfl rfl (fun _ => rfl) (fun h64 s63 => ?_)
                have iv65 := is_31 iv s63 ⟨_, _, _, _, _, _, _, _, _, _, _, _, _, _, rfl, by omega, by omega, by omega, by omega, by omega, by omega, by omega, by omega, by omega, by omega, by omega, by omega, by omega, by omega, by omega, by omega, by omega, by omega, by omega, by omega, by omega, by omega, by omega, by omega, by omega, by omega, by omega, by omega, by omega, by omega, by omega, by omega, by omega, by omega, by omega, by omega, by omega, by omega⟩
                have F66 := fr_st F s63 (by rw [(ow_31 iv)]; rfl)
                refine w_al (fun _ => rfl) (w_il (fun _ => rfl) (w_this (fun _ => rfl) s63.2.2.1 (w_cv (fun _ => rfl) rfl (w_run k_679936 (w_al (fun _ => rfl) (w_getf s63.2.2.1 rfl (fun _ => rfl) (w_al (fun _ => rfl) (w_getf s63.2.2.1 rfl (fun _ => rfl) (w_il (fun _ => rfl) ?_)))))))))
                have m67 := st_fr s63 pcw1 (by decide)
                refine w_astI m67 (by omega) (by omega) (by omega) (by omega) (by omega) (fun A71 h69 w72 s68 => ?_)
                have iv70 := is_53 iv65 s68 ⟨_, rfl⟩
                have F73 := fr_st F66 s68 (by rw [(ow_53 iv65)]; rfl)
                refine w_al (fun _ => rfl) (w_dup (fun _ => rfl) ?_)
                have m74 := st_fr s68 s63.2.2.1 (by decide)
                refine w_getf m74 rfl (fun _ => rfl) (w_icI (x := 1) rfl (w_op (c := w_i (mw1 + 1)) (i_add mw1 1) (w_putf [.inr (.inl (some 32)), .inr (.inl (some 33)), .inr (.inl (some 34)), .inr (.inl (some 35)), .inr (.inl (some 36)), .inl (w_i (g_mH g)), .inl (w_i (g_mC g)), .inl (w_i sprz2), .inl (w_i keez2), .inl (w_i (g_mnp g)), .inl (w_i rulz2), .inl (w_i (g_mhi g)), .inr (.inl (some 37)), .inr (.inl (some 50)), .inr (.inl (some 51)), .inr (.inl (some 52)), .inr (.inl (some 53)), .inr (.inl (some 54)), .inl (w_i tpdz2), .inl (w_i (g_mnt g)), .inl (w_i nxtz2), .inl (w_i tokz2), .inl (w_i tkaz2), .inl (w_i valz2), .inl (w_i x62), .inl (w_i (mw1 + 1)), .inl (w_i rw), .inr (.inl (some 55)), .inr (.inl (some 56)), .inr (.inl (some 57)), .inr (.inl (some 58)), .inr (.inl (some 59)), .inr (.inl (some 60)), .inr (.inl (some 61)), .inr (.inl (some 62)), .inl (w_i kspz2), .inl (w_i kkez2), .inl (w_i kruz2), .inr (.inl (some 63)), .inr (.inl (some 64)), .inr (.inl (some 65)), .inr (.inl (some 66))] m74 rfl rfl rfl (fun _ => rfl) (fun h76 s75 => ?_))))
                have iv77 := is_31 iv70 s75 ⟨_, _, _, _, _, _, _, _, _, _, _, _, _, _, rfl, by omega, by omega, by omega, by omega, by omega, by omega, by omega, by omega, by omega, by omega, by omega, by omega, by omega, by omega, by omega, by omega, by omega, by omega, by omega, by omega, by omega, by omega, by omega, by omega, by omega, by omega, by omega, by omega, by omega, by omega, by omega, by omega, by omega, by omega, by omega, by omega, by omega, by omega⟩
                have F78 := fr_st F73 s75 (by rw [(ow_31 iv70)]; rfl)
                refine w_rv ⟨rfl, ?_⟩
                have hpw1 := bc_put (m := mw1) (v := 10) (by omega) (by omega) w72
                have hhw1 := held_put (m := mw1) (v := 10) (by omega) (by omega) (by omega) (by omega) a9w1 w72
                refine w_icI (x := 0) rfl (w_ri ?_)
                have m79 := st_fr s63 paw1 (by decide)
                have m80 := st_fr s68 m79 (by decide)
                have m81 := st_fr s75 m80 (by decide)
                have m82 := st_fr s63 pbw1 (by decide)
                have m83 := st_fr s68 m82 (by decide)
                have m84 := st_fr s75 m83 (by decide)
                have m85 := st_fr s75 s68.2.2.1 (by decide)
                exact k1 h76 iv77 F78 ⟨mw1 + 1, _, _, _, ⟨_, _, _, _, _, _, _, _, _, _, _, _, s75.2.2.1, by omega, by omega, by omega, by omega, by omega, by omega, by omega, by omega, by omega, by omega, by omega, by omega, by omega, by omega, by omega, by omega, by omega, by omega, by omega, by omega, by omega, by omega, by omega, by omega, by omega, by omega, by omega, by omega, by omega, by omega, by omega, by omega, by omega, by omega, by omega, by omega, by omega, by omega, by omega, by omega, by omega, by omega, by omega, by omega, by omega, by omega, by omega⟩, m81, m84, m85, by omega, by omega, by omega, by omega, by omega, by omega, a7w1, (by omega), hhw1, (fun e => absurd e (by omega)), abw1⟩
              · refine w_icI (x := (-1)) wn_1 (w_ri ?_)
                exact k2 h iv F
          · refine w_icI (x := 9) rfl (w_go (w_run k_700550 (w_is (fun _ => rfl) (w_il (fun _ => rfl) (w_eqzf (by omega) (by omega) (by omega)  (w_al (fun _ => rfl) (w_getf pz2 rfl (fun _ => rfl) (w_icI (x := 5) rfl ?_))))))))
            refine w_ne2 (by omega) (by omega) (by omega) (by omega)  (fun c86 => ?_) (fun c86 => ?_)
            · refine w_run k_700565 (w_al (fun _ => rfl) (w_dup (fun _ => rfl) (w_getf pz2 rfl (fun _ => rfl) (w_icI (x := 1) rfl (w_opR add_lt (fun x87 x870 x871 x87e => ?_))))))
              refine w_putf [.inr (.inl (some 32)), .inr (.inl (some 33)), .inr (.inl (some 34)), .inr (.inl (some 35)), .inr (.inl (some 36)), .inl (w_i (g_mH g)), .inl (w_i (g_mC g)), .inl (w_i sprz2), .inl (w_i keez2), .inl (w_i (g_mnp g)), .inl (w_i rulz2), .inl (w_i (g_mhi g)), .inr (.inl (some 37)), .inr (.inl (some 50)), .inr (.inl (some 51)), .inr (.inl (some 52)), .inr (.inl (some 53)), .inr (.inl (some 54)), .inl (w_i tpdz2), .inl (w_i (g_mnt g)), .inl (w_i nxtz2), .inl (w_i tokz2), .inl (w_i tkaz2), .inl (w_i valz2), .inl (w_i x87), .inl (w_i mw1), .inl (w_i rw), .inr (.inl (some 55)), .inr (.inl (some 56)), .inr (.inl (some 57)), .inr (.inl (some 58)), .inr (.inl (some 59)), .inr (.inl (some 60)), .inr (.inl (some 61)), .inr (.inl (some 62)), .inl (w_i kspz2), .inl (w_i kkez2), .inl (w_i kruz2), .inr (.inl (some 63)), .inr (.inl (some 64)), .inr (.inl (some 65)), .inr (.inl (some 66))] pz2 rfl rfl rfl (fun _ => rfl) (fun h89 s88 => ?_)
              have iv90 := is_31 iv s88 ⟨_, _, _, _, _, _, _, _, _, _, _, _, _, _, rfl, by omega, by omega, by omega, by omega, by omega, by omega, by omega, by omega, by omega, by omega, by omega, by omega, by omega, by omega, by omega, by omega, by omega, by omega, by omega, by omega, by omega, by omega, by omega, by omega, by omega, by omega, by omega, by omega, by omega, by omega, by omega, by omega, by omega, by omega, by omega, by omega, by omega, by omega⟩
              have F91 := fr_st F s88 (by rw [(ow_31 iv)]; rfl)
              refine w_al (fun _ => rfl) (w_il (fun _ => rfl) (w_this (fun _ => rfl) s88.2.2.1 (w_cv (fun _ => rfl) rfl (w_run k_679936 (w_al (fun _ => rfl) (w_getf s88.2.2.1 rfl (fun _ => rfl) (w_al (fun _ => rfl) (w_getf s88.2.2.1 rfl (fun _ => rfl) (w_il (fun _ => rfl) ?_)))))))))
              have m92 := st_fr s88 pcw1 (by decide)
              refine w_astI m92 (by omega) (by omega) (by omega) (by omega) (by omega) (fun A96 h94 w97 s93 => ?_)
              have iv95 := is_53 iv90 s93 ⟨_, rfl⟩
              have F98 := fr_st F91 s93 (by rw [(ow_53 iv90)]; rfl)
              refine w_al (fun _ => rfl) (w_dup (fun _ => rfl) ?_)
              have m99 := st_fr s93 s88.2.2.1 (by decide)
              refine w_getf m99 rfl (fun _ => rfl) (w_icI (x := 1) rfl (w_op (c := w_i (mw1 + 1)) (i_add mw1 1) (w_putf [.inr (.inl (some 32)), .inr (.inl (some 33)), .inr (.inl (some 34)), .inr (.inl (some 35)), .inr (.inl (some 36)), .inl (w_i (g_mH g)), .inl (w_i (g_mC g)), .inl (w_i sprz2), .inl (w_i keez2), .inl (w_i (g_mnp g)), .inl (w_i rulz2), .inl (w_i (g_mhi g)), .inr (.inl (some 37)), .inr (.inl (some 50)), .inr (.inl (some 51)), .inr (.inl (some 52)), .inr (.inl (some 53)), .inr (.inl (some 54)), .inl (w_i tpdz2), .inl (w_i (g_mnt g)), .inl (w_i nxtz2), .inl (w_i tokz2), .inl (w_i tkaz2), .inl (w_i valz2), .inl (w_i x87), .inl (w_i (mw1 + 1)), .inl (w_i rw), .inr (.inl (some 55)), .inr (.inl (some 56)), .inr (.inl (some 57)), .inr (.inl (some 58)), .inr (.inl (some 59)), .inr (.inl (some 60)), .inr (.inl (some 61)), .inr (.inl (some 62)), .inl (w_i kspz2), .inl (w_i kkez2), .inl (w_i kruz2), .inr (.inl (some 63)), .inr (.inl (some 64)), .inr (.inl (some 65)), .inr (.inl (some 66))] m99 rfl rfl rfl (fun _ => rfl) (fun h101 s100 => ?_))))
              have iv102 := is_31 iv95 s100 ⟨_, _, _, _, _, _, _, _, _, _, _, _, _, _, rfl, by omega, by omega, by omega, by omega, by omega, by omega, by omega, by omega, by omega, by omega, by omega, by omega, by omega, by omega, by omega, by omega, by omega, by omega, by omega, by omega, by omega, by omega, by omega, by omega, by omega, by omega, by omega, by omega, by omega, by omega, by omega, by omega, by omega, by omega, by omega, by omega, by omega, by omega⟩
              have F103 := fr_st F98 s100 (by rw [(ow_31 iv95)]; rfl)
              refine w_rv ⟨rfl, ?_⟩
              have hpw1 := bc_put (m := mw1) (v := 9) (by omega) (by omega) w97
              have hhw1 := held_put (m := mw1) (v := 9) (by omega) (by omega) (by omega) (by omega) a9w1 w97
              refine w_icI (x := 0) rfl (w_ri ?_)
              have m104 := st_fr s88 paw1 (by decide)
              have m105 := st_fr s93 m104 (by decide)
              have m106 := st_fr s100 m105 (by decide)
              have m107 := st_fr s88 pbw1 (by decide)
              have m108 := st_fr s93 m107 (by decide)
              have m109 := st_fr s100 m108 (by decide)
              have m110 := st_fr s100 s93.2.2.1 (by decide)
              exact k1 h101 iv102 F103 ⟨mw1 + 1, _, _, _, ⟨_, _, _, _, _, _, _, _, _, _, _, _, s100.2.2.1, by omega, by omega, by omega, by omega, by omega, by omega, by omega, by omega, by omega, by omega, by omega, by omega, by omega, by omega, by omega, by omega, by omega, by omega, by omega, by omega, by omega, by omega, by omega, by omega, by omega, by omega, by omega, by omega, by omega, by omega, by omega, by omega, by omega, by omega, by omega, by omega, by omega, by omega, by omega, by omega, by omega, by omega, by omega, by omega, by omega, by omega, by omega⟩, m106, m109, m110, by omega, by omega, by omega, by omega, by omega, by omega, a7w1, (by omega), hhw1, (fun e => absurd e (by omega)), abw1⟩
            · refine w_icI (x := (-1)) wn_1 (w_ri ?_)
              exact k2 h iv F
      · refine w_al (fun _ => rfl) (w_getf pz2 rfl (fun _ => rfl) (w_icI (x := 11) rfl ?_))
        refine w_ne2 (by omega) (by omega) (by omega) (by omega)  (fun c111 => ?_) (fun c111 => ?_)
        · refine w_run k_700503 (w_al (fun _ => rfl) (w_getf pz2 rfl (fun _ => rfl) (w_icI (x := 102) rfl (w_net (by omega) (by omega) (by omega) (by omega) (by omega)  (w_run k_700526 (w_al (fun _ => rfl) (w_getf pz2 rfl (fun _ => rfl) (w_icI (x := 102) rfl (w_net (by omega) (by omega) (by omega) (by omega) (by omega)  (w_run k_700549 (w_icI (x := 0) rfl (w_is (fun _ => rfl) (w_il (fun _ => rfl) (w_eqzt (by omega) (by omega) (by omega)  (w_run k_700563 (w_icI (x := (-1)) wn_1 (w_ri ?_)))))))))))))))))
          exact k2 h iv F
        · refine w_al (fun _ => rfl) (w_this (fun _ => rfl) pz2 (w_ca (fun _ => rfl) rfl (w_run k_696320 (w_al (fun _ => rfl) (w_this (fun _ => rfl) pz2 (w_ca (fun _ => rfl) rfl (w_run k_675840 (w_al (fun _ => rfl) (w_getf pz2 rfl (fun _ => rfl) ?_)))))))))
          refine w_nez2 (by omega) (by omega)  (fun c112 => ?_) (fun c112 => ?_)
          · refine w_run k_675851 (w_al (fun _ => rfl) (w_getf pz2 rfl (fun _ => rfl) (w_al (fun _ => rfl) (w_getf pz2 rfl (fun _ => rfl) (w_icI (x := 1) rfl (w_op (c := w_i (mw1 - 1)) (i_sub mw1 1) (w_aldI pcw1 (by omega) (by omega) (by omega) ?_)))))))
            obtain ⟨b113, b114⟩ := ag_rg Cw1 (mw1 - 1)
            have e115 := a9w1 (mw1 - 1) (by omega) (by omega)
            refine w_ri ⟨_, rfl, ?_⟩
            refine w_is (fun _ => rfl) (w_al (fun _ => rfl) (w_getf pz2 rfl (fun _ => rfl) ?_))
            refine w_eqz2 (by omega) (by omega)  (fun c116 => ?_) (fun c116 => ?_)
            · refine w_run k_696356 (w_icI (x := 1) rfl (w_go (w_run k_696361 (w_rz (by decide) ⟨_, rfl, ?_⟩))))
              refine w_eqzf (by omega) (by omega) (by omega)  (w_icI (x := 8) rfl (w_go (w_run k_700550 (w_is (fun _ => rfl) (w_il (fun _ => rfl) (w_eqzf (by omega) (by omega) (by omega)  (w_al (fun _ => rfl) (w_getf pz2 rfl (fun _ => rfl) (w_icI (x := 5) rfl ?_)))))))))
              refine w_ne2 (by omega) (by omega) (by omega) (by omega)  (fun c117 => ?_) (fun c117 => ?_)
              · refine w_run k_700565 (w_al (fun _ => rfl) (w_dup (fun _ => rfl) (w_getf pz2 rfl (fun _ => rfl) (w_icI (x := 1) rfl (w_opR add_lt (fun x118 x1180 x1181 x118e => ?_))))))
                refine w_putf [.inr (.inl (some 32)), .inr (.inl (some 33)), .inr (.inl (some 34)), .inr (.inl (some 35)), .inr (.inl (some 36)), .inl (w_i (g_mH g)), .inl (w_i (g_mC g)), .inl (w_i sprz2), .inl (w_i keez2), .inl (w_i (g_mnp g)), .inl (w_i rulz2), .inl (w_i (g_mhi g)), .inr (.inl (some 37)), .inr (.inl (some 50)), .inr (.inl (some 51)), .inr (.inl (some 52)), .inr (.inl (some 53)), .inr (.inl (some 54)), .inl (w_i tpdz2), .inl (w_i (g_mnt g)), .inl (w_i nxtz2), .inl (w_i tokz2), .inl (w_i tkaz2), .inl (w_i valz2), .inl (w_i x118), .inl (w_i mw1), .inl (w_i rw), .inr (.inl (some 55)), .inr (.inl (some 56)), .inr (.inl (some 57)), .inr (.inl (some 58)), .inr (.inl (some 59)), .inr (.inl (some 60)), .inr (.inl (some 61)), .inr (.inl (some 62)), .inl (w_i kspz2), .inl (w_i kkez2), .inl (w_i kruz2), .inr (.inl (some 63)), .inr (.inl (some 64)), .inr (.inl (some 65)), .inr (.inl (some 66))] pz2 rfl rfl rfl (fun _ => rfl) (fun h120 s119 => ?_)
                have iv121 := is_31 iv s119 ⟨_, _, _, _, _, _, _, _, _, _, _, _, _, _, rfl, by omega, by omega, by omega, by omega, by omega, by omega, by omega, by omega, by omega, by omega, by omega, by omega, by omega, by omega, by omega, by omega, by omega, by omega, by omega, by omega, by omega, by omega, by omega, by omega, by omega, by omega, by omega, by omega, by omega, by omega, by omega, by omega, by omega, by omega, by omega, by omega, by omega, by omega⟩
                have F122 := fr_st F s119 (by rw [(ow_31 iv)]; rfl)
                refine w_al (fun _ => rfl) (w_il (fun _ => rfl) (w_this (fun _ => rfl) s119.2.2.1 (w_cv (fun _ => rfl) rfl (w_run k_679936 (w_al (fun _ => rfl) (w_getf s119.2.2.1 rfl (fun _ => rfl) (w_al (fun _ => rfl) (w_getf s119.2.2.1 rfl (fun _ => rfl) (w_il (fun _ => rfl) ?_)))))))))
                have m123 := st_fr s119 pcw1 (by decide)
                refine w_astI m123 (by omega) (by omega) (by omega) (by omega) (by omega) (fun A127 h125 w128 s124 => ?_)
                have iv126 := is_53 iv121 s124 ⟨_, rfl⟩
                have F129 := fr_st F122 s124 (by rw [(ow_53 iv121)]; rfl)
                refine w_al (fun _ => rfl) (w_dup (fun _ => rfl) ?_)
                have m130 := st_fr s124 s119.2.2.1 (by decide)
                refine w_getf m130 rfl (fun _ => rfl) (w_icI (x := 1) rfl (w_op (c := w_i (mw1 + 1)) (i_add mw1 1) (w_putf [.inr (.inl (some 32)), .inr (.inl (some 33)), .inr (.inl (some 34)), .inr (.inl (some 35)), .inr (.inl (some 36)), .inl (w_i (g_mH g)), .inl (w_i (g_mC g)), .inl (w_i sprz2), .inl (w_i keez2), .inl (w_i (g_mnp g)), .inl (w_i rulz2), .inl (w_i (g_mhi g)), .inr (.inl (some 37)), .inr (.inl (some 50)), .inr (.inl (some 51)), .inr (.inl (some 52)), .inr (.inl (some 53)), .inr (.inl (some 54)), .inl (w_i tpdz2), .inl (w_i (g_mnt g)), .inl (w_i nxtz2), .inl (w_i tokz2), .inl (w_i tkaz2), .inl (w_i valz2), .inl (w_i x118), .inl (w_i (mw1 + 1)), .inl (w_i rw), .inr (.inl (some 55)), .inr (.inl (some 56)), .inr (.inl (some 57)), .inr (.inl (some 58)), .inr (.inl (some 59)), .inr (.inl (some 60)), .inr (.inl (some 61)), .inr (.inl (some 62)), .inl (w_i kspz2), .inl (w_i kkez2), .inl (w_i kruz2), .inr (.inl (some 63)), .inr (.inl (some 64)), .inr (.inl (some 65)), .inr (.inl (some 66))] m130 rfl rfl rfl (fun _ => rfl) (fun h132 s131 => ?_))))
                have iv133 := is_31 iv126 s131 ⟨_, _, _, _, _, _, _, _, _, _, _, _, _, _, rfl, by omega, by omega, by omega, by omega, by omega, by omega, by omega, by omega, by omega, by omega, by omega, by omega, by omega, by omega, by omega, by omega, by omega, by omega, by omega, by omega, by omega, by omega, by omega, by omega, by omega, by omega, by omega, by omega, by omega, by omega, by omega, by omega, by omega, by omega, by omega, by omega, by omega, by omega⟩
                have F134 := fr_st F129 s131 (by rw [(ow_31 iv126)]; rfl)
                refine w_rv ⟨rfl, ?_⟩
                have hpw1 := bc_put (m := mw1) (v := 8) (by omega) (by omega) w128
                have hhw1 := held_put (m := mw1) (v := 8) (by omega) (by omega) (by omega) (by omega) a9w1 w128
                refine w_icI (x := 0) rfl (w_ri ?_)
                have m135 := st_fr s119 paw1 (by decide)
                have m136 := st_fr s124 m135 (by decide)
                have m137 := st_fr s131 m136 (by decide)
                have m138 := st_fr s119 pbw1 (by decide)
                have m139 := st_fr s124 m138 (by decide)
                have m140 := st_fr s131 m139 (by decide)
                have m141 := st_fr s131 s124.2.2.1 (by decide)
                exact k1 h132 iv133 F134 ⟨mw1 + 1, _, _, _, ⟨_, _, _, _, _, _, _, _, _, _, _, _, s131.2.2.1, by omega, by omega, by omega, by omega, by omega, by omega, by omega, by omega, by omega, by omega, by omega, by omega, by omega, by omega, by omega, by omega, by omega, by omega, by omega, by omega, by omega, by omega, by omega, by omega, by omega, by omega, by omega, by omega, by omega, by omega, by omega, by omega, by omega, by omega, by omega, by omega, by omega, by omega, by omega, by omega, by omega, by omega, by omega, by omega, by omega, by omega, by omega⟩, m137, m140, m141, by omega, by omega, by omega, by omega, by omega, by omega, a7w1, (by omega), hhw1, (fun e => absurd e (by omega)), abw1⟩
              · refine w_icI (x := (-1)) wn_1 (w_ri ?_)
                exact k2 h iv F
            · refine w_il (fun _ => rfl) (w_icI (x := 10) rfl ?_)
              refine w_eq2 (by omega) (by omega) (by omega) (by omega)  (fun c142 => ?_) (fun c142 => ?_)
              · refine w_run k_696356 (w_icI (x := 1) rfl (w_go (w_run k_696361 (w_rz (by decide) ⟨_, rfl, ?_⟩))))
                refine w_eqzf (by omega) (by omega) (by omega)  (w_icI (x := 8) rfl (w_go (w_run k_700550 (w_is (fun _ => rfl) (w_il (fun _ => rfl) (w_eqzf (by omega) (by omega) (by omega)  (w_al (fun _ => rfl) (w_getf pz2 rfl (fun _ => rfl) (w_icI (x := 5) rfl ?_)))))))))
                refine w_ne2 (by omega) (by omega) (by omega) (by omega)  (fun c143 => ?_) (fun c143 => ?_)
                · refine w_run k_700565 (w_al (fun _ => rfl) (w_dup (fun _ => rfl) (w_getf pz2 rfl (fun _ => rfl) (w_icI (x := 1) rfl (w_opR add_lt (fun x144 x1440 x1441 x144e => ?_))))))
                  refine w_putf [.inr (.inl (some 32)), .inr (.inl (some 33)), .inr (.inl (some 34)), .inr (.inl (some 35)), .inr (.inl (some 36)), .inl (w_i (g_mH g)), .inl (w_i (g_mC g)), .inl (w_i sprz2), .inl (w_i keez2), .inl (w_i (g_mnp g)), .inl (w_i rulz2), .inl (w_i (g_mhi g)), .inr (.inl (some 37)), .inr (.inl (some 50)), .inr (.inl (some 51)), .inr (.inl (some 52)), .inr (.inl (some 53)), .inr (.inl (some 54)), .inl (w_i tpdz2), .inl (w_i (g_mnt g)), .inl (w_i nxtz2), .inl (w_i tokz2), .inl (w_i tkaz2), .inl (w_i valz2), .inl (w_i x144), .inl (w_i mw1), .inl (w_i rw), .inr (.inl (some 55)), .inr (.inl (some 56)), .inr (.inl (some 57)), .inr (.inl (some 58)), .inr (.inl (some 59)), .inr (.inl (some 60)), .inr (.inl (some 61)), .inr (.inl (some 62)), .inl (w_i kspz2), .inl (w_i kkez2), .inl (w_i kruz2), .inr (.inl (some 63)), .inr (.inl (some 64)), .inr (.inl (some 65)), .inr (.inl (some 66))] pz2 rfl rfl rfl (fun _ => rfl) (fun h146 s145 => ?_)
                  have iv147 := is_31 iv s145 ⟨_, _, _, _, _, _, _, _, _, _, _, _, _, _, rfl, by omega, by omega, by omega, by omega, by omega, by omega, by omega, by omega, by omega, by omega, by omega, by omega, by omega, by omega, by omega, by omega, by omega, by omega, by omega, by omega, by omega, by omega, by omega, by omega, by omega, by omega, by omega, by omega, by omega, by omega, by omega, by omega, by omega, by omega, by omega, by omega, by omega, by omega⟩
                  have F148 := fr_st F s145 (by rw [(ow_31 iv)]; rfl)
                  refine w_al (fun _ => rfl) (w_il (fun _ => rfl) (w_this (fun _ => rfl) s145.2.2.1 (w_cv (fun _ => rfl) rfl (w_run k_679936 (w_al (fun _ => rfl) (w_getf s145.2.2.1 rfl (fun _ => rfl) (w_al (fun _ => rfl) (w_getf s145.2.2.1 rfl (fun _ => rfl) (w_il (fun _ => rfl) ?_)))))))))
                  have m149 := st_fr s145 pcw1 (by decide)
                  refine w_astI m149 (by omega) (by omega) (by omega) (by omega) (by omega) (fun A153 h151 w154 s150 => ?_)
                  have iv152 := is_53 iv147 s150 ⟨_, rfl⟩
                  have F155 := fr_st F148 s150 (by rw [(ow_53 iv147)]; rfl)
                  refine w_al (fun _ => rfl) (w_dup (fun _ => rfl) ?_)
                  have m156 := st_fr s150 s145.2.2.1 (by decide)
                  refine w_getf m156 rfl (fun _ => rfl) (w_icI (x := 1) rfl (w_op (c := w_i (mw1 + 1)) (i_add mw1 1) (w_putf [.inr (.inl (some 32)), .inr (.inl (some 33)), .inr (.inl (some 34)), .inr (.inl (some 35)), .inr (.inl (some 36)), .inl (w_i (g_mH g)), .inl (w_i (g_mC g)), .inl (w_i sprz2), .inl (w_i keez2), .inl (w_i (g_mnp g)), .inl (w_i rulz2), .inl (w_i (g_mhi g)), .inr (.inl (some 37)), .inr (.inl (some 50)), .inr (.inl (some 51)), .inr (.inl (some 52)), .inr (.inl (some 53)), .inr (.inl (some 54)), .inl (w_i tpdz2), .inl (w_i (g_mnt g)), .inl (w_i nxtz2), .inl (w_i tokz2), .inl (w_i tkaz2), .inl (w_i valz2), .inl (w_i x144), .inl (w_i (mw1 + 1)), .inl (w_i rw), .inr (.inl (some 55)), .inr (.inl (some 56)), .inr (.inl (some 57)), .inr (.inl (some 58)), .inr (.inl (some 59)), .inr (.inl (some 60)), .inr (.inl (some 61)), .inr (.inl (some 62)), .inl (w_i kspz2), .inl (w_i kkez2), .inl (w_i kruz2), .inr (.inl (some 63)), .inr (.inl (some 64)), .inr (.inl (some 65)), .inr (.inl (some 66))] m156 rfl rfl rfl (fun _ => rfl) (fun h158 s157 => ?_))))
                  have iv159 := is_31 iv152 s157 ⟨_, _, _, _, _, _, _, _, _, _, _, _, _, _, rfl, by omega, by omega, by omega, by omega, by omega, by omega, by omega, by omega, by omega, by omega, by omega, by omega, by omega, by omega, by omega, by omega, by omega, by omega, by omega, by omega, by omega, by omega, by omega, by omega, by omega, by omega, by omega, by omega, by omega, by omega, by omega, by omega, by omega, by omega, by omega, by omega, by omega, by omega⟩
                  have F160 := fr_st F155 s157 (by rw [(ow_31 iv152)]; rfl)
                  refine w_rv ⟨rfl, ?_⟩
                  have hpw1 := bc_put (m := mw1) (v := 8) (by omega) (by omega) w154
                  have hhw1 := held_put (m := mw1) (v := 8) (by omega) (by omega) (by omega) (by omega) a9w1 w154
                  refine w_icI (x := 0) rfl (w_ri ?_)
                  have m161 := st_fr s145 paw1 (by decide)
                  have m162 := st_fr s150 m161 (by decide)
                  have m163 := st_fr s157 m162 (by decide)
                  have m164 := st_fr s145 pbw1 (by decide)
                  have m165 := st_fr s150 m164 (by decide)
                  have m166 := st_fr s157 m165 (by decide)
                  have m167 := st_fr s157 s150.2.2.1 (by decide)
                  exact k1 h158 iv159 F160 ⟨mw1 + 1, _, _, _, ⟨_, _, _, _, _, _, _, _, _, _, _, _, s157.2.2.1, by omega, by omega, by omega, by omega, by omega, by omega, by omega, by omega, by omega, by omega, by omega, by omega, by omega, by omega, by omega, by omega, by omega, by omega, by omega, by omega, by omega, by omega, by omega, by omega, by omega, by omega, by omega, by omega, by omega, by omega, by omega, by omega, by omega, by omega, by omega, by omega, by omega, by omega, by omega, by omega, by omega, by omega, by omega, by omega, by omega, by omega, by omega⟩, m163, m166, m167, by omega, by omega, by omega, by omega, by omega, by omega, a7w1, (by omega), hhw1, (fun e => absurd e (by omega)), abw1⟩
                · refine w_icI (x := (-1)) wn_1 (w_ri ?_)
                  exact k2 h iv F
              · refine w_il (fun _ => rfl) (w_icI (x := 7) rfl ?_)
                refine w_eq2 (by omega) (by omega) (by omega) (by omega)  (fun c168 => ?_) (fun c168 => ?_)
                · refine w_run k_696356 (w_icI (x := 1) rfl (w_go (w_run k_696361 (w_rz (by decide) ⟨_, rfl, ?_⟩))))
                  refine w_eqzf (by omega) (by omega) (by omega)  (w_icI (x := 8) rfl (w_go (w_run k_700550 (w_is (fun _ => rfl) (w_il (fun _ => rfl) (w_eqzf (by omega) (by omega) (by omega)  (w_al (fun _ => rfl) (w_getf pz2 rfl (fun _ => rfl) (w_icI (x := 5) rfl ?_)))))))))
                  refine w_ne2 (by omega) (by omega) (by omega) (by omega)  (fun c169 => ?_) (fun c169 => ?_)
                  · refine w_run k_700565 (w_al (fun _ => rfl) (w_dup (fun _ => rfl) (w_getf pz2 rfl (fun _ => rfl) (w_icI (x := 1) rfl (w_opR add_lt (fun x170 x1700 x1701 x170e => ?_))))))
                    refine w_putf [.inr (.inl (some 32)), .inr (.inl (some 33)), .inr (.inl (some 34)), .inr (.inl (some 35)), .inr (.inl (some 36)), .inl (w_i (g_mH g)), .inl (w_i (g_mC g)), .inl (w_i sprz2), .inl (w_i keez2), .inl (w_i (g_mnp g)), .inl (w_i rulz2), .inl (w_i (g_mhi g)), .inr (.inl (some 37)), .inr (.inl (some 50)), .inr (.inl (some 51)), .inr (.inl (some 52)), .inr (.inl (some 53)), .inr (.inl (some 54)), .inl (w_i tpdz2), .inl (w_i (g_mnt g)), .inl (w_i nxtz2), .inl (w_i tokz2), .inl (w_i tkaz2), .inl (w_i valz2), .inl (w_i x170), .inl (w_i mw1), .inl (w_i rw), .inr (.inl (some 55)), .inr (.inl (some 56)), .inr (.inl (some 57)), .inr (.inl (some 58)), .inr (.inl (some 59)), .inr (.inl (some 60)), .inr (.inl (some 61)), .inr (.inl (some 62)), .inl (w_i kspz2), .inl (w_i kkez2), .inl (w_i kruz2), .inr (.inl (some 63)), .inr (.inl (some 64)), .inr (.inl (some 65)), .inr (.inl (some 66))] pz2 rfl rfl rfl (fun _ => rfl) (fun h172 s171 => ?_)
                    have iv173 := is_31 iv s171 ⟨_, _, _, _, _, _, _, _, _, _, _, _, _, _, rfl, by omega, by omega, by omega, by omega, by omega, by omega, by omega, by omega, by omega, by omega, by omega, by omega, by omega, by omega, by omega, by omega, by omega, by omega, by omega, by omega, by omega, by omega, by omega, by omega, by omega, by omega, by omega, by omega, by omega, by omega, by omega, by omega, by omega, by omega, by omega, by omega, by omega, by omega⟩
                    have F174 := fr_st F s171 (by rw [(ow_31 iv)]; rfl)
                    refine w_al (fun _ => rfl) (w_il (fun _ => rfl) (w_this (fun _ => rfl) s171.2.2.1 (w_cv (fun _ => rfl) rfl (w_run k_679936 (w_al (fun _ => rfl) (w_getf s171.2.2.1 rfl (fun _ => rfl) (w_al (fun _ => rfl) (w_getf s171.2.2.1 rfl (fun _ => rfl) (w_il (fun _ => rfl) ?_)))))))))
                    have m175 := st_fr s171 pcw1 (by decide)
                    refine w_astI m175 (by omega) (by omega) (by omega) (by omega) (by omega) (fun A179 h177 w180 s176 => ?_)
                    have iv178 := is_53 iv173 s176 ⟨_, rfl⟩
                    have F181 := fr_st F174 s176 (by rw [(ow_53 iv173)]; rfl)
                    refine w_al (fun _ => rfl) (w_dup (fun _ => rfl) ?_)
                    have m182 := st_fr s176 s171.2.2.1 (by decide)
                    refine w_getf m182 rfl (fun _ => rfl) (w_icI (x := 1) rfl (w_op (c := w_i (mw1 + 1)) (i_add mw1 1) (w_putf [.inr (.inl (some 32)), .inr (.inl (some 33)), .inr (.inl (some 34)), .inr (.inl (some 35)), .inr (.inl (some 36)), .inl (w_i (g_mH g)), .inl (w_i (g_mC g)), .inl (w_i sprz2), .inl (w_i keez2), .inl (w_i (g_mnp g)), .inl (w_i rulz2), .inl (w_i (g_mhi g)), .inr (.inl (some 37)), .inr (.inl (some 50)), .inr (.inl (some 51)), .inr (.inl (some 52)), .inr (.inl (some 53)), .inr (.inl (some 54)), .inl (w_i tpdz2), .inl (w_i (g_mnt g)), .inl (w_i nxtz2), .inl (w_i tokz2), .inl (w_i tkaz2), .inl (w_i valz2), .inl (w_i x170), .inl (w_i (mw1 + 1)), .inl (w_i rw), .inr (.inl (some 55)), .inr (.inl (some 56)), .inr (.inl (some 57)), .inr (.inl (some 58)), .inr (.inl (some 59)), .inr (.inl (some 60)), .inr (.inl (some 61)), .inr (.inl (some 62)), .inl (w_i kspz2), .inl (w_i kkez2), .inl (w_i kruz2), .inr (.inl (some 63)), .inr (.inl (some 64)), .inr (.inl (some 65)), .inr (.inl (some 66))] m182 rfl rfl rfl (fun _ => rfl) (fun h184 s183 => ?_))))
                    have iv185 := is_31 iv178 s183 ⟨_, _, _, _, _, _, _, _, _, _, _, _, _, _, rfl, by omega, by omega, by omega, by omega, by omega, by omega, by omega, by omega, by omega, by omega, by omega, by omega, by omega, by omega, by omega, by omega, by omega, by omega, by omega, by omega, by omega, by omega, by omega, by omega, by omega, by omega, by omega, by omega, by omega, by omega, by omega, by omega, by omega, by omega, by omega, by omega, by omega, by omega⟩
                    have F186 := fr_st F181 s183 (by rw [(ow_31 iv178)]; rfl)
                    refine w_rv ⟨rfl, ?_⟩
                    have hpw1 := bc_put (m := mw1) (v := 8) (by omega) (by omega) w180
                    have hhw1 := held_put (m := mw1) (v := 8) (by omega) (by omega) (by omega) (by omega) a9w1 w180
                    refine w_icI (x := 0) rfl (w_ri ?_)
                    have m187 := st_fr s171 paw1 (by decide)
                    have m188 := st_fr s176 m187 (by decide)
                    have m189 := st_fr s183 m188 (by decide)
                    have m190 := st_fr s171 pbw1 (by decide)
                    have m191 := st_fr s176 m190 (by decide)
                    have m192 := st_fr s183 m191 (by decide)
                    have m193 := st_fr s183 s176.2.2.1 (by decide)
                    exact k1 h184 iv185 F186 ⟨mw1 + 1, _, _, _, ⟨_, _, _, _, _, _, _, _, _, _, _, _, s183.2.2.1, by omega, by omega, by omega, by omega, by omega, by omega, by omega, by omega, by omega, by omega, by omega, by omega, by omega, by omega, by omega, by omega, by omega, by omega, by omega, by omega, by omega, by omega, by omega, by omega, by omega, by omega, by omega, by omega, by omega, by omega, by omega, by omega, by omega, by omega, by omega, by omega, by omega, by omega, by omega, by omega, by omega, by omega, by omega, by omega, by omega, by omega, by omega⟩, m189, m192, m193, by omega, by omega, by omega, by omega, by omega, by omega, a7w1, (by omega), hhw1, (fun e => absurd e (by omega)), abw1⟩
                  · refine w_icI (x := (-1)) wn_1 (w_ri ?_)
                    exact k2 h iv F
                · refine w_il (fun _ => rfl) (w_icI (x := 6) rfl ?_)
                  refine w_eq2 (by omega) (by omega) (by omega) (by omega)  (fun c194 => ?_) (fun c194 => ?_)
                  · refine w_run k_696356 (w_icI (x := 1) rfl (w_go (w_run k_696361 (w_rz (by decide) ⟨_, rfl, ?_⟩))))
                    refine w_eqzf (by omega) (by omega) (by omega)  (w_icI (x := 8) rfl (w_go (w_run k_700550 (w_is (fun _ => rfl) (w_il (fun _ => rfl) (w_eqzf (by omega) (by omega) (by omega)  (w_al (fun _ => rfl) (w_getf pz2 rfl (fun _ => rfl) (w_icI (x := 5) rfl ?_)))))))))
                    refine w_ne2 (by omega) (by omega) (by omega) (by omega)  (fun c195 => ?_) (fun c195 => ?_)
                    · refine w_run k_700565 (w_al (fun _ => rfl) (w_dup (fun _ => rfl) (w_getf pz2 rfl (fun _ => rfl) (w_icI (x := 1) rfl (w_opR add_lt (fun x196 x1960 x1961 x196e => ?_))))))
                      refine w_putf [.inr (.inl (some 32)), .inr (.inl (some 33)), .inr (.inl (some 34)), .inr (.inl (some 35)), .inr (.inl (some 36)), .inl (w_i (g_mH g)), .inl (w_i (g_mC g)), .inl (w_i sprz2), .inl (w_i keez2), .inl (w_i (g_mnp g)), .inl (w_i rulz2), .inl (w_i (g_mhi g)), .inr (.inl (some 37)), .inr (.inl (some 50)), .inr (.inl (some 51)), .inr (.inl (some 52)), .inr (.inl (some 53)), .inr (.inl (some 54)), .inl (w_i tpdz2), .inl (w_i (g_mnt g)), .inl (w_i nxtz2), .inl (w_i tokz2), .inl (w_i tkaz2), .inl (w_i valz2), .inl (w_i x196), .inl (w_i mw1), .inl (w_i rw), .inr (.inl (some 55)), .inr (.inl (some 56)), .inr (.inl (some 57)), .inr (.inl (some 58)), .inr (.inl (some 59)), .inr (.inl (some 60)), .inr (.inl (some 61)), .inr (.inl (some 62)), .inl (w_i kspz2), .inl (w_i kkez2), .inl (w_i kruz2), .inr (.inl (some 63)), .inr (.inl (some 64)), .inr (.inl (some 65)), .inr (.inl (some 66))] pz2 rfl rfl rfl (fun _ => rfl) (fun h198 s197 => ?_)
                      have iv199 := is_31 iv s197 ⟨_, _, _, _, _, _, _, _, _, _, _, _, _, _, rfl, by omega, by omega, by omega, by omega, by omega, by omega, by omega, by omega, by omega, by omega, by omega, by omega, by omega, by omega, by omega, by omega, by omega, by omega, by omega, by omega, by omega, by omega, by omega, by omega, by omega, by omega, by omega, by omega, by omega, by omega, by omega, by omega, by omega, by omega, by omega, by omega, by omega, by omega⟩
                      have F200 := fr_st F s197 (by rw [(ow_31 iv)]; rfl)
                      refine w_al (fun _ => rfl) (w_il (fun _ => rfl) (w_this (fun _ => rfl) s197.2.2.1 (w_cv (fun _ => rfl) rfl (w_run k_679936 (w_al (fun _ => rfl) (w_getf s197.2.2.1 rfl (fun _ => rfl) (w_al (fun _ => rfl) (w_getf s197.2.2.1 rfl (fun _ => rfl) (w_il (fun _ => rfl) ?_)))))))))
                      have m201 := st_fr s197 pcw1 (by decide)
                      refine w_astI m201 (by omega) (by omega) (by omega) (by omega) (by omega) (fun A205 h203 w206 s202 => ?_)
                      have iv204 := is_53 iv199 s202 ⟨_, rfl⟩
                      have F207 := fr_st F200 s202 (by rw [(ow_53 iv199)]; rfl)
                      refine w_al (fun _ => rfl) (w_dup (fun _ => rfl) ?_)
                      have m208 := st_fr s202 s197.2.2.1 (by decide)
                      refine w_getf m208 rfl (fun _ => rfl) (w_icI (x := 1) rfl (w_op (c := w_i (mw1 + 1)) (i_add mw1 1) (w_putf [.inr (.inl (some 32)), .inr (.inl (some 33)), .inr (.inl (some 34)), .inr (.inl (some 35)), .inr (.inl (some 36)), .inl (w_i (g_mH g)), .inl (w_i (g_mC g)), .inl (w_i sprz2), .inl (w_i keez2), .inl (w_i (g_mnp g)), .inl (w_i rulz2), .inl (w_i (g_mhi g)), .inr (.inl (some 37)), .inr (.inl (some 50)), .inr (.inl (some 51)), .inr (.inl (some 52)), .inr (.inl (some 53)), .inr (.inl (some 54)), .inl (w_i tpdz2), .inl (w_i (g_mnt g)), .inl (w_i nxtz2), .inl (w_i tokz2), .inl (w_i tkaz2), .inl (w_i valz2), .inl (w_i x196), .inl (w_i (mw1 + 1)), .inl (w_i rw), .inr (.inl (some 55)), .inr (.inl (some 56)), .inr (.inl (some 57)), .inr (.inl (some 58)), .inr (.inl (some 59)), .inr (.inl (some 60)), .inr (.inl (some 61)), .inr (.inl (some 62)), .inl (w_i kspz2), .inl (w_i kkez2), .inl (w_i kruz2), .inr (.inl (some 63)), .inr (.inl (some 64)), .inr (.inl (some 65)), .inr (.inl (some 66))] m208 rfl rfl rfl (fun _ => rfl) (fun h210 s209 => ?_))))
                      have iv211 := is_31 iv204 s209 ⟨_, _, _, _, _, _, _, _, _, _, _, _, _, _, rfl, by omega, by omega, by omega, by omega, by omega, by omega, by omega, by omega, by omega, by omega, by omega, by omega, by omega, by omega, by omega, by omega, by omega, by omega, by omega, by omega, by omega, by omega, by omega, by omega, by omega, by omega, by omega, by omega, by omega, by omega, by omega, by omega, by omega, by omega, by omega, by omega, by omega, by omega⟩
                      have F212 := fr_st F207 s209 (by rw [(ow_31 iv204)]; rfl)
                      refine w_rv ⟨rfl, ?_⟩
                      have hpw1 := bc_put (m := mw1) (v := 8) (by omega) (by omega) w206
                      have hhw1 := held_put (m := mw1) (v := 8) (by omega) (by omega) (by omega) (by omega) a9w1 w206
                      refine w_icI (x := 0) rfl (w_ri ?_)
                      have m213 := st_fr s197 paw1 (by decide)
                      have m214 := st_fr s202 m213 (by decide)
                      have m215 := st_fr s209 m214 (by decide)
                      have m216 := st_fr s197 pbw1 (by decide)
                      have m217 := st_fr s202 m216 (by decide)
                      have m218 := st_fr s209 m217 (by decide)
                      have m219 := st_fr s209 s202.2.2.1 (by decide)
                      exact k1 h210 iv211 F212 ⟨mw1 + 1, _, _, _, ⟨_, _, _, _, _, _, _, _, _, _, _, _, s209.2.2.1, by omega, by omega, by omega, by omega, by omega, by omega, by omega, by omega, by omega, by omega, by omega, by omega, by omega, by omega, by omega, by omega, by omega, by omega, by omega, by omega, by omega, by omega, by omega, by omega, by omega, by omega, by omega, by omega, by omega, by omega, by omega, by omega, by omega, by omega, by omega, by omega, by omega, by omega, by omega, by omega, by omega, by omega, by omega, by omega, by omega, by omega, by omega⟩, m215, m218, m219, by omega, by omega, by omega, by omega, by omega, by omega, a7w1, (by omega), hhw1, (fun e => absurd e (by omega)), abw1⟩
                    · refine w_icI (x := (-1)) wn_1 (w_ri ?_)
                      exact k2 h iv F
                  · refine w_il (fun _ => rfl) (w_icI (x := 8) rfl ?_)
                    refine w_ne2 (by omega) (by omega) (by omega) (by omega)  (fun c220 => ?_) (fun c220 => ?_)
                    · refine w_run k_696360 (w_icI (x := 0) rfl (w_rz (by decide) ⟨_, rfl, ?_⟩))
                      refine w_eqzt (by omega) (by omega) (by omega)  (w_run k_700503 (w_al (fun _ => rfl) (w_getf pz2 rfl (fun _ => rfl) (w_icI (x := 102) rfl (w_net (by omega) (by omega) (by omega) (by omega) (by omega)  (w_run k_700526 (w_al (fun _ => rfl) (w_getf pz2 rfl (fun _ => rfl) (w_icI (x := 102) rfl (w_net (by omega) (by omega) (by omega) (by omega) (by omega)  (w_run k_700549 (w_icI (x := 0) rfl (w_is (fun _ => rfl) (w_il (fun _ => rfl) (w_eqzt (by omega) (by omega) (by omega)  (w_run k_700563 (w_icI (x := (-1)) wn_1 (w_ri ?_))))))))))))))))))
                      exact k2 h iv F
                    · refine w_icI (x := 1) rfl (w_go (w_run k_696361 (w_rz (by decide) ⟨_, rfl, ?_⟩)))
                      refine w_eqzf (by omega) (by omega) (by omega)  (w_icI (x := 8) rfl (w_go (w_run k_700550 (w_is (fun _ => rfl) (w_il (fun _ => rfl) (w_eqzf (by omega) (by omega) (by omega)  (w_al (fun _ => rfl) (w_getf pz2 rfl (fun _ => rfl) (w_icI (x := 5) rfl ?_)))))))))
                      refine w_ne2 (by omega) (by omega) (by omega) (by omega)  (fun c221 => ?_) (fun c221 => ?_)
                      · refine w_run k_700565 (w_al (fun _ => rfl) (w_dup (fun _ => rfl) (w_getf pz2 rfl (fun _ => rfl) (w_icI (x := 1) rfl (w_opR add_lt (fun x222 x2220 x2221 x222e => ?_))))))
                        refine w_putf [.inr (.inl (some 32)), .inr (.inl (some 33)), .inr (.inl (some 34)), .inr (.inl (some 35)), .inr (.inl (some 36)), .inl (w_i (g_mH g)), .inl (w_i (g_mC g)), .inl (w_i sprz2), .inl (w_i keez2), .inl (w_i (g_mnp g)), .inl (w_i rulz2), .inl (w_i (g_mhi g)), .inr (.inl (some 37)), .inr (.inl (some 50)), .inr (.inl (some 51)), .inr (.inl (some 52)), .inr (.inl (some 53)), .inr (.inl (some 54)), .inl (w_i tpdz2), .inl (w_i (g_mnt g)), .inl (w_i nxtz2), .inl (w_i tokz2), .inl (w_i tkaz2), .inl (w_i valz2), .inl (w_i x222), .inl (w_i mw1), .inl (w_i rw), .inr (.inl (some 55)), .inr (.inl (some 56)), .inr (.inl (some 57)), .inr (.inl (some 58)), .inr (.inl (some 59)), .inr (.inl (some 60)), .inr (.inl (some 61)), .inr (.inl (some 62)), .inl (w_i kspz2), .inl (w_i kkez2), .inl (w_i kruz2), .inr (.inl (some 63)), .inr (.inl (some 64)), .inr (.inl (some 65)), .inr (.inl (some 66))] pz2 rfl rfl rfl (fun _ => rfl) (fun h224 s223 => ?_)
                        have iv225 := is_31 iv s223 ⟨_, _, _, _, _, _, _, _, _, _, _, _, _, _, rfl, by omega, by omega, by omega, by omega, by omega, by omega, by omega, by omega, by omega, by omega, by omega, by omega, by omega, by omega, by omega, by omega, by omega, by omega, by omega, by omega, by omega, by omega, by omega, by omega, by omega, by omega, by omega, by omega, by omega, by omega, by omega, by omega, by omega, by omega, by omega, by omega, by omega, by omega⟩
                        have F226 := fr_st F s223 (by rw [(ow_31 iv)]; rfl)
                        refine w_al (fun _ => rfl) (w_il (fun _ => rfl) (w_this (fun _ => rfl) s223.2.2.1 (w_cv (fun _ => rfl) rfl (w_run k_679936 (w_al (fun _ => rfl) (w_getf s223.2.2.1 rfl (fun _ => rfl) (w_al (fun _ => rfl) (w_getf s223.2.2.1 rfl (fun _ => rfl) (w_il (fun _ => rfl) ?_)))))))))
                        have m227 := st_fr s223 pcw1 (by decide)
                        refine w_astI m227 (by omega) (by omega) (by omega) (by omega) (by omega) (fun A231 h229 w232 s228 => ?_)
                        have iv230 := is_53 iv225 s228 ⟨_, rfl⟩
                        have F233 := fr_st F226 s228 (by rw [(ow_53 iv225)]; rfl)
                        refine w_al (fun _ => rfl) (w_dup (fun _ => rfl) ?_)
                        have m234 := st_fr s228 s223.2.2.1 (by decide)
                        refine w_getf m234 rfl (fun _ => rfl) (w_icI (x := 1) rfl (w_op (c := w_i (mw1 + 1)) (i_add mw1 1) (w_putf [.inr (.inl (some 32)), .inr (.inl (some 33)), .inr (.inl (some 34)), .inr (.inl (some 35)), .inr (.inl (some 36)), .inl (w_i (g_mH g)), .inl (w_i (g_mC g)), .inl (w_i sprz2), .inl (w_i keez2), .inl (w_i (g_mnp g)), .inl (w_i rulz2), .inl (w_i (g_mhi g)), .inr (.inl (some 37)), .inr (.inl (some 50)), .inr (.inl (some 51)), .inr (.inl (some 52)), .inr (.inl (some 53)), .inr (.inl (some 54)), .inl (w_i tpdz2), .inl (w_i (g_mnt g)), .inl (w_i nxtz2), .inl (w_i tokz2), .inl (w_i tkaz2), .inl (w_i valz2), .inl (w_i x222), .inl (w_i (mw1 + 1)), .inl (w_i rw), .inr (.inl (some 55)), .inr (.inl (some 56)), .inr (.inl (some 57)), .inr (.inl (some 58)), .inr (.inl (some 59)), .inr (.inl (some 60)), .inr (.inl (some 61)), .inr (.inl (some 62)), .inl (w_i kspz2), .inl (w_i kkez2), .inl (w_i kruz2), .inr (.inl (some 63)), .inr (.inl (some 64)), .inr (.inl (some 65)), .inr (.inl (some 66))] m234 rfl rfl rfl (fun _ => rfl) (fun h236 s235 => ?_))))
                        have iv237 := is_31 iv230 s235 ⟨_, _, _, _, _, _, _, _, _, _, _, _, _, _, rfl, by omega, by omega, by omega, by omega, by omega, by omega, by omega, by omega, by omega, by omega, by omega, by omega, by omega, by omega, by omega, by omega, by omega, by omega, by omega, by omega, by omega, by omega, by omega, by omega, by omega, by omega, by omega, by omega, by omega, by omega, by omega, by omega, by omega, by omega, by omega, by omega, by omega, by omega⟩
                        have F238 := fr_st F233 s235 (by rw [(ow_31 iv230)]; rfl)
                        refine w_rv ⟨rfl, ?_⟩
                        have hpw1 := bc_put (m := mw1) (v := 8) (by omega) (by omega) w232
                        have hhw1 := held_put (m := mw1) (v := 8) (by omega) (by omega) (by omega) (by omega) a9w1 w232
                        refine w_icI (x := 0) rfl (w_ri ?_)
                        have m239 := st_fr s223 paw1 (by decide)
                        have m240 := st_fr s228 m239 (by decide)
                        have m241 := st_fr s235 m240 (by decide)
                        have m242 := st_fr s223 pbw1 (by decide)
                        have m243 := st_fr s228 m242 (by decide)
                        have m244 := st_fr s235 m243 (by decide)
                        have m245 := st_fr s235 s228.2.2.1 (by decide)
                        exact k1 h236 iv237 F238 ⟨mw1 + 1, _, _, _, ⟨_, _, _, _, _, _, _, _, _, _, _, _, s235.2.2.1, by omega, by omega, by omega, by omega, by omega, by omega, by omega, by omega, by omega, by omega, by omega, by omega, by omega, by omega, by omega, by omega, by omega, by omega, by omega, by omega, by omega, by omega, by omega, by omega, by omega, by omega, by omega, by omega, by omega, by omega, by omega, by omega, by omega, by omega, by omega, by omega, by omega, by omega, by omega, by omega, by omega, by omega, by omega, by omega, by omega, by omega, by omega⟩, m241, m244, m245, by omega, by omega, by omega, by omega, by omega, by omega, a7w1, (by omega), hhw1, (fun e => absurd e (by omega)), abw1⟩
                      · refine w_icI (x := (-1)) wn_1 (w_ri ?_)
                        exact k2 h iv F
          · refine w_icI (x := 0) rfl (w_go (w_run k_675862 (w_ri ⟨_, rfl, ?_⟩)))
            refine w_is (fun _ => rfl) (w_al (fun _ => rfl) (w_getf pz2 rfl (fun _ => rfl) (w_eqzt (by omega) (by omega) (by omega)  (w_run k_696356 (w_icI (x := 1) rfl (w_go (w_run k_696361 (w_rz (by decide) ⟨_, rfl, ?_⟩))))))))
            refine w_eqzf (by omega) (by omega) (by omega)  (w_icI (x := 8) rfl (w_go (w_run k_700550 (w_is (fun _ => rfl) (w_il (fun _ => rfl) (w_eqzf (by omega) (by omega) (by omega)  (w_al (fun _ => rfl) (w_getf pz2 rfl (fun _ => rfl) (w_icI (x := 5) rfl ?_)))))))))
            refine w_ne2 (by omega) (by omega) (by omega) (by omega)  (fun c246 => ?_) (fun c246 => ?_)
            · refine w_run k_700565 (w_al (fun _ => rfl) (w_dup (fun _ => rfl) (w_getf pz2 rfl (fun _ => rfl) (w_icI (x := 1) rfl (w_opR add_lt (fun x247 x2470 x2471 x247e => ?_))))))
              refine w_putf [.inr (.inl (some 32)), .inr (.inl (some 33)), .inr (.inl (some 34)), .inr (.inl (some 35)), .inr (.inl (some 36)), .inl (w_i (g_mH g)), .inl (w_i (g_mC g)), .inl (w_i sprz2), .inl (w_i keez2), .inl (w_i (g_mnp g)), .inl (w_i rulz2), .inl (w_i (g_mhi g)), .inr (.inl (some 37)), .inr (.inl (some 50)), .inr (.inl (some 51)), .inr (.inl (some 52)), .inr (.inl (some 53)), .inr (.inl (some 54)), .inl (w_i tpdz2), .inl (w_i (g_mnt g)), .inl (w_i nxtz2), .inl (w_i tokz2), .inl (w_i tkaz2), .inl (w_i valz2), .inl (w_i x247), .inl (w_i mw1), .inl (w_i rw), .inr (.inl (some 55)), .inr (.inl (some 56)), .inr (.inl (some 57)), .inr (.inl (some 58)), .inr (.inl (some 59)), .inr (.inl (some 60)), .inr (.inl (some 61)), .inr (.inl (some 62)), .inl (w_i kspz2), .inl (w_i kkez2), .inl (w_i kruz2), .inr (.inl (some 63)), .inr (.inl (some 64)), .inr (.inl (some 65)), .inr (.inl (some 66))] pz2 rfl rfl rfl (fun _ => rfl) (fun h249 s248 => ?_)
              have iv250 := is_31 iv s248 ⟨_, _, _, _, _, _, _, _, _, _, _, _, _, _, rfl, by omega, by omega, by omega, by omega, by omega, by omega, by omega, by omega, by omega, by omega, by omega, by omega, by omega, by omega, by omega, by omega, by omega, by omega, by omega, by omega, by omega, by omega, by omega, by omega, by omega, by omega, by omega, by omega, by omega, by omega, by omega, by omega, by omega, by omega, by omega, by omega, by omega, by omega⟩
              have F251 := fr_st F s248 (by rw [(ow_31 iv)]; rfl)
              refine w_al (fun _ => rfl) (w_il (fun _ => rfl) (w_this (fun _ => rfl) s248.2.2.1 (w_cv (fun _ => rfl) rfl (w_run k_679936 (w_al (fun _ => rfl) (w_getf s248.2.2.1 rfl (fun _ => rfl) (w_al (fun _ => rfl) (w_getf s248.2.2.1 rfl (fun _ => rfl) (w_il (fun _ => rfl) ?_)))))))))
              have m252 := st_fr s248 pcw1 (by decide)
              refine w_astI m252 (by omega) (by omega) (by omega) (by omega) (by omega) (fun A256 h254 w257 s253 => ?_)
              have iv255 := is_53 iv250 s253 ⟨_, rfl⟩
              have F258 := fr_st F251 s253 (by rw [(ow_53 iv250)]; rfl)
              refine w_al (fun _ => rfl) (w_dup (fun _ => rfl) ?_)
              have m259 := st_fr s253 s248.2.2.1 (by decide)
              refine w_getf m259 rfl (fun _ => rfl) (w_icI (x := 1) rfl (w_op (c := w_i (mw1 + 1)) (i_add mw1 1) (w_putf [.inr (.inl (some 32)), .inr (.inl (some 33)), .inr (.inl (some 34)), .inr (.inl (some 35)), .inr (.inl (some 36)), .inl (w_i (g_mH g)), .inl (w_i (g_mC g)), .inl (w_i sprz2), .inl (w_i keez2), .inl (w_i (g_mnp g)), .inl (w_i rulz2), .inl (w_i (g_mhi g)), .inr (.inl (some 37)), .inr (.inl (some 50)), .inr (.inl (some 51)), .inr (.inl (some 52)), .inr (.inl (some 53)), .inr (.inl (some 54)), .inl (w_i tpdz2), .inl (w_i (g_mnt g)), .inl (w_i nxtz2), .inl (w_i tokz2), .inl (w_i tkaz2), .inl (w_i valz2), .inl (w_i x247), .inl (w_i (mw1 + 1)), .inl (w_i rw), .inr (.inl (some 55)), .inr (.inl (some 56)), .inr (.inl (some 57)), .inr (.inl (some 58)), .inr (.inl (some 59)), .inr (.inl (some 60)), .inr (.inl (some 61)), .inr (.inl (some 62)), .inl (w_i kspz2), .inl (w_i kkez2), .inl (w_i kruz2), .inr (.inl (some 63)), .inr (.inl (some 64)), .inr (.inl (some 65)), .inr (.inl (some 66))] m259 rfl rfl rfl (fun _ => rfl) (fun h261 s260 => ?_))))
              have iv262 := is_31 iv255 s260 ⟨_, _, _, _, _, _, _, _, _, _, _, _, _, _, rfl, by omega, by omega, by omega, by omega, by omega, by omega, by omega, by omega, by omega, by omega, by omega, by omega, by omega, by omega, by omega, by omega, by omega, by omega, by omega, by omega, by omega, by omega, by omega, by omega, by omega, by omega, by omega, by omega, by omega, by omega, by omega, by omega, by omega, by omega, by omega, by omega, by omega, by omega⟩
              have F263 := fr_st F258 s260 (by rw [(ow_31 iv255)]; rfl)
              refine w_rv ⟨rfl, ?_⟩
              have hpw1 := bc_put (m := mw1) (v := 8) (by omega) (by omega) w257
              have hhw1 := held_put (m := mw1) (v := 8) (by omega) (by omega) (by omega) (by omega) a9w1 w257
              refine w_icI (x := 0) rfl (w_ri ?_)
              have m264 := st_fr s248 paw1 (by decide)
              have m265 := st_fr s253 m264 (by decide)
              have m266 := st_fr s260 m265 (by decide)
              have m267 := st_fr s248 pbw1 (by decide)
              have m268 := st_fr s253 m267 (by decide)
              have m269 := st_fr s260 m268 (by decide)
              have m270 := st_fr s260 s253.2.2.1 (by decide)
              exact k1 h261 iv262 F263 ⟨mw1 + 1, _, _, _, ⟨_, _, _, _, _, _, _, _, _, _, _, _, s260.2.2.1, by omega, by omega, by omega, by omega, by omega, by omega, by omega, by omega, by omega, by omega, by omega, by omega, by omega, by omega, by omega, by omega, by omega, by omega, by omega, by omega, by omega, by omega, by omega, by omega, by omega, by omega, by omega, by omega, by omega, by omega, by omega, by omega, by omega, by omega, by omega, by omega, by omega, by omega, by omega, by omega, by omega, by omega, by omega, by omega, by omega, by omega, by omega⟩, m266, m269, m270, by omega, by omega, by omega, by omega, by omega, by omega, a7w1, (by omega), hhw1, (fun e => absurd e (by omega)), abw1⟩
            · refine w_icI (x := (-1)) wn_1 (w_ri ?_)
              exact k2 h iv F
    · refine w_al (fun _ => rfl) (w_getf pz2 rfl (fun _ => rfl) (w_icI (x := 6) rfl ?_))
      refine w_ge2 (by omega) (by omega) (by omega) (by omega)  (fun c271 => ?_) (fun c271 => ?_)
      · refine w_run k_700473 (w_al (fun _ => rfl) (w_getf pz2 rfl (fun _ => rfl) (w_icI (x := 101) rfl (w_nef (by omega) (by omega) (by omega) (by omega) (by omega)  (w_al (fun _ => rfl) (w_getf pz2 rfl (fun _ => rfl) (w_icI (x := 11) rfl ?_)))))))
        refine w_ne2 (by omega) (by omega) (by omega) (by omega)  (fun c272 => ?_) (fun c272 => ?_)
        · refine w_run k_700503 (w_al (fun _ => rfl) (w_getf pz2 rfl (fun _ => rfl) (w_icI (x := 102) rfl (w_net (by omega) (by omega) (by omega) (by omega) (by omega)  (w_run k_700526 (w_al (fun _ => rfl) (w_getf pz2 rfl (fun _ => rfl) (w_icI (x := 102) rfl (w_net (by omega) (by omega) (by omega) (by omega) (by omega)  (w_run k_700549 (w_icI (x := 0) rfl (w_is (fun _ => rfl) (w_il (fun _ => rfl) (w_eqzt (by omega) (by omega) (by omega)  (w_run k_700563 (w_icI (x := (-1)) wn_1 (w_ri ?_)))))))))))))))))
          exact k2 h iv F
        · refine w_al (fun _ => rfl) (w_this (fun _ => rfl) pz2 (w_ca (fun _ => rfl) rfl (w_run k_696320 (w_al (fun _ => rfl) (w_this (fun _ => rfl) pz2 (w_ca (fun _ => rfl) rfl (w_run k_675840 (w_al (fun _ => rfl) (w_getf pz2 rfl (fun _ => rfl) ?_)))))))))
          refine w_nez2 (by omega) (by omega)  (fun c273 => ?_) (fun c273 => ?_)
          · refine w_run k_675851 (w_al (fun _ => rfl) (w_getf pz2 rfl (fun _ => rfl) (w_al (fun _ => rfl) (w_getf pz2 rfl (fun _ => rfl) (w_icI (x := 1) rfl (w_op (c := w_i (mw1 - 1)) (i_sub mw1 1) (w_aldI pcw1 (by omega) (by omega) (by omega) ?_)))))))
            obtain ⟨b274, b275⟩ := ag_rg Cw1 (mw1 - 1)
            have e276 := a9w1 (mw1 - 1) (by omega) (by omega)
            refine w_ri ⟨_, rfl, ?_⟩
            refine w_is (fun _ => rfl) (w_al (fun _ => rfl) (w_getf pz2 rfl (fun _ => rfl) ?_))
            refine w_eqz2 (by omega) (by omega)  (fun c277 => ?_) (fun c277 => ?_)
            · refine w_run k_696356 (w_icI (x := 1) rfl (w_go (w_run k_696361 (w_rz (by decide) ⟨_, rfl, ?_⟩))))
              refine w_eqzf (by omega) (by omega) (by omega)  (w_icI (x := 8) rfl (w_go (w_run k_700550 (w_is (fun _ => rfl) (w_il (fun _ => rfl) (w_eqzf (by omega) (by omega) (by omega)  (w_al (fun _ => rfl) (w_getf pz2 rfl (fun _ => rfl) (w_icI (x := 5) rfl ?_)))))))))
              refine w_ne2 (by omega) (by omega) (by omega) (by omega)  (fun c278 => ?_) (fun c278 => ?_)
              · refine w_run k_700565 (w_al (fun _ => rfl) (w_dup (fun _ => rfl) (w_getf pz2 rfl (fun _ => rfl) (w_icI (x := 1) rfl (w_opR add_lt (fun x279 x2790 x2791 x279e => ?_))))))
                refine w_putf [.inr (.inl (some 32)), .inr (.inl (some 33)), .inr (.inl (some 34)), .inr (.inl (some 35)), .inr (.inl (some 36)), .inl (w_i (g_mH g)), .inl (w_i (g_mC g)), .inl (w_i sprz2), .inl (w_i keez2), .inl (w_i (g_mnp g)), .inl (w_i rulz2), .inl (w_i (g_mhi g)), .inr (.inl (some 37)), .inr (.inl (some 50)), .inr (.inl (some 51)), .inr (.inl (some 52)), .inr (.inl (some 53)), .inr (.inl (some 54)), .inl (w_i tpdz2), .inl (w_i (g_mnt g)), .inl (w_i nxtz2), .inl (w_i tokz2), .inl (w_i tkaz2), .inl (w_i valz2), .inl (w_i x279), .inl (w_i mw1), .inl (w_i rw), .inr (.inl (some 55)), .inr (.inl (some 56)), .inr (.inl (some 57)), .inr (.inl (some 58)), .inr (.inl (some 59)), .inr (.inl (some 60)), .inr (.inl (some 61)), .inr (.inl (some 62)), .inl (w_i kspz2), .inl (w_i kkez2), .inl (w_i kruz2), .inr (.inl (some 63)), .inr (.inl (some 64)), .inr (.inl (some 65)), .inr (.inl (some 66))] pz2 rfl rfl rfl (fun _ => rfl) (fun h281 s280 => ?_)
                have iv282 := is_31 iv s280 ⟨_, _, _, _, _, _, _, _, _, _, _, _, _, _, rfl, by omega, by omega, by omega, by omega, by omega, by omega, by omega, by omega, by omega, by omega, by omega, by omega, by omega, by omega, by omega, by omega, by omega, by omega, by omega, by omega, by omega, by omega, by omega, by omega, by omega, by omega, by omega, by omega, by omega, by omega, by omega, by omega, by omega, by omega, by omega, by omega, by omega, by omega⟩
                have F283 := fr_st F s280 (by rw [(ow_31 iv)]; rfl)
                refine w_al (fun _ => rfl) (w_il (fun _ => rfl) (w_this (fun _ => rfl) s280.2.2.1 (w_cv (fun _ => rfl) rfl (w_run k_679936 (w_al (fun _ => rfl) (w_getf s280.2.2.1 rfl (fun _ => rfl) (w_al (fun _ => rfl) (w_getf s280.2.2.1 rfl (fun _ => rfl) (w_il (fun _ => rfl) ?_)))))))))
                have m284 := st_fr s280 pcw1 (by decide)
                refine w_astI m284 (by omega) (by omega) (by omega) (by omega) (by omega) (fun A288 h286 w289 s285 => ?_)
                have iv287 := is_53 iv282 s285 ⟨_, rfl⟩
                have F290 := fr_st F283 s285 (by rw [(ow_53 iv282)]; rfl)
                refine w_al (fun _ => rfl) (w_dup (fun _ => rfl) ?_)
                have m291 := st_fr s285 s280.2.2.1 (by decide)
                refine w_getf m291 rfl (fun _ => rfl) (w_icI (x := 1) rfl (w_op (c := w_i (mw1 + 1)) (i_add mw1 1) (w_putf [.inr (.inl (some 32)), .inr (.inl (some 33)), .inr (.inl (some 34)), .inr (.inl (some 35)), .inr (.inl (some 36)), .inl (w_i (g_mH g)), .inl (w_i (g_mC g)), .inl (w_i sprz2), .inl (w_i keez2), .inl (w_i (g_mnp g)), .inl (w_i rulz2), .inl (w_i (g_mhi g)), .inr (.inl (some 37)), .inr (.inl (some 50)), .inr (.inl (some 51)), .inr (.inl (some 52)), .inr (.inl (some 53)), .inr (.inl (some 54)), .inl (w_i tpdz2), .inl (w_i (g_mnt g)), .inl (w_i nxtz2), .inl (w_i tokz2), .inl (w_i tkaz2), .inl (w_i valz2), .inl (w_i x279), .inl (w_i (mw1 + 1)), .inl (w_i rw), .inr (.inl (some 55)), .inr (.inl (some 56)), .inr (.inl (some 57)), .inr (.inl (some 58)), .inr (.inl (some 59)), .inr (.inl (some 60)), .inr (.inl (some 61)), .inr (.inl (some 62)), .inl (w_i kspz2), .inl (w_i kkez2), .inl (w_i kruz2), .inr (.inl (some 63)), .inr (.inl (some 64)), .inr (.inl (some 65)), .inr (.inl (some 66))] m291 rfl rfl rfl (fun _ => rfl) (fun h293 s292 => ?_))))
                have iv294 := is_31 iv287 s292 ⟨_, _, _, _, _, _, _, _, _, _, _, _, _, _, rfl, by omega, by omega, by omega, by omega, by omega, by omega, by omega, by omega, by omega, by omega, by omega, by omega, by omega, by omega, by omega, by omega, by omega, by omega, by omega, by omega, by omega, by omega, by omega, by omega, by omega, by omega, by omega, by omega, by omega, by omega, by omega, by omega, by omega, by omega, by omega, by omega, by omega, by omega⟩
                have F295 := fr_st F290 s292 (by rw [(ow_31 iv287)]; rfl)
                refine w_rv ⟨rfl, ?_⟩
                have hpw1 := bc_put (m := mw1) (v := 8) (by omega) (by omega) w289
                have hhw1 := held_put (m := mw1) (v := 8) (by omega) (by omega) (by omega) (by omega) a9w1 w289
                refine w_icI (x := 0) rfl (w_ri ?_)
                have m296 := st_fr s280 paw1 (by decide)
                have m297 := st_fr s285 m296 (by decide)
                have m298 := st_fr s292 m297 (by decide)
                have m299 := st_fr s280 pbw1 (by decide)
                have m300 := st_fr s285 m299 (by decide)
                have m301 := st_fr s292 m300 (by decide)
                have m302 := st_fr s292 s285.2.2.1 (by decide)
                exact k1 h293 iv294 F295 ⟨mw1 + 1, _, _, _, ⟨_, _, _, _, _, _, _, _, _, _, _, _, s292.2.2.1, by omega, by omega, by omega, by omega, by omega, by omega, by omega, by omega, by omega, by omega, by omega, by omega, by omega, by omega, by omega, by omega, by omega, by omega, by omega, by omega, by omega, by omega, by omega, by omega, by omega, by omega, by omega, by omega, by omega, by omega, by omega, by omega, by omega, by omega, by omega, by omega, by omega, by omega, by omega, by omega, by omega, by omega, by omega, by omega, by omega, by omega, by omega⟩, m298, m301, m302, by omega, by omega, by omega, by omega, by omega, by omega, a7w1, (by omega), hhw1, (fun e => absurd e (by omega)), abw1⟩
              · refine w_icI (x := (-1)) wn_1 (w_ri ?_)
                exact k2 h iv F
            · refine w_il (fun _ => rfl) (w_icI (x := 10) rfl ?_)
              refine w_eq2 (by omega) (by omega) (by omega) (by omega)  (fun c303 => ?_) (fun c303 => ?_)
              · refine w_run k_696356 (w_icI (x := 1) rfl (w_go (w_run k_696361 (w_rz (by decide) ⟨_, rfl, ?_⟩))))
                refine w_eqzf (by omega) (by omega) (by omega)  (w_icI (x := 8) rfl (w_go (w_run k_700550 (w_is (fun _ => rfl) (w_il (fun _ => rfl) (w_eqzf (by omega) (by omega) (by omega)  (w_al (fun _ => rfl) (w_getf pz2 rfl (fun _ => rfl) (w_icI (x := 5) rfl ?_)))))))))
                refine w_ne2 (by omega) (by omega) (by omega) (by omega)  (fun c304 => ?_) (fun c304 => ?_)
                · refine w_run k_700565 (w_al (fun _ => rfl) (w_dup (fun _ => rfl) (w_getf pz2 rfl (fun _ => rfl) (w_icI (x := 1) rfl (w_opR add_lt (fun x305 x3050 x3051 x305e => ?_))))))
                  refine w_putf [.inr (.inl (some 32)), .inr (.inl (some 33)), .inr (.inl (some 34)), .inr (.inl (some 35)), .inr (.inl (some 36)), .inl (w_i (g_mH g)), .inl (w_i (g_mC g)), .inl (w_i sprz2), .inl (w_i keez2), .inl (w_i (g_mnp g)), .inl (w_i rulz2), .inl (w_i (g_mhi g)), .inr (.inl (some 37)), .inr (.inl (some 50)), .inr (.inl (some 51)), .inr (.inl (some 52)), .inr (.inl (some 53)), .inr (.inl (some 54)), .inl (w_i tpdz2), .inl (w_i (g_mnt g)), .inl (w_i nxtz2), .inl (w_i tokz2), .inl (w_i tkaz2), .inl (w_i valz2), .inl (w_i x305), .inl (w_i mw1), .inl (w_i rw), .inr (.inl (some 55)), .inr (.inl (some 56)), .inr (.inl (some 57)), .inr (.inl (some 58)), .inr (.inl (some 59)), .inr (.inl (some 60)), .inr (.inl (some 61)), .inr (.inl (some 62)), .inl (w_i kspz2), .inl (w_i kkez2), .inl (w_i kruz2), .inr (.inl (some 63)), .inr (.inl (some 64)), .inr (.inl (some 65)), .inr (.inl (some 66))] pz2 rfl rfl rfl (fun _ => rfl) (fun h307 s306 => ?_)
                  have iv308 := is_31 iv s306 ⟨_, _, _, _, _, _, _, _, _, _, _, _, _, _, rfl, by omega, by omega, by omega, by omega, by omega, by omega, by omega, by omega, by omega, by omega, by omega, by omega, by omega, by omega, by omega, by omega, by omega, by omega, by omega, by omega, by omega, by omega, by omega, by omega, by omega, by omega, by omega, by omega, by omega, by omega, by omega, by omega, by omega, by omega, by omega, by omega, by omega, by omega⟩
                  have F309 := fr_st F s306 (by rw [(ow_31 iv)]; rfl)
                  refine w_al (fun _ => rfl) (w_il (fun _ => rfl) (w_this (fun _ => rfl) s306.2.2.1 (w_cv (fun _ => rfl) rfl (w_run k_679936 (w_al (fun _ => rfl) (w_getf s306.2.2.1 rfl (fun _ => rfl) (w_al (fun _ => rfl) (w_getf s306.2.2.1 rfl (fun _ => rfl) (w_il (fun _ => rfl) ?_)))))))))
                  have m310 := st_fr s306 pcw1 (by decide)
                  refine w_astI m310 (by omega) (by omega) (by omega) (by omega) (by omega) (fun A314 h312 w315 s311 => ?_)
                  have iv313 := is_53 iv308 s311 ⟨_, rfl⟩
                  have F316 := fr_st F309 s311 (by rw [(ow_53 iv308)]; rfl)
                  refine w_al (fun _ => rfl) (w_dup (fun _ => rfl) ?_)
                  have m317 := st_fr s311 s306.2.2.1 (by decide)
                  refine w_getf m317 rfl (fun _ => rfl) (w_icI (x := 1) rfl (w_op (c := w_i (mw1 + 1)) (i_add mw1 1) (w_putf [.inr (.inl (some 32)), .inr (.inl (some 33)), .inr (.inl (some 34)), .inr (.inl (some 35)), .inr (.inl (some 36)), .inl (w_i (g_mH g)), .inl (w_i (g_mC g)), .inl (w_i sprz2), .inl (w_i keez2), .inl (w_i (g_mnp g)), .inl (w_i rulz2), .inl (w_i (g_mhi g)), .inr (.inl (some 37)), .inr (.inl (some 50)), .inr (.inl (some 51)), .inr (.inl (some 52)), .inr (.inl (some 53)), .inr (.inl (some 54)), .inl (w_i tpdz2), .inl (w_i (g_mnt g)), .inl (w_i nxtz2), .inl (w_i tokz2), .inl (w_i tkaz2), .inl (w_i valz2), .inl (w_i x305), .inl (w_i (mw1 + 1)), .inl (w_i rw), .inr (.inl (some 55)), .inr (.inl (some 56)), .inr (.inl (some 57)), .inr (.inl (some 58)), .inr (.inl (some 59)), .inr (.inl (some 60)), .inr (.inl (some 61)), .inr (.inl (some 62)), .inl (w_i kspz2), .inl (w_i kkez2), .inl (w_i kruz2), .inr (.inl (some 63)), .inr (.inl (some 64)), .inr (.inl (some 65)), .inr (.inl (some 66))] m317 rfl rfl rfl (fun _ => rfl) (fun h319 s318 => ?_))))
                  have iv320 := is_31 iv313 s318 ⟨_, _, _, _, _, _, _, _, _, _, _, _, _, _, rfl, by omega, by omega, by omega, by omega, by omega, by omega, by omega, by omega, by omega, by omega, by omega, by omega, by omega, by omega, by omega, by omega, by omega, by omega, by omega, by omega, by omega, by omega, by omega, by omega, by omega, by omega, by omega, by omega, by omega, by omega, by omega, by omega, by omega, by omega, by omega, by omega, by omega, by omega⟩
                  have F321 := fr_st F316 s318 (by rw [(ow_31 iv313)]; rfl)
                  refine w_rv ⟨rfl, ?_⟩
                  have hpw1 := bc_put (m := mw1) (v := 8) (by omega) (by omega) w315
                  have hhw1 := held_put (m := mw1) (v := 8) (by omega) (by omega) (by omega) (by omega) a9w1 w315
                  refine w_icI (x := 0) rfl (w_ri ?_)
                  have m322 := st_fr s306 paw1 (by decide)
                  have m323 := st_fr s311 m322 (by decide)
                  have m324 := st_fr s318 m323 (by decide)
                  have m325 := st_fr s306 pbw1 (by decide)
                  have m326 := st_fr s311 m325 (by decide)
                  have m327 := st_fr s318 m326 (by decide)
                  have m328 := st_fr s318 s311.2.2.1 (by decide)
                  exact k1 h319 iv320 F321 ⟨mw1 + 1, _, _, _, ⟨_, _, _, _, _, _, _, _, _, _, _, _, s318.2.2.1, by omega, by omega, by omega, by omega, by omega, by omega, by omega, by omega, by omega, by omega, by omega, by omega, by omega, by omega, by omega, by omega, by omega, by omega, by omega, by omega, by omega, by omega, by omega, by omega, by omega, by omega, by omega, by omega, by omega, by omega, by omega, by omega, by omega, by omega, by omega, by omega, by omega, by omega, by omega, by omega, by omega, by omega, by omega, by omega, by omega, by omega, by omega⟩, m324, m327, m328, by omega, by omega, by omega, by omega, by omega, by omega, a7w1, (by omega), hhw1, (fun e => absurd e (by omega)), abw1⟩
                · refine w_icI (x := (-1)) wn_1 (w_ri ?_)
                  exact k2 h iv F
              · refine w_il (fun _ => rfl) (w_icI (x := 7) rfl ?_)
                refine w_eq2 (by omega) (by omega) (by omega) (by omega)  (fun c329 => ?_) (fun c329 => ?_)
                · refine w_run k_696356 (w_icI (x := 1) rfl (w_go (w_run k_696361 (w_rz (by decide) ⟨_, rfl, ?_⟩))))
                  refine w_eqzf (by omega) (by omega) (by omega)  (w_icI (x := 8) rfl (w_go (w_run k_700550 (w_is (fun _ => rfl) (w_il (fun _ => rfl) (w_eqzf (by omega) (by omega) (by omega)  (w_al (fun _ => rfl) (w_getf pz2 rfl (fun _ => rfl) (w_icI (x := 5) rfl ?_)))))))))
                  refine w_ne2 (by omega) (by omega) (by omega) (by omega)  (fun c330 => ?_) (fun c330 => ?_)
                  · refine w_run k_700565 (w_al (fun _ => rfl) (w_dup (fun _ => rfl) (w_getf pz2 rfl (fun _ => rfl) (w_icI (x := 1) rfl (w_opR add_lt (fun x331 x3310 x3311 x331e => ?_))))))
                    refine w_putf [.inr (.inl (some 32)), .inr (.inl (some 33)), .inr (.inl (some 34)), .inr (.inl (some 35)), .inr (.inl (some 36)), .inl (w_i (g_mH g)), .inl (w_i (g_mC g)), .inl (w_i sprz2), .inl (w_i keez2), .inl (w_i (g_mnp g)), .inl (w_i rulz2), .inl (w_i (g_mhi g)), .inr (.inl (some 37)), .inr (.inl (some 50)), .inr (.inl (some 51)), .inr (.inl (some 52)), .inr (.inl (some 53)), .inr (.inl (some 54)), .inl (w_i tpdz2), .inl (w_i (g_mnt g)), .inl (w_i nxtz2), .inl (w_i tokz2), .inl (w_i tkaz2), .inl (w_i valz2), .inl (w_i x331), .inl (w_i mw1), .inl (w_i rw), .inr (.inl (some 55)), .inr (.inl (some 56)), .inr (.inl (some 57)), .inr (.inl (some 58)), .inr (.inl (some 59)), .inr (.inl (some 60)), .inr (.inl (some 61)), .inr (.inl (some 62)), .inl (w_i kspz2), .inl (w_i kkez2), .inl (w_i kruz2), .inr (.inl (some 63)), .inr (.inl (some 64)), .inr (.inl (some 65)), .inr (.inl (some 66))] pz2 rfl rfl rfl (fun _ => rfl) (fun h333 s332 => ?_)
                    have iv334 := is_31 iv s332 ⟨_, _, _, _, _, _, _, _, _, _, _, _, _, _, rfl, by omega, by omega, by omega, by omega, by omega, by omega, by omega, by omega, by omega, by omega, by omega, by omega, by omega, by omega, by omega, by omega, by omega, by omega, by omega, by omega, by omega, by omega, by omega, by omega, by omega, by omega, by omega, by omega, by omega, by omega, by omega, by omega, by omega, by omega, by omega, by omega, by omega, by omega⟩
                    have F335 := fr_st F s332 (by rw [(ow_31 iv)]; rfl)
                    refine w_al (fun _ => rfl) (w_il (fun _ => rfl) (w_this (fun _ => rfl) s332.2.2.1 (w_cv (fun _ => rfl) rfl (w_run k_679936 (w_al (fun _ => rfl) (w_getf s332.2.2.1 rfl (fun _ => rfl) (w_al (fun _ => rfl) (w_getf s332.2.2.1 rfl (fun _ => rfl) (w_il (fun _ => rfl) ?_)))))))))
                    have m336 := st_fr s332 pcw1 (by decide)
                    refine w_astI m336 (by omega) (by omega) (by omega) (by omega) (by omega) (fun A340 h338 w341 s337 => ?_)
                    have iv339 := is_53 iv334 s337 ⟨_, rfl⟩
                    have F342 := fr_st F335 s337 (by rw [(ow_53 iv334)]; rfl)
                    refine w_al (fun _ => rfl) (w_dup (fun _ => rfl) ?_)
                    have m343 := st_fr s337 s332.2.2.1 (by decide)
                    refine w_getf m343 rfl (fun _ => rfl) (w_icI (x := 1) rfl (w_op (c := w_i (mw1 + 1)) (i_add mw1 1) (w_putf [.inr (.inl (some 32)), .inr (.inl (some 33)), .inr (.inl (some 34)), .inr (.inl (some 35)), .inr (.inl (some 36)), .inl (w_i (g_mH g)), .inl (w_i (g_mC g)), .inl (w_i sprz2), .inl (w_i keez2), .inl (w_i (g_mnp g)), .inl (w_i rulz2), .inl (w_i (g_mhi g)), .inr (.inl (some 37)), .inr (.inl (some 50)), .inr (.inl (some 51)), .inr (.inl (some 52)), .inr (.inl (some 53)), .inr (.inl (some 54)), .inl (w_i tpdz2), .inl (w_i (g_mnt g)), .inl (w_i nxtz2), .inl (w_i tokz2), .inl (w_i tkaz2), .inl (w_i valz2), .inl (w_i x331), .inl (w_i (mw1 + 1)), .inl (w_i rw), .inr (.inl (some 55)), .inr (.inl (some 56)), .inr (.inl (some 57)), .inr (.inl (some 58)), .inr (.inl (some 59)), .inr (.inl (some 60)), .inr (.inl (some 61)), .inr (.inl (some 62)), .inl (w_i kspz2), .inl (w_i kkez2), .inl (w_i kruz2), .inr (.inl (some 63)), .inr (.inl (some 64)), .inr (.inl (some 65)), .inr (.inl (some 66))] m343 rfl rfl rfl (fun _ => rfl) (fun h345 s344 => ?_))))
                    have iv346 := is_31 iv339 s344 ⟨_, _, _, _, _, _, _, _, _, _, _, _, _, _, rfl, by omega, by omega, by omega, by omega, by omega, by omega, by omega, by omega, by omega, by omega, by omega, by omega, by omega, by omega, by omega, by omega, by omega, by omega, by omega, by omega, by omega, by omega, by omega, by omega, by omega, by omega, by omega, by omega, by omega, by omega, by omega, by omega, by omega, by omega, by omega, by omega, by omega, by omega⟩
                    have F347 := fr_st F342 s344 (by rw [(ow_31 iv339)]; rfl)
                    refine w_rv ⟨rfl, ?_⟩
                    have hpw1 := bc_put (m := mw1) (v := 8) (by omega) (by omega) w341
                    have hhw1 := held_put (m := mw1) (v := 8) (by omega) (by omega) (by omega) (by omega) a9w1 w341
                    refine w_icI (x := 0) rfl (w_ri ?_)
                    have m348 := st_fr s332 paw1 (by decide)
                    have m349 := st_fr s337 m348 (by decide)
                    have m350 := st_fr s344 m349 (by decide)
                    have m351 := st_fr s332 pbw1 (by decide)
                    have m352 := st_fr s337 m351 (by decide)
                    have m353 := st_fr s344 m352 (by decide)
                    have m354 := st_fr s344 s337.2.2.1 (by decide)
                    exact k1 h345 iv346 F347 ⟨mw1 + 1, _, _, _, ⟨_, _, _, _, _, _, _, _, _, _, _, _, s344.2.2.1, by omega, by omega, by omega, by omega, by omega, by omega, by omega, by omega, by omega, by omega, by omega, by omega, by omega, by omega, by omega, by omega, by omega, by omega, by omega, by omega, by omega, by omega, by omega, by omega, by omega, by omega, by omega, by omega, by omega, by omega, by omega, by omega, by omega, by omega, by omega, by omega, by omega, by omega, by omega, by omega, by omega, by omega, by omega, by omega, by omega, by omega, by omega⟩, m350, m353, m354, by omega, by omega, by omega, by omega, by omega, by omega, a7w1, (by omega), hhw1, (fun e => absurd e (by omega)), abw1⟩
                  · refine w_icI (x := (-1)) wn_1 (w_ri ?_)
                    exact k2 h iv F
                · refine w_il (fun _ => rfl) (w_icI (x := 6) rfl ?_)
                  refine w_eq2 (by omega) (by omega) (by omega) (by omega)  (fun c355 => ?_) (fun c355 => ?_)
                  · refine w_run k_696356 (w_icI (x := 1) rfl (w_go (w_run k_696361 (w_rz (by decide) ⟨_, rfl, ?_⟩))))
                    refine w_eqzf (by omega) (by omega) (by omega)  (w_icI (x := 8) rfl (w_go (w_run k_700550 (w_is (fun _ => rfl) (w_il (fun _ => rfl) (w_eqzf (by omega) (by omega) (by omega)  (w_al (fun _ => rfl) (w_getf pz2 rfl (fun _ => rfl) (w_icI (x := 5) rfl ?_)))))))))
                    refine w_ne2 (by omega) (by omega) (by omega) (by omega)  (fun c356 => ?_) (fun c356 => ?_)
                    · refine w_run k_700565 (w_al (fun _ => rfl) (w_dup (fun _ => rfl) (w_getf pz2 rfl (fun _ => rfl) (w_icI (x := 1) rfl (w_opR add_lt (fun x357 x3570 x3571 x357e => ?_))))))
                      refine w_putf [.inr (.inl (some 32)), .inr (.inl (some 33)), .inr (.inl (some 34)), .inr (.inl (some 35)), .inr (.inl (some 36)), .inl (w_i (g_mH g)), .inl (w_i (g_mC g)), .inl (w_i sprz2), .inl (w_i keez2), .inl (w_i (g_mnp g)), .inl (w_i rulz2), .inl (w_i (g_mhi g)), .inr (.inl (some 37)), .inr (.inl (some 50)), .inr (.inl (some 51)), .inr (.inl (some 52)), .inr (.inl (some 53)), .inr (.inl (some 54)), .inl (w_i tpdz2), .inl (w_i (g_mnt g)), .inl (w_i nxtz2), .inl (w_i tokz2), .inl (w_i tkaz2), .inl (w_i valz2), .inl (w_i x357), .inl (w_i mw1), .inl (w_i rw), .inr (.inl (some 55)), .inr (.inl (some 56)), .inr (.inl (some 57)), .inr (.inl (some 58)), .inr (.inl (some 59)), .inr (.inl (some 60)), .inr (.inl (some 61)), .inr (.inl (some 62)), .inl (w_i kspz2), .inl (w_i kkez2), .inl (w_i kruz2), .inr (.inl (some 63)), .inr (.inl (some 64)), .inr (.inl (some 65)), .inr (.inl (some 66))] pz2 rfl rfl rfl (fun _ => rfl) (fun h359 s358 => ?_)
                      have iv360 := is_31 iv s358 ⟨_, _, _, _, _, _, _, _, _, _, _, _, _, _, rfl, by omega, by omega, by omega, by omega, by omega, by omega, by omega, by omega, by omega, by omega, by omega, by omega, by omega, by omega, by omega, by omega, by omega, by omega, by omega, by omega, by omega, by omega, by omega, by omega, by omega, by omega, by omega, by omega, by omega, by omega, by omega, by omega, by omega, by omega, by omega, by omega, by omega, by omega⟩
                      have F361 := fr_st F s358 (by rw [(ow_31 iv)]; rfl)
                      refine w_al (fun _ => rfl) (w_il (fun _ => rfl) (w_this (fun _ => rfl) s358.2.2.1 (w_cv (fun _ => rfl) rfl (w_run k_679936 (w_al (fun _ => rfl) (w_getf s358.2.2.1 rfl (fun _ => rfl) (w_al (fun _ => rfl) (w_getf s358.2.2.1 rfl (fun _ => rfl) (w_il (fun _ => rfl) ?_)))))))))
                      have m362 := st_fr s358 pcw1 (by decide)
                      refine w_astI m362 (by omega) (by omega) (by omega) (by omega) (by omega) (fun A366 h364 w367 s363 => ?_)
                      have iv365 := is_53 iv360 s363 ⟨_, rfl⟩
                      have F368 := fr_st F361 s363 (by rw [(ow_53 iv360)]; rfl)
                      refine w_al (fun _ => rfl) (w_dup (fun _ => rfl) ?_)
                      have m369 := st_fr s363 s358.2.2.1 (by decide)
                      refine w_getf m369 rfl (fun _ => rfl) (w_icI (x := 1) rfl (w_op (c := w_i (mw1 + 1)) (i_add mw1 1) (w_putf [.inr (.inl (some 32)), .inr (.inl (some 33)), .inr (.inl (some 34)), .inr (.inl (some 35)), .inr (.inl (some 36)), .inl (w_i (g_mH g)), .inl (w_i (g_mC g)), .inl (w_i sprz2), .inl (w_i keez2), .inl (w_i (g_mnp g)), .inl (w_i rulz2), .inl (w_i (g_mhi g)), .inr (.inl (some 37)), .inr (.inl (some 50)), .inr (.inl (some 51)), .inr (.inl (some 52)), .inr (.inl (some 53)), .inr (.inl (some 54)), .inl (w_i tpdz2), .inl (w_i (g_mnt g)), .inl (w_i nxtz2), .inl (w_i tokz2), .inl (w_i tkaz2), .inl (w_i valz2), .inl (w_i x357), .inl (w_i (mw1 + 1)), .inl (w_i rw), .inr (.inl (some 55)), .inr (.inl (some 56)), .inr (.inl (some 57)), .inr (.inl (some 58)), .inr (.inl (some 59)), .inr (.inl (some 60)), .inr (.inl (some 61)), .inr (.inl (some 62)), .inl (w_i kspz2), .inl (w_i kkez2), .inl (w_i kruz2), .inr (.inl (some 63)), .inr (.inl (some 64)), .inr (.inl (some 65)), .inr (.inl (some 66))] m369 rfl rfl rfl (fun _ => rfl) (fun h371 s370 => ?_))))
                      have iv372 := is_31 iv365 s370 ⟨_, _, _, _, _, _, _, _, _, _, _, _, _, _, rfl, by omega, by omega, by omega, by omega, by omega, by omega, by omega, by omega, by omega, by omega, by omega, by omega, by omega, by omega, by omega, by omega, by omega, by omega, by omega, by omega, by omega, by omega, by omega, by omega, by omega, by omega, by omega, by omega, by omega, by omega, by omega, by omega, by omega, by omega, by omega, by omega, by omega, by omega⟩
                      have F373 := fr_st F368 s370 (by rw [(ow_31 iv365)]; rfl)
                      refine w_rv ⟨rfl, ?_⟩
                      have hpw1 := bc_put (m := mw1) (v := 8) (by omega) (by omega) w367
                      have hhw1 := held_put (m := mw1) (v := 8) (by omega) (by omega) (by omega) (by omega) a9w1 w367
                      refine w_icI (x := 0) rfl (w_ri ?_)
                      have m374 := st_fr s358 paw1 (by decide)
                      have m375 := st_fr s363 m374 (by decide)
                      have m376 := st_fr s370 m375 (by decide)
                      have m377 := st_fr s358 pbw1 (by decide)
                      have m378 := st_fr s363 m377 (by decide)
                      have m379 := st_fr s370 m378 (by decide)
                      have m380 := st_fr s370 s363.2.2.1 (by decide)
                      exact k1 h371 iv372 F373 ⟨mw1 + 1, _, _, _, ⟨_, _, _, _, _, _, _, _, _, _, _, _, s370.2.2.1, by omega, by omega, by omega, by omega, by omega, by omega, by omega, by omega, by omega, by omega, by omega, by omega, by omega, by omega, by omega, by omega, by omega, by omega, by omega, by omega, by omega, by omega, by omega, by omega, by omega, by omega, by omega, by omega, by omega, by omega, by omega, by omega, by omega, by omega, by omega, by omega, by omega, by omega, by omega, by omega, by omega, by omega, by omega, by omega, by omega, by omega, by omega⟩, m376, m379, m380, by omega, by omega, by omega, by omega, by omega, by omega, a7w1, (by omega), hhw1, (fun e => absurd e (by omega)), abw1⟩
                    · refine w_icI (x := (-1)) wn_1 (w_ri ?_)
                      exact k2 h iv F
                  · refine w_il (fun _ => rfl) (w_icI (x := 8) rfl ?_)
                    refine w_ne2 (by omega) (by omega) (by omega) (by omega)  (fun c381 => ?_) (fun c381 => ?_)
                    · refine w_run k_696360 (w_icI (x := 0) rfl (w_rz (by decide) ⟨_, rfl, ?_⟩))
                      refine w_eqzt (by omega) (by omega) (by omega)  (w_run k_700503 (w_al (fun _ => rfl) (w_getf pz2 rfl (fun _ => rfl) (w_icI (x := 102) rfl (w_net (by omega) (by omega) (by omega) (by omega) (by omega)  (w_run k_700526 (w_al (fun _ => rfl) (w_getf pz2 rfl (fun _ => rfl) (w_icI (x := 102) rfl (w_net (by omega) (by omega) (by omega) (by omega) (by omega)  (w_run k_700549 (w_icI (x := 0) rfl (w_is (fun _ => rfl) (w_il (fun _ => rfl) (w_eqzt (by omega) (by omega) (by omega)  (w_run k_700563 (w_icI (x := (-1)) wn_1 (w_ri ?_))))))))))))))))))
                      exact k2 h iv F
                    · refine w_icI (x := 1) rfl (w_go (w_run k_696361 (w_rz (by decide) ⟨_, rfl, ?_⟩)))
                      refine w_eqzf (by omega) (by omega) (by omega)  (w_icI (x := 8) rfl (w_go (w_run k_700550 (w_is (fun _ => rfl) (w_il (fun _ => rfl) (w_eqzf (by omega) (by omega) (by omega)  (w_al (fun _ => rfl) (w_getf pz2 rfl (fun _ => rfl) (w_icI (x := 5) rfl ?_)))))))))
                      refine w_ne2 (by omega) (by omega) (by omega) (by omega)  (fun c382 => ?_) (fun c382 => ?_)
                      · refine w_run k_700565 (w_al (fun _ => rfl) (w_dup (fun _ => rfl) (w_getf pz2 rfl (fun _ => rfl) (w_icI (x := 1) rfl (w_opR add_lt (fun x383 x3830 x3831 x383e => ?_))))))
                        refine w_putf [.inr (.inl (some 32)), .inr (.inl (some 33)), .inr (.inl (some 34)), .inr (.inl (some 35)), .inr (.inl (some 36)), .inl (w_i (g_mH g)), .inl (w_i (g_mC g)), .inl (w_i sprz2), .inl (w_i keez2), .inl (w_i (g_mnp g)), .inl (w_i rulz2), .inl (w_i (g_mhi g)), .inr (.inl (some 37)), .inr (.inl (some 50)), .inr (.inl (some 51)), .inr (.inl (some 52)), .inr (.inl (some 53)), .inr (.inl (some 54)), .inl (w_i tpdz2), .inl (w_i (g_mnt g)), .inl (w_i nxtz2), .inl (w_i tokz2), .inl (w_i tkaz2), .inl (w_i valz2), .inl (w_i x383), .inl (w_i mw1), .inl (w_i rw), .inr (.inl (some 55)), .inr (.inl (some 56)), .inr (.inl (some 57)), .inr (.inl (some 58)), .inr (.inl (some 59)), .inr (.inl (some 60)), .inr (.inl (some 61)), .inr (.inl (some 62)), .inl (w_i kspz2), .inl (w_i kkez2), .inl (w_i kruz2), .inr (.inl (some 63)), .inr (.inl (some 64)), .inr (.inl (some 65)), .inr (.inl (some 66))] pz2 rfl rfl rfl (fun _ => rfl) (fun h385 s384 => ?_)
                        have iv386 := is_31 iv s384 ⟨_, _, _, _, _, _, _, _, _, _, _, _, _, _, rfl, by omega, by omega, by omega, by omega, by omega, by omega, by omega, by omega, by omega, by omega, by omega, by omega, by omega, by omega, by omega, by omega, by omega, by omega, by omega, by omega, by omega, by omega, by omega, by omega, by omega, by omega, by omega, by omega, by omega, by omega, by omega, by omega, by omega, by omega, by omega, by omega, by omega, by omega⟩
                        have F387 := fr_st F s384 (by rw [(ow_31 iv)]; rfl)
                        refine w_al (fun _ => rfl) (w_il (fun _ => rfl) (w_this (fun _ => rfl) s384.2.2.1 (w_cv (fun _ => rfl) rfl (w_run k_679936 (w_al (fun _ => rfl) (w_getf s384.2.2.1 rfl (fun _ => rfl) (w_al (fun _ => rfl) (w_getf s384.2.2.1 rfl (fun _ => rfl) (w_il (fun _ => rfl) ?_)))))))))
                        have m388 := st_fr s384 pcw1 (by decide)
                        refine w_astI m388 (by omega) (by omega) (by omega) (by omega) (by omega) (fun A392 h390 w393 s389 => ?_)
                        have iv391 := is_53 iv386 s389 ⟨_, rfl⟩
                        have F394 := fr_st F387 s389 (by rw [(ow_53 iv386)]; rfl)
                        refine w_al (fun _ => rfl) (w_dup (fun _ => rfl) ?_)
                        have m395 := st_fr s389 s384.2.2.1 (by decide)
                        refine w_getf m395 rfl (fun _ => rfl) (w_icI (x := 1) rfl (w_op (c := w_i (mw1 + 1)) (i_add mw1 1) (w_putf [.inr (.inl (some 32)), .inr (.inl (some 33)), .inr (.inl (some 34)), .inr (.inl (some 35)), .inr (.inl (some 36)), .inl (w_i (g_mH g)), .inl (w_i (g_mC g)), .inl (w_i sprz2), .inl (w_i keez2), .inl (w_i (g_mnp g)), .inl (w_i rulz2), .inl (w_i (g_mhi g)), .inr (.inl (some 37)), .inr (.inl (some 50)), .inr (.inl (some 51)), .inr (.inl (some 52)), .inr (.inl (some 53)), .inr (.inl (some 54)), .inl (w_i tpdz2), .inl (w_i (g_mnt g)), .inl (w_i nxtz2), .inl (w_i tokz2), .inl (w_i tkaz2), .inl (w_i valz2), .inl (w_i x383), .inl (w_i (mw1 + 1)), .inl (w_i rw), .inr (.inl (some 55)), .inr (.inl (some 56)), .inr (.inl (some 57)), .inr (.inl (some 58)), .inr (.inl (some 59)), .inr (.inl (some 60)), .inr (.inl (some 61)), .inr (.inl (some 62)), .inl (w_i kspz2), .inl (w_i kkez2), .inl (w_i kruz2), .inr (.inl (some 63)), .inr (.inl (some 64)), .inr (.inl (some 65)), .inr (.inl (some 66))] m395 rfl rfl rfl (fun _ => rfl) (fun h397 s396 => ?_))))
                        have iv398 := is_31 iv391 s396 ⟨_, _, _, _, _, _, _, _, _, _, _, _, _, _, rfl, by omega, by omega, by omega, by omega, by omega, by omega, by omega, by omega, by omega, by omega, by omega, by omega, by omega, by omega, by omega, by omega, by omega, by omega, by omega, by omega, by omega, by omega, by omega, by omega, by omega, by omega, by omega, by omega, by omega, by omega, by omega, by omega, by omega, by omega, by omega, by omega, by omega, by omega⟩
                        have F399 := fr_st F394 s396 (by rw [(ow_31 iv391)]; rfl)
                        refine w_rv ⟨rfl, ?_⟩
                        have hpw1 := bc_put (m := mw1) (v := 8) (by omega) (by omega) w393
                        have hhw1 := held_put (m := mw1) (v := 8) (by omega) (by omega) (by omega) (by omega) a9w1 w393
                        refine w_icI (x := 0) rfl (w_ri ?_)
                        have m400 := st_fr s384 paw1 (by decide)
                        have m401 := st_fr s389 m400 (by decide)
                        have m402 := st_fr s396 m401 (by decide)
                        have m403 := st_fr s384 pbw1 (by decide)
                        have m404 := st_fr s389 m403 (by decide)
                        have m405 := st_fr s396 m404 (by decide)
                        have m406 := st_fr s396 s389.2.2.1 (by decide)
                        exact k1 h397 iv398 F399 ⟨mw1 + 1, _, _, _, ⟨_, _, _, _, _, _, _, _, _, _, _, _, s396.2.2.1, by omega, by omega, by omega, by omega, by omega, by omega, by omega, by omega, by omega, by omega, by omega, by omega, by omega, by omega, by omega, by omega, by omega, by omega, by omega, by omega, by omega, by omega, by omega, by omega, by omega, by omega, by omega, by omega, by omega, by omega, by omega, by omega, by omega, by omega, by omega, by omega, by omega, by omega, by omega, by omega, by omega, by omega, by omega, by omega, by omega, by omega, by omega⟩, m402, m405, m406, by omega, by omega, by omega, by omega, by omega, by omega, a7w1, (by omega), hhw1, (fun e => absurd e (by omega)), abw1⟩
                      · refine w_icI (x := (-1)) wn_1 (w_ri ?_)
                        exact k2 h iv F
          · refine w_icI (x := 0) rfl (w_go (w_run k_675862 (w_ri ⟨_, rfl, ?_⟩)))
            refine w_is (fun _ => rfl) (w_al (fun _ => rfl) (w_getf pz2 rfl (fun _ => rfl) (w_eqzt (by omega) (by omega) (by omega)  (w_run k_696356 (w_icI (x := 1) rfl (w_go (w_run k_696361 (w_rz (by decide) ⟨_, rfl, ?_⟩))))))))
            refine w_eqzf (by omega) (by omega) (by omega)  (w_icI (x := 8) rfl (w_go (w_run k_700550 (w_is (fun _ => rfl) (w_il (fun _ => rfl) (w_eqzf (by omega) (by omega) (by omega)  (w_al (fun _ => rfl) (w_getf pz2 rfl (fun _ => rfl) (w_icI (x := 5) rfl ?_)))))))))
            refine w_ne2 (by omega) (by omega) (by omega) (by omega)  (fun c407 => ?_) (fun c407 => ?_)
            · refine w_run k_700565 (w_al (fun _ => rfl) (w_dup (fun _ => rfl) (w_getf pz2 rfl (fun _ => rfl) (w_icI (x := 1) rfl (w_opR add_lt (fun x408 x4080 x4081 x408e => ?_))))))
              refine w_putf [.inr (.inl (some 32)), .inr (.inl (some 33)), .inr (.inl (some 34)), .inr (.inl (some 35)), .inr (.inl (some 36)), .inl (w_i (g_mH g)), .inl (w_i (g_mC g)), .inl (w_i sprz2), .inl (w_i keez2), .inl (w_i (g_mnp g)), .inl (w_i rulz2), .inl (w_i (g_mhi g)), .inr (.inl (some 37)), .inr (.inl (some 50)), .inr (.inl (some 51)), .inr (.inl (some 52)), .inr (.inl (some 53)), .inr (.inl (some 54)), .inl (w_i tpdz2), .inl (w_i (g_mnt g)), .inl (w_i nxtz2), .inl (w_i tokz2), .inl (w_i tkaz2), .inl (w_i valz2), .inl (w_i x408), .inl (w_i mw1), .inl (w_i rw), .inr (.inl (some 55)), .inr (.inl (some 56)), .inr (.inl (some 57)), .inr (.inl (some 58)), .inr (.inl (some 59)), .inr (.inl (some 60)), .inr (.inl (some 61)), .inr (.inl (some 62)), .inl (w_i kspz2), .inl (w_i kkez2), .inl (w_i kruz2), .inr (.inl (some 63)), .inr (.inl (some 64)), .inr (.inl (some 65)), .inr (.inl (some 66))] pz2 rfl rfl rfl (fun _ => rfl) (fun h410 s409 => ?_)
              have iv411 := is_31 iv s409 ⟨_, _, _, _, _, _, _, _, _, _, _, _, _, _, rfl, by omega, by omega, by omega, by omega, by omega, by omega, by omega, by omega, by omega, by omega, by omega, by omega, by omega, by omega, by omega, by omega, by omega, by omega, by omega, by omega, by omega, by omega, by omega, by omega, by omega, by omega, by omega, by omega, by omega, by omega, by omega, by omega, by omega, by omega, by omega, by omega, by omega, by omega⟩
              have F412 := fr_st F s409 (by rw [(ow_31 iv)]; rfl)
              refine w_al (fun _ => rfl) (w_il (fun _ => rfl) (w_this (fun _ => rfl) s409.2.2.1 (w_cv (fun _ => rfl) rfl (w_run k_679936 (w_al (fun _ => rfl) (w_getf s409.2.2.1 rfl (fun _ => rfl) (w_al (fun _ => rfl) (w_getf s409.2.2.1 rfl (fun _ => rfl) (w_il (fun _ => rfl) ?_)))))))))
              have m413 := st_fr s409 pcw1 (by decide)
              refine w_astI m413 (by omega) (by omega) (by omega) (by omega) (by omega) (fun A417 h415 w418 s414 => ?_)
              have iv416 := is_53 iv411 s414 ⟨_, rfl⟩
              have F419 := fr_st F412 s414 (by rw [(ow_53 iv411)]; rfl)
              refine w_al (fun _ => rfl) (w_dup (fun _ => rfl) ?_)
              have m420 := st_fr s414 s409.2.2.1 (by decide)
              refine w_getf m420 rfl (fun _ => rfl) (w_icI (x := 1) rfl (w_op (c := w_i (mw1 + 1)) (i_add mw1 1) (w_putf [.inr (.inl (some 32)), .inr (.inl (some 33)), .inr (.inl (some 34)), .inr (.inl (some 35)), .inr (.inl (some 36)), .inl (w_i (g_mH g)), .inl (w_i (g_mC g)), .inl (w_i sprz2), .inl (w_i keez2), .inl (w_i (g_mnp g)), .inl (w_i rulz2), .inl (w_i (g_mhi g)), .inr (.inl (some 37)), .inr (.inl (some 50)), .inr (.inl (some 51)), .inr (.inl (some 52)), .inr (.inl (some 53)), .inr (.inl (some 54)), .inl (w_i tpdz2), .inl (w_i (g_mnt g)), .inl (w_i nxtz2), .inl (w_i tokz2), .inl (w_i tkaz2), .inl (w_i valz2), .inl (w_i x408), .inl (w_i (mw1 + 1)), .inl (w_i rw), .inr (.inl (some 55)), .inr (.inl (some 56)), .inr (.inl (some 57)), .inr (.inl (some 58)), .inr (.inl (some 59)), .inr (.inl (some 60)), .inr (.inl (some 61)), .inr (.inl (some 62)), .inl (w_i kspz2), .inl (w_i kkez2), .inl (w_i kruz2), .inr (.inl (some 63)), .inr (.inl (some 64)), .inr (.inl (some 65)), .inr (.inl (some 66))] m420 rfl rfl rfl (fun _ => rfl) (fun h422 s421 => ?_))))
              have iv423 := is_31 iv416 s421 ⟨_, _, _, _, _, _, _, _, _, _, _, _, _, _, rfl, by omega, by omega, by omega, by omega, by omega, by omega, by omega, by omega, by omega, by omega, by omega, by omega, by omega, by omega, by omega, by omega, by omega, by omega, by omega, by omega, by omega, by omega, by omega, by omega, by omega, by omega, by omega, by omega, by omega, by omega, by omega, by omega, by omega, by omega, by omega, by omega, by omega, by omega⟩
              have F424 := fr_st F419 s421 (by rw [(ow_31 iv416)]; rfl)
              refine w_rv ⟨rfl, ?_⟩
              have hpw1 := bc_put (m := mw1) (v := 8) (by omega) (by omega) w418
              have hhw1 := held_put (m := mw1) (v := 8) (by omega) (by omega) (by omega) (by omega) a9w1 w418
              refine w_icI (x := 0) rfl (w_ri ?_)
              have m425 := st_fr s409 paw1 (by decide)
              have m426 := st_fr s414 m425 (by decide)
              have m427 := st_fr s421 m426 (by decide)
              have m428 := st_fr s409 pbw1 (by decide)
              have m429 := st_fr s414 m428 (by decide)
              have m430 := st_fr s421 m429 (by decide)
              have m431 := st_fr s421 s414.2.2.1 (by decide)
              exact k1 h422 iv423 F424 ⟨mw1 + 1, _, _, _, ⟨_, _, _, _, _, _, _, _, _, _, _, _, s421.2.2.1, by omega, by omega, by omega, by omega, by omega, by omega, by omega, by omega, by omega, by omega, by omega, by omega, by omega, by omega, by omega, by omega, by omega, by omega, by omega, by omega, by omega, by omega, by omega, by omega, by omega, by omega, by omega, by omega, by omega, by omega, by omega, by omega, by omega, by omega, by omega, by omega, by omega, by omega, by omega, by omega, by omega, by omega, by omega, by omega, by omega, by omega, by omega⟩, m427, m430, m431, by omega, by omega, by omega, by omega, by omega, by omega, a7w1, (by omega), hhw1, (fun e => absurd e (by omega)), abw1⟩
            · refine w_icI (x := (-1)) wn_1 (w_ri ?_)
              exact k2 h iv F
      · refine w_al (fun _ => rfl) (w_al (fun _ => rfl) (w_getf pz2 rfl (fun _ => rfl) (w_icI (x := 100) rfl (w_net (by omega) (by omega) (by omega) (by omega) (by omega)  (w_run k_700460 (w_icI (x := 20000) rfl (w_al (fun _ => rfl) (w_getf pz2 rfl (fun _ => rfl) (w_op (c := w_i (20000 + valz2)) (i_add 20000 valz2) (w_this (fun _ => rfl) pz2 (w_cv (fun _ => rfl) rfl (w_run k_647168 (w_al (fun _ => rfl) (w_getf pz2 rfl (fun _ => rfl) (w_icI (x := 170) rfl (w_al (fun _ => rfl) (w_getf pz2 rfl (fun _ => rfl) (w_op (c := w_i (170 * rw)) (i_mul 170 rw) (w_al (fun _ => rfl) (w_getf pz2 rfl (fun _ => rfl) (w_al (fun _ => rfl) (w_getf pz2 rfl (fun _ => rfl) (w_aldI pbw1 (by omega) (by omega) (by omega) ?_)))))))))))))))))))))))
        obtain ⟨b432, b433⟩ := ag_rg Bw1 rw
        have e434 := b0w1 rw (by omega) (by omega)
        refine w_op (c := w_i ((170 * rw) + (a_g Bw1 rw))) (i_add (170 * rw) (a_g Bw1 rw)) (w_il (fun _ => rfl) (w_astI paw1 (by omega) (by omega) (by omega) (by omega) (by omega) (fun A438 h436 w439 s435 => ?_)))
        have moreA438 : ∀ i : Int, 0 ≤ i → i < 3 * g_mnt g → w_rp A438 i (g_mCL g i) := fun i i0 i1 => rp_old (rw := rw) (v := a_g Bw1 rw) i0 (by omega) (a0w1 i i0 i1) (by omega) (by omega) (by omega) w439
        have iv437 := is_51 iv s435 ⟨_, rfl, by assumption⟩
        have F440 := fr_st F s435 (by rw [(ow_51 iv)]; rfl)
        refine w_al (fun _ => rfl) ?_
        have m441 := st_fr s435 pz2 (by decide)
        refine w_getf m441 rfl (fun _ => rfl) (w_al (fun _ => rfl) (w_getf m441 rfl (fun _ => rfl) (w_dup2 (fun _ => rfl) (fun _ => rfl) ?_)))
        have m442 := st_fr s435 pbw1 (by decide)
        refine w_aldI m442 (by omega) (by omega) (by omega) ?_
        obtain ⟨b443, b444⟩ := ag_rg Bw1 rw
        have e445 := b0w1 rw (by omega) (by omega)
        refine w_icI (x := 1) rfl (w_op (c := w_i ((a_g Bw1 rw) + 1)) (i_add (a_g Bw1 rw) 1) (w_astI m442 (by omega) (by omega) (by omega) (by omega) (by omega) (fun A449 h447 w450 s446 => ?_)))
        have e451 : ∀ j : Int, 0 ≤ j → j < 18 → 0 ≤ a_g A449 j ∧ a_g A449 j ≤ 170 ∧ (j < 3 * g_mnt g → a_g A449 j = g_mCL g j) := fun j j0 j1 => by
          rw [w450 j j0 j1]
          by_cases hj : j = rw
          · rw [if_pos hj]; intros; omega
          · rw [if_neg hj]; exact b0w1 j j0 j1
        have iv448 := is_52 iv437 s446 ⟨_, rfl, e451⟩
        have F452 := fr_st F440 s446 (by rw [(ow_52 iv437)]; rfl)
        refine w_rv ⟨rfl, ?_⟩
        have q1w1 : a_g A449 rw = a_g Bw1 rw + 1 := by rw [w450 rw (by omega) (by omega)]; exact if_pos rfl
        have q2w1 := rp_push (rw := rw) (y := (20000 + valz2)) (by omega) (by omega) a7w1 (by omega) (show ((170 * rw) + (a_g Bw1 rw)) = 170 * rw + a_g Bw1 rw from by omega) w439 (by omega)
        have q3w1 := prev_put (l := a_g Bw1 rw) (by omega) (by omega) (by omega) abw1 w439 (show ((170 * rw) + (a_g Bw1 rw)) = 170 * rw + a_g Bw1 rw from by omega) w450
        rw [← q1w1] at q2w1
        refine w_icI (x := 1) rfl (w_ri ?_)
        have m453 := st_fr s446 m441 (by decide)
        have m454 := st_fr s446 s435.2.2.1 (by decide)
        have m455 := st_fr s435 pcw1 (by decide)
        have m456 := st_fr s446 m455 (by decide)
        exact k0 h447 iv448 F452 ⟨mw1, _, _, _, ⟨_, _, _, _, _, _, _, _, _, _, _, _, m453, by omega, by omega, by omega, by omega, by omega, by omega, by omega, by omega, by omega, by omega, by omega, by omega, by omega, by omega, by omega, by omega, by omega, by omega, by omega, by omega, by omega, by omega, by omega, by omega, by omega, by omega, by omega, by omega, by omega, by omega, by omega, by omega, by omega, by omega, by omega, by omega, by omega, by omega, by omega, by omega, by omega, by omega, by omega, by omega, by omega, by omega, by omega⟩, m454, s446.2.2.1, m456, by omega, by omega, by omega, by omega, by omega, by omega, q2w1.1, (by omega), (fun j j0 j1 => a9w1 j j0 j1), (fun e => absurd e (by omega)), q3w1⟩
theorem k_708608 : m_cg 708608 = g_173_0 := rfl
theorem k_708633 : m_cg 708633 = g_173_25 := rfl
theorem k_708656 : m_cg 708656 = g_173_48 := rfl
theorem k_708679 : m_cg 708679 = g_173_71 := rfl
theorem k_708733 : m_cg 708733 = g_173_125 := rfl
theorem k_708760 : m_cg 708760 = g_173_152 := rfl
theorem k_708762 : m_cg 708762 = g_173_154 := rfl
theorem k_708789 : m_cg 708789 = g_173_181 := rfl
theorem k_708798 : m_cg 708798 = g_173_190 := rfl
theorem k_708787 : m_cg 708787 = g_173_179 := rfl
theorem k_708788 : m_cg 708788 = g_173_180 := rfl
theorem k_708680 : m_cg 708680 = g_173_72 := rfl
theorem k_708718 : m_cg 708718 = g_173_110 := rfl
theorem k_708695 : m_cg 708695 = g_173_87 := rfl
theorem k_708716 : m_cg 708716 = g_173_108 := rfl
theorem k_708726 : m_cg 708726 = g_173_118 := rfl
set_option maxHeartbeats 8000000 in
theorem c_mBehind {g : w_G} {o : w_O} {h : m_H} {d : Nat} {Q : Option m_V → m_H → Prop} (iv : w_Inv g o h) {rw : Int} {n0 : Int} (r11 : (∃ m : Int, w_rd g o h rw 1 1 m 7 0 n0)) (k0 : ∀ h2 : m_H, w_Inv g o h2 → w_fr o [31, 51, 52, 53] h h2 → (∃ m : Int, w_rd g o h2 rw 0 0 m 7 0 (n0 + 1)) → Q (some (.inl (w_i 1))) h2) (k1 : ∀ h2 : m_H, w_Inv g o h2 → w_fr o [31, 51, 52, 53] h h2 → (∃ m : Int, w_rd g o h2 rw 1 0 m 7 0 (n0 + 1)) → Q (some (.inl (w_i 0))) h2) (k2 : ∀ h2 : m_H, w_Inv g o h2 → w_fr o [31, 51, 52, 53] h h2 → (∃ m : Int, w_rd g o h2 rw 1 0 m 7 0 (n0 + 1)) → Q (some (.inl (w_i 2))) h2) (k3 : ∀ h2 : m_H, w_Inv g o h2 → w_fr o [31, 51, 52, 53] h h2 → Q (some (.inl (w_i (-1)))) h2) : wp (d + 4) 708608 [.inr (.inl (some 31)), .inr (.inr (.inl 0))] [] h Q := by
  have F := fr_rf (o := o) (h := h) (W := [31, 51, 52, 53])
  have W := iv_wm iv
  refine w_run k_708608 (w_al (fun _ => rfl) (w_icI (x := 7) rfl ?_))
  obtain ⟨_, m1, spr1, kee1, rul1, tpd1, nxt1, tok1, tka1, val1, opn1, hm1, row1, ksp1, kke1, kru1, rfl, l1_spr, u1_spr, l1_kee, u1_kee, l1_rul, u1_rul, l1_tpd, u1_tpd, l1_nxt, u1_nxt, l1_tok, u1_tok, l1_tka, u1_tka, l1_val, u1_val, l1_opn, u1_opn, l1_hm, u1_hm, l1_row, u1_row, l1_ksp, u1_ksp, l1_kke, u1_kke, l1_kru, u1_kru, f1_0, f1_1, f1_2, f1_3, f1_4, f1_5, f1_6, f1_7, f1_8, f1_9⟩ := iv_31 iv
  refine w_this (fun _ => rfl) m1 ?_
  refine w_cv (fun _ => rfl) rfl (c_mLetsFrom (d := d) iv (hg := 7) (by omega) (by omega) (by omega) (by omega) r11 (fun h2 iv3 F4 b5 => ⟨rfl, ?_⟩))
  have F6 := fr_ca F F4 (fun t ht => by simp at ht ⊢; omega)
  obtain ⟨mw7, Aw7, Bw7, Cw7, xw7, paw7, pbw7, pcw7, a1w7, a2w7, a3w7, a4w7, a5w7, a6w7, a7w7, a8w7, a9w7, aaw7, abw7⟩ := (id b5)
  have hmrw7 := rs_n xw7
  have a0w7 := iv_51h iv3 paw7
  have b0w7 := iv_52h iv3 pbw7
  obtain ⟨sprz8, keez8, rulz8, tpdz8, nxtz8, tokz8, tkaz8, valz8, opnz8, kspz8, kkez8, kruz8, pz8, rz8_0, rz8_1, rz8_2, rz8_3, rz8_4, rz8_5, rz8_6, rz8_7, rz8_8, rz8_9, rz8_10, rz8_11, rz8_12, rz8_13, rz8_14, rz8_15, rz8_16, rz8_17, rz8_18, rz8_19, rz8_20, rz8_21, rz8_22, rz8_23, rz8_24, rz8_25, rz8_26, rz8_27, rz8_28, rz8_29, rz8_30, rz8_31, rz8_32, rz8_33, rz8_34, rz8_35, rz8_36, rz8_37, sz8_0, sz8_1, sz8_2, sz8_3, sz8_4, sz8_5, sz8_6, sz8_7, sz8_8⟩ := (id xw7)
  refine w_al (fun _ => rfl) (w_getf pz8 rfl (fun _ => rfl) (w_icI (x := 102) rfl ?_))
  refine w_ne2 (by omega) (by omega) (by omega) (by omega)  (fun c9 => ?_) (fun c9 => ?_)
  · refine w_run k_708633 (w_al (fun _ => rfl) (w_getf pz8 rfl (fun _ => rfl) (w_icI (x := 101) rfl ?_)))
    refine w_ne2 (by omega) (by omega) (by omega) (by omega)  (fun c10 => ?_) (fun c10 => ?_)
    · refine w_run k_708656 (w_al (fun _ => rfl) (w_getf pz8 rfl (fun _ => rfl) (w_icI (x := 101) rfl ?_)))
      refine w_ne2 (by omega) (by omega) (by omega) (by omega)  (fun c11 => ?_) (fun c11 => ?_)
      · refine w_run k_708679 (w_icI (x := 0) rfl (w_is (fun _ => rfl) (w_il (fun _ => rfl) (w_eqzt (by omega) (by omega) (by omega)  (w_run k_708733 (w_al (fun _ => rfl) (w_getf pz8 rfl (fun _ => rfl) (w_icI (x := 102) rfl ?_))))))))
        refine w_ne2 (by omega) (by omega) (by omega) (by omega)  (fun c12 => ?_) (fun c12 => ?_)
        · refine w_run k_708760 (w_icI (x := (-1)) wn_1 (w_ri ?_))
          exact k3 h2 iv3 F6
        · refine w_al (fun _ => rfl) (w_getf pz8 rfl (fun _ => rfl) (w_icI (x := 59) rfl ?_))
          refine w_eq2 (by omega) (by omega) (by omega) (by omega)  (fun c13 => ?_) (fun c13 => ?_)
          · refine w_run k_708762 ?_
            have rx14 : (∃ m : Int, w_rd g o h2 rw 1 0 m 7 1 (n0 + 1)) := ⟨mw7, _, _, _, ⟨_, _, _, _, _, _, _, _, _, _, _, _, pz8, by omega, by omega, by omega, by omega, by omega, by omega, by omega, by omega, by omega, by omega, by omega, by omega, by omega, by omega, by omega, by omega, by omega, by omega, by omega, by omega, by omega, by omega, by omega, by omega, by omega, by omega, by omega, by omega, by omega, by omega, by omega, by omega, by omega, by omega, by omega, by omega, by omega, by omega, by omega, by omega, by omega, by omega, by omega, by omega, by omega, by omega, by omega⟩, paw7, pbw7, pcw7, by omega, by omega, by omega, by omega, by omega, by omega, a7w7, a8w7, a9w7, (fun e => absurd e (by omega)), abw7⟩
            refine w_al (fun _ => rfl) (w_icI (x := 1) rfl (w_this (fun _ => rfl) pz8 ?_))
            refine w_cv (fun _ => rfl) rfl (c_mLetsFrom (d := d) iv3 (hg := 1) (by omega) (by omega) (by omega) (by omega) rx14 (fun h15 iv16 F17 b18 => ⟨rfl, ?_⟩))
            have F19 := fr_ca F6 F17 (fun t ht => by simp at ht ⊢; omega)
            obtain ⟨mw20, Aw20, Bw20, Cw20, xw20, paw20, pbw20, pcw20, a1w20, a2w20, a3w20, a4w20, a5w20, a6w20, a7w20, a8w20, a9w20, aaw20, abw20⟩ := (id b18)
            have hmrw20 := rs_n xw20
            have a0w20 := iv_51h iv16 paw20
            have b0w20 := iv_52h iv16 pbw20
            obtain ⟨sprz21, keez21, rulz21, tpdz21, nxtz21, tokz21, tkaz21, valz21, opnz21, kspz21, kkez21, kruz21, pz21, rz21_0, rz21_1, rz21_2, rz21_3, rz21_4, rz21_5, rz21_6, rz21_7, rz21_8, rz21_9, rz21_10, rz21_11, rz21_12, rz21_13, rz21_14, rz21_15, rz21_16, rz21_17, rz21_18, rz21_19, rz21_20, rz21_21, rz21_22, rz21_23, rz21_24, rz21_25, rz21_26, rz21_27, rz21_28, rz21_29, rz21_30, rz21_31, rz21_32, rz21_33, rz21_34, rz21_35, rz21_36, rz21_37, sz21_0, sz21_1, sz21_2, sz21_3, sz21_4, sz21_5, sz21_6, sz21_7, sz21_8⟩ := (id xw20)
            refine w_al (fun _ => rfl) (w_getf pz21 rfl (fun _ => rfl) (w_icI (x := 59) rfl ?_))
            refine w_ne2 (by omega) (by omega) (by omega) (by omega)  (fun c22 => ?_) (fun c22 => ?_)
            · refine w_run k_708789 (w_al (fun _ => rfl) (w_getf pz21 rfl (fun _ => rfl) ?_))
              refine w_nez2 (by omega) (by omega)  (fun c23 => ?_) (fun c23 => ?_)
              · refine w_run k_708798 (w_al (fun _ => rfl) (w_dup (fun _ => rfl) (w_getf pz21 rfl (fun _ => rfl) (w_icI (x := 1) rfl (w_op (c := w_i (mw20 - 1)) (i_sub mw20 1) (w_putf [.inr (.inl (some 32)), .inr (.inl (some 33)), .inr (.inl (some 34)), .inr (.inl (some 35)), .inr (.inl (some 36)), .inl (w_i (g_mH g)), .inl (w_i (g_mC g)), .inl (w_i sprz21), .inl (w_i keez21), .inl (w_i (g_mnp g)), .inl (w_i rulz21), .inl (w_i (g_mhi g)), .inr (.inl (some 37)), .inr (.inl (some 50)), .inr (.inl (some 51)), .inr (.inl (some 52)), .inr (.inl (some 53)), .inr (.inl (some 54)), .inl (w_i tpdz21), .inl (w_i (g_mnt g)), .inl (w_i nxtz21), .inl (w_i tokz21), .inl (w_i tkaz21), .inl (w_i valz21), .inl (w_i opnz21), .inl (w_i (mw20 - 1)), .inl (w_i rw), .inr (.inl (some 55)), .inr (.inl (some 56)), .inr (.inl (some 57)), .inr (.inl (some 58)), .inr (.inl (some 59)), .inr (.inl (some 60)), .inr (.inl (some 61)), .inr (.inl (some 62)), .inl (w_i kspz21), .inl (w_i kkez21), .inl (w_i kruz21), .inr (.inl (some 63)), .inr (.inl (some 64)), .inr (.inl (some 65)), .inr (.inl (some 66))] pz21 rfl rfl rfl (fun _ => rfl) (fun h25 s24 => ?_)))))))
                have iv26 := is_31 iv16 s24 ⟨_, _, _, _, _, _, _, _, _, _, _, _, _, _, rfl, by omega, by omega, by omega, by omega, by omega, by omega, by omega, by omega, by omega, by omega, by omega, by omega, by omega, by omega, by omega, by omega, by omega, by omega, by omega, by omega, by omega, by omega, by omega, by omega, by omega, by omega, by omega, by omega, by omega, by omega, by omega, by omega, by omega, by omega, by omega, by omega, by omega, by omega⟩
                have F27 := fr_st F19 s24 (by rw [(ow_31 iv16)]; rfl)
                refine w_al (fun _ => rfl) (w_dup (fun _ => rfl) (w_getf s24.2.2.1 rfl (fun _ => rfl) (w_icI (x := 1) rfl (w_opR sub_lt (fun x28 x280 x281 x28e => ?_)))))
                refine w_putf [.inr (.inl (some 32)), .inr (.inl (some 33)), .inr (.inl (some 34)), .inr (.inl (some 35)), .inr (.inl (some 36)), .inl (w_i (g_mH g)), .inl (w_i (g_mC g)), .inl (w_i sprz21), .inl (w_i keez21), .inl (w_i (g_mnp g)), .inl (w_i rulz21), .inl (w_i (g_mhi g)), .inr (.inl (some 37)), .inr (.inl (some 50)), .inr (.inl (some 51)), .inr (.inl (some 52)), .inr (.inl (some 53)), .inr (.inl (some 54)), .inl (w_i tpdz21), .inl (w_i (g_mnt g)), .inl (w_i nxtz21), .inl (w_i tokz21), .inl (w_i tkaz21), .inl (w_i valz21), .inl (w_i x28), .inl (w_i (mw20 - 1)), .inl (w_i rw), .inr (.inl (some 55)), .inr (.inl (some 56)), .inr (.inl (some 57)), .inr (.inl (some 58)), .inr (.inl (some 59)), .inr (.inl (some 60)), .inr (.inl (some 61)), .inr (.inl (some 62)), .inl (w_i kspz21), .inl (w_i kkez21), .inl (w_i kruz21), .inr (.inl (some 63)), .inr (.inl (some 64)), .inr (.inl (some 65)), .inr (.inl (some 66))] s24.2.2.1 rfl rfl rfl (fun _ => rfl) (fun h30 s29 => ?_)
                have iv31 := is_31 iv26 s29 ⟨_, _, _, _, _, _, _, _, _, _, _, _, _, _, rfl, by omega, by omega, by omega, by omega, by omega, by omega, by omega, by omega, by omega, by omega, by omega, by omega, by omega, by omega, by omega, by omega, by omega, by omega, by omega, by omega, by omega, by omega, by omega, by omega, by omega, by omega, by omega, by omega, by omega, by omega, by omega, by omega, by omega, by omega, by omega, by omega, by omega, by omega⟩
                have F32 := fr_st F27 s29 (by rw [(ow_31 iv26)]; rfl)
                have hbqw20 := bc_c (C := Cw20) (m := mw20 - 1) (by omega)
                rw [show mw20 - 1 + 1 = mw20 from by omega] at hbqw20
                have hbrw20 := a9w20 (mw20 - 1) (by omega) (by omega)
                refine w_icI (x := 0) rfl (w_ri ?_)
                have m33 := st_fr s24 paw20 (by decide)
                have m34 := st_fr s29 m33 (by decide)
                have m35 := st_fr s24 pbw20 (by decide)
                have m36 := st_fr s29 m35 (by decide)
                have m37 := st_fr s24 pcw20 (by decide)
                have m38 := st_fr s29 m37 (by decide)
                exact k1 h30 iv31 F32 ⟨mw20 - 1, _, _, _, ⟨_, _, _, _, _, _, _, _, _, _, _, _, s29.2.2.1, by omega, by omega, by omega, by omega, by omega, by omega, by omega, by omega, by omega, by omega, by omega, by omega, by omega, by omega, by omega, by omega, by omega, by omega, by omega, by omega, by omega, by omega, by omega, by omega, by omega, by omega, by omega, by omega, by omega, by omega, by omega, by omega, by omega, by omega, by omega, by omega, by omega, by omega, by omega, by omega, by omega, by omega, by omega, by omega, by omega, by omega, by omega⟩, m34, m36, m38, by omega, by omega, by omega, by omega, by omega, by omega, a7w20, (by omega), (fun j j0 j1 => a9w20 j j0 (by omega)), (fun e => absurd e (by omega)), abw20⟩
              · refine w_icI (x := (-1)) wn_1 (w_ri ?_)
                exact k3 h15 iv16 F19
            · refine w_al (fun _ => rfl) (w_getf pz21 rfl (fun _ => rfl) ?_)
              refine w_nez2 (by omega) (by omega)  (fun c39 => ?_) (fun c39 => ?_)
              · refine w_run k_708787 (w_icI (x := (-1)) wn_1 (w_ri ?_))
                exact k3 h15 iv16 F19
              · refine w_icI (x := 2) rfl (w_go (w_run k_708788 (w_ri ?_)))
                exact k2 h15 iv16 F19 ⟨mw20, _, _, _, ⟨_, _, _, _, _, _, _, _, _, _, _, _, pz21, by omega, by omega, by omega, by omega, by omega, by omega, by omega, by omega, by omega, by omega, by omega, by omega, by omega, by omega, by omega, by omega, by omega, by omega, by omega, by omega, by omega, by omega, by omega, by omega, by omega, by omega, by omega, by omega, by omega, by omega, by omega, by omega, by omega, by omega, by omega, by omega, by omega, by omega, by omega, by omega, by omega, by omega, by omega, by omega, by omega, by omega, by omega⟩, paw20, pbw20, pcw20, by omega, by omega, by omega, by omega, by omega, by omega, a7w20, (by omega), (fun j j0 j1 => a9w20 j j0 (by omega)), (fun e => absurd e (by omega)), abw20⟩
          · refine w_al (fun _ => rfl) (w_getf pz8 rfl (fun _ => rfl) (w_icI (x := 41) rfl ?_))
            refine w_eq2 (by omega) (by omega) (by omega) (by omega)  (fun c40 => ?_) (fun c40 => ?_)
            · refine w_run k_708762 ?_
              have rx41 : (∃ m : Int, w_rd g o h2 rw 1 0 m 7 1 (n0 + 1)) := ⟨mw7, _, _, _, ⟨_, _, _, _, _, _, _, _, _, _, _, _, pz8, by omega, by omega, by omega, by omega, by omega, by omega, by omega, by omega, by omega, by omega, by omega, by omega, by omega, by omega, by omega, by omega, by omega, by omega, by omega, by omega, by omega, by omega, by omega, by omega, by omega, by omega, by omega, by omega, by omega, by omega, by omega, by omega, by omega, by omega, by omega, by omega, by omega, by omega, by omega, by omega, by omega, by omega, by omega, by omega, by omega, by omega, by omega⟩, paw7, pbw7, pcw7, by omega, by omega, by omega, by omega, by omega, by omega, a7w7, a8w7, a9w7, (fun e => absurd e (by omega)), abw7⟩
              refine w_al (fun _ => rfl) (w_icI (x := 1) rfl (w_this (fun _ => rfl) pz8 ?_))
              refine w_cv (fun _ => rfl) rfl (c_mLetsFrom (d := d) iv3 (hg := 1) (by omega) (by omega) (by omega) (by omega) rx41 (fun h42 iv43 F44 b45 => ⟨rfl, ?_⟩))
              have F46 := fr_ca F6 F44 (fun t ht => by simp at ht ⊢; omega)
              obtain ⟨mw47, Aw47, Bw47, Cw47, xw47, paw47, pbw47, pcw47, a1w47, a2w47, a3w47, a4w47, a5w47, a6w47, a7w47, a8w47, a9w47, aaw47, abw47⟩ := (id b45)
              have hmrw47 := rs_n xw47
              have a0w47 := iv_51h iv43 paw47
              have b0w47 := iv_52h iv43 pbw47
              obtain ⟨sprz48, keez48, rulz48, tpdz48, nxtz48, tokz48, tkaz48, valz48, opnz48, kspz48, kkez48, kruz48, pz48, rz48_0, rz48_1, rz48_2, rz48_3, rz48_4, rz48_5, rz48_6, rz48_7, rz48_8, rz48_9, rz48_10, rz48_11, rz48_12, rz48_13, rz48_14, rz48_15, rz48_16, rz48_17, rz48_18, rz48_19, rz48_20, rz48_21, rz48_22, rz48_23, rz48_24, rz48_25, rz48_26, rz48_27, rz48_28, rz48_29, rz48_30, rz48_31, rz48_32, rz48_33, rz48_34, rz48_35, rz48_36, rz48_37, sz48_0, sz48_1, sz48_2, sz48_3, sz48_4, sz48_5, sz48_6, sz48_7, sz48_8⟩ := (id xw47)
              refine w_al (fun _ => rfl) (w_getf pz48 rfl (fun _ => rfl) (w_icI (x := 59) rfl ?_))
              refine w_ne2 (by omega) (by omega) (by omega) (by omega)  (fun c49 => ?_) (fun c49 => ?_)
              · refine w_run k_708789 (w_al (fun _ => rfl) (w_getf pz48 rfl (fun _ => rfl) ?_))
                refine w_nez2 (by omega) (by omega)  (fun c50 => ?_) (fun c50 => ?_)
                · refine w_run k_708798 (w_al (fun _ => rfl) (w_dup (fun _ => rfl) (w_getf pz48 rfl (fun _ => rfl) (w_icI (x := 1) rfl (w_op (c := w_i (mw47 - 1)) (i_sub mw47 1) (w_putf [.inr (.inl (some 32)), .inr (.inl (some 33)), .inr (.inl (some 34)), .inr (.inl (some 35)), .inr (.inl (some 36)), .inl (w_i (g_mH g)), .inl (w_i (g_mC g)), .inl (w_i sprz48), .inl (w_i keez48), .inl (w_i (g_mnp g)), .inl (w_i rulz48), .inl (w_i (g_mhi g)), .inr (.inl (some 37)), .inr (.inl (some 50)), .inr (.inl (some 51)), .inr (.inl (some 52)), .inr (.inl (some 53)), .inr (.inl (some 54)), .inl (w_i tpdz48), .inl (w_i (g_mnt g)), .inl (w_i nxtz48), .inl (w_i tokz48), .inl (w_i tkaz48), .inl (w_i valz48), .inl (w_i opnz48), .inl (w_i (mw47 - 1)), .inl (w_i rw), .inr (.inl (some 55)), .inr (.inl (some 56)), .inr (.inl (some 57)), .inr (.inl (some 58)), .inr (.inl (some 59)), .inr (.inl (some 60)), .inr (.inl (some 61)), .inr (.inl (some 62)), .inl (w_i kspz48), .inl (w_i kkez48), .inl (w_i kruz48), .inr (.inl (some 63)), .inr (.inl (some 64)), .inr (.inl (some 65)), .inr (.inl (some 66))] pz48 rfl rfl rfl (fun _ => rfl) (fun h52 s51 => ?_)))))))
                  have iv53 := is_31 iv43 s51 ⟨_, _, _, _, _, _, _, _, _, _, _, _, _, _, rfl, by omega, by omega, by omega, by omega, by omega, by omega, by omega, by omega, by omega, by omega, by omega, by omega, by omega, by omega, by omega, by omega, by omega, by omega, by omega, by omega, by omega, by omega, by omega, by omega, by omega, by omega, by omega, by omega, by omega, by omega, by omega, by omega, by omega, by omega, by omega, by omega, by omega, by omega⟩
                  have F54 := fr_st F46 s51 (by rw [(ow_31 iv43)]; rfl)
                  refine w_al (fun _ => rfl) (w_dup (fun _ => rfl) (w_getf s51.2.2.1 rfl (fun _ => rfl) (w_icI (x := 1) rfl (w_opR sub_lt (fun x55 x550 x551 x55e => ?_)))))
                  refine w_putf [.inr (.inl (some 32)), .inr (.inl (some 33)), .inr (.inl (some 34)), .inr (.inl (some 35)), .inr (.inl (some 36)), .inl (w_i (g_mH g)), .inl (w_i (g_mC g)), .inl (w_i sprz48), .inl (w_i keez48), .inl (w_i (g_mnp g)), .inl (w_i rulz48), .inl (w_i (g_mhi g)), .inr (.inl (some 37)), .inr (.inl (some 50)), .inr (.inl (some 51)), .inr (.inl (some 52)), .inr (.inl (some 53)), .inr (.inl (some 54)), .inl (w_i tpdz48), .inl (w_i (g_mnt g)), .inl (w_i nxtz48), .inl (w_i tokz48), .inl (w_i tkaz48), .inl (w_i valz48), .inl (w_i x55), .inl (w_i (mw47 - 1)), .inl (w_i rw), .inr (.inl (some 55)), .inr (.inl (some 56)), .inr (.inl (some 57)), .inr (.inl (some 58)), .inr (.inl (some 59)), .inr (.inl (some 60)), .inr (.inl (some 61)), .inr (.inl (some 62)), .inl (w_i kspz48), .inl (w_i kkez48), .inl (w_i kruz48), .inr (.inl (some 63)), .inr (.inl (some 64)), .inr (.inl (some 65)), .inr (.inl (some 66))] s51.2.2.1 rfl rfl rfl (fun _ => rfl) (fun h57 s56 => ?_)
                  have iv58 := is_31 iv53 s56 ⟨_, _, _, _, _, _, _, _, _, _, _, _, _, _, rfl, by omega, by omega, by omega, by omega, by omega, by omega, by omega, by omega, by omega, by omega, by omega, by omega, by omega, by omega, by omega, by omega, by omega, by omega, by omega, by omega, by omega, by omega, by omega, by omega, by omega, by omega, by omega, by omega, by omega, by omega, by omega, by omega, by omega, by omega, by omega, by omega, by omega, by omega⟩
                  have F59 := fr_st F54 s56 (by rw [(ow_31 iv53)]; rfl)
                  have hbqw47 := bc_c (C := Cw47) (m := mw47 - 1) (by omega)
                  rw [show mw47 - 1 + 1 = mw47 from by omega] at hbqw47
                  have hbrw47 := a9w47 (mw47 - 1) (by omega) (by omega)
                  refine w_icI (x := 0) rfl (w_ri ?_)
                  have m60 := st_fr s51 paw47 (by decide)
                  have m61 := st_fr s56 m60 (by decide)
                  have m62 := st_fr s51 pbw47 (by decide)
                  have m63 := st_fr s56 m62 (by decide)
                  have m64 := st_fr s51 pcw47 (by decide)
                  have m65 := st_fr s56 m64 (by decide)
                  exact k1 h57 iv58 F59 ⟨mw47 - 1, _, _, _, ⟨_, _, _, _, _, _, _, _, _, _, _, _, s56.2.2.1, by omega, by omega, by omega, by omega, by omega, by omega, by omega, by omega, by omega, by omega, by omega, by omega, by omega, by omega, by omega, by omega, by omega, by omega, by omega, by omega, by omega, by omega, by omega, by omega, by omega, by omega, by omega, by omega, by omega, by omega, by omega, by omega, by omega, by omega, by omega, by omega, by omega, by omega, by omega, by omega, by omega, by omega, by omega, by omega, by omega, by omega, by omega⟩, m61, m63, m65, by omega, by omega, by omega, by omega, by omega, by omega, a7w47, (by omega), (fun j j0 j1 => a9w47 j j0 (by omega)), (fun e => absurd e (by omega)), abw47⟩
                · refine w_icI (x := (-1)) wn_1 (w_ri ?_)
                  exact k3 h42 iv43 F46
              · refine w_al (fun _ => rfl) (w_getf pz48 rfl (fun _ => rfl) ?_)
                refine w_nez2 (by omega) (by omega)  (fun c66 => ?_) (fun c66 => ?_)
                · refine w_run k_708787 (w_icI (x := (-1)) wn_1 (w_ri ?_))
                  exact k3 h42 iv43 F46
                · refine w_icI (x := 2) rfl (w_go (w_run k_708788 (w_ri ?_)))
                  exact k2 h42 iv43 F46 ⟨mw47, _, _, _, ⟨_, _, _, _, _, _, _, _, _, _, _, _, pz48, by omega, by omega, by omega, by omega, by omega, by omega, by omega, by omega, by omega, by omega, by omega, by omega, by omega, by omega, by omega, by omega, by omega, by omega, by omega, by omega, by omega, by omega, by omega, by omega, by omega, by omega, by omega, by omega, by omega, by omega, by omega, by omega, by omega, by omega, by omega, by omega, by omega, by omega, by omega, by omega, by omega, by omega, by omega, by omega, by omega, by omega, by omega⟩, paw47, pbw47, pcw47, by omega, by omega, by omega, by omega, by omega, by omega, a7w47, (by omega), (fun j j0 j1 => a9w47 j j0 (by omega)), (fun e => absurd e (by omega)), abw47⟩
            · refine w_icI (x := (-1)) wn_1 (w_ri ?_)
              exact k3 h2 iv3 F6
      · refine w_al (fun _ => rfl) (w_getf pz8 rfl (fun _ => rfl) (w_icI (x := 10) rfl ?_))
        refine w_ne2 (by omega) (by omega) (by omega) (by omega)  (fun c67 => ?_) (fun c67 => ?_)
        · refine w_run k_708679 (w_icI (x := 0) rfl (w_is (fun _ => rfl) (w_il (fun _ => rfl) (w_eqzt (by omega) (by omega) (by omega)  (w_run k_708733 (w_al (fun _ => rfl) (w_getf pz8 rfl (fun _ => rfl) (w_icI (x := 102) rfl (w_net (by omega) (by omega) (by omega) (by omega) (by omega)  (w_run k_708760 (w_icI (x := (-1)) wn_1 (w_ri ?_))))))))))))
          exact k3 h2 iv3 F6
        · refine w_icI (x := 6) rfl (w_go (w_run k_708680 (w_is (fun _ => rfl) (w_il (fun _ => rfl) (w_eqzf (by omega) (by omega) (by omega)  (w_il (fun _ => rfl) (w_icI (x := 4) rfl (w_eqf (by omega) (by omega) (by omega) (by omega) (by omega)  (w_il (fun _ => rfl) (w_icI (x := 5) rfl (w_net (by omega) (by omega) (by omega) (by omega) (by omega)  (w_run k_708718 ?_))))))))))))
          have rx68 : (∃ m : Int, w_rd g o h2 rw 1 0 m 7 1 (n0 + 1)) := ⟨mw7, _, _, _, ⟨_, _, _, _, _, _, _, _, _, _, _, _, pz8, by omega, by omega, by omega, by omega, by omega, by omega, by omega, by omega, by omega, by omega, by omega, by omega, by omega, by omega, by omega, by omega, by omega, by omega, by omega, by omega, by omega, by omega, by omega, by omega, by omega, by omega, by omega, by omega, by omega, by omega, by omega, by omega, by omega, by omega, by omega, by omega, by omega, by omega, by omega, by omega, by omega, by omega, by omega, by omega, by omega, by omega, by omega⟩, paw7, pbw7, pcw7, by omega, by omega, by omega, by omega, by omega, by omega, a7w7, a8w7, a9w7, (fun e => absurd e (by omega)), abw7⟩
          refine w_al (fun _ => rfl) (w_il (fun _ => rfl) ?_)
          refine w_ca (fun _ => rfl) rfl (c_mHeightX (d := (d + 3)) iv3 (n := 6) (by omega) (by omega)   (fun y69 b70 b71 b72 b73 b74 => ⟨_, rfl, ?_⟩))
          refine w_this (fun _ => rfl) pz8 ?_
          refine w_cv (fun _ => rfl) rfl (c_mLetsFrom (d := d) iv3 (hg := y69) (by omega) (by omega) (by omega) (by omega) rx68 (fun h75 iv76 F77 b78 => ⟨rfl, ?_⟩))
          have F79 := fr_ca F6 F77 (fun t ht => by simp at ht ⊢; omega)
          obtain ⟨mw80, Aw80, Bw80, Cw80, xw80, paw80, pbw80, pcw80, a1w80, a2w80, a3w80, a4w80, a5w80, a6w80, a7w80, a8w80, a9w80, aaw80, abw80⟩ := (id b78)
          have hmrw80 := rs_n xw80
          have a0w80 := iv_51h iv76 paw80
          have b0w80 := iv_52h iv76 pbw80
          obtain ⟨sprz81, keez81, rulz81, tpdz81, nxtz81, tokz81, tkaz81, valz81, opnz81, kspz81, kkez81, kruz81, pz81, rz81_0, rz81_1, rz81_2, rz81_3, rz81_4, rz81_5, rz81_6, rz81_7, rz81_8, rz81_9, rz81_10, rz81_11, rz81_12, rz81_13, rz81_14, rz81_15, rz81_16, rz81_17, rz81_18, rz81_19, rz81_20, rz81_21, rz81_22, rz81_23, rz81_24, rz81_25, rz81_26, rz81_27, rz81_28, rz81_29, rz81_30, rz81_31, rz81_32, rz81_33, rz81_34, rz81_35, rz81_36, rz81_37, sz81_0, sz81_1, sz81_2, sz81_3, sz81_4, sz81_5, sz81_6, sz81_7, sz81_8⟩ := (id xw80)
          refine w_al (fun _ => rfl) (w_il (fun _ => rfl) (w_this (fun _ => rfl) pz81 (w_cv (fun _ => rfl) rfl (w_run k_679936 (w_al (fun _ => rfl) (w_getf pz81 rfl (fun _ => rfl) (w_al (fun _ => rfl) (w_getf pz81 rfl (fun _ => rfl) (w_il (fun _ => rfl) (w_astI pcw80 (by omega) (by omega) (by omega) (by omega) (by omega) (fun A85 h83 w86 s82 => ?_)))))))))))
          have iv84 := is_53 iv76 s82 ⟨_, rfl⟩
          have F87 := fr_st F79 s82 (by rw [(ow_53 iv76)]; rfl)
          refine w_al (fun _ => rfl) (w_dup (fun _ => rfl) ?_)
          have m88 := st_fr s82 pz81 (by decide)
          refine w_getf m88 rfl (fun _ => rfl) (w_icI (x := 1) rfl (w_op (c := w_i (mw80 + 1)) (i_add mw80 1) (w_putf [.inr (.inl (some 32)), .inr (.inl (some 33)), .inr (.inl (some 34)), .inr (.inl (some 35)), .inr (.inl (some 36)), .inl (w_i (g_mH g)), .inl (w_i (g_mC g)), .inl (w_i sprz81), .inl (w_i keez81), .inl (w_i (g_mnp g)), .inl (w_i rulz81), .inl (w_i (g_mhi g)), .inr (.inl (some 37)), .inr (.inl (some 50)), .inr (.inl (some 51)), .inr (.inl (some 52)), .inr (.inl (some 53)), .inr (.inl (some 54)), .inl (w_i tpdz81), .inl (w_i (g_mnt g)), .inl (w_i nxtz81), .inl (w_i tokz81), .inl (w_i tkaz81), .inl (w_i valz81), .inl (w_i opnz81), .inl (w_i (mw80 + 1)), .inl (w_i rw), .inr (.inl (some 55)), .inr (.inl (some 56)), .inr (.inl (some 57)), .inr (.inl (some 58)), .inr (.inl (some 59)), .inr (.inl (some 60)), .inr (.inl (some 61)), .inr (.inl (some 62)), .inl (w_i kspz81), .inl (w_i kkez81), .inl (w_i kruz81), .inr (.inl (some 63)), .inr (.inl (some 64)), .inr (.inl (some 65)), .inr (.inl (some 66))] m88 rfl rfl rfl (fun _ => rfl) (fun h90 s89 => ?_))))
          have iv91 := is_31 iv84 s89 ⟨_, _, _, _, _, _, _, _, _, _, _, _, _, _, rfl, by omega, by omega, by omega, by omega, by omega, by omega, by omega, by omega, by omega, by omega, by omega, by omega, by omega, by omega, by omega, by omega, by omega, by omega, by omega, by omega, by omega, by omega, by omega, by omega, by omega, by omega, by omega, by omega, by omega, by omega, by omega, by omega, by omega, by omega, by omega, by omega, by omega, by omega⟩
          have F92 := fr_st F87 s89 (by rw [(ow_31 iv84)]; rfl)
          refine w_rv ⟨rfl, ?_⟩
          have hpw80 := bc_put (m := mw80) (v := 6) (by omega) (by omega) w86
          have hhw80 := held_put (m := mw80) (v := 6) (by omega) (by omega) (by omega) (by omega) a9w80 w86
          refine w_icI (x := 1) rfl (w_ri ?_)
          have m93 := st_fr s82 paw80 (by decide)
          have m94 := st_fr s89 m93 (by decide)
          have m95 := st_fr s82 pbw80 (by decide)
          have m96 := st_fr s89 m95 (by decide)
          have m97 := st_fr s89 s82.2.2.1 (by decide)
          exact k0 h90 iv91 F92 ⟨mw80 + 1, _, _, _, ⟨_, _, _, _, _, _, _, _, _, _, _, _, s89.2.2.1, by omega, by omega, by omega, by omega, by omega, by omega, by omega, by omega, by omega, by omega, by omega, by omega, by omega, by omega, by omega, by omega, by omega, by omega, by omega, by omega, by omega, by omega, by omega, by omega, by omega, by omega, by omega, by omega, by omega, by omega, by omega, by omega, by omega, by omega, by omega, by omega, by omega, by omega, by omega, by omega, by omega, by omega, by omega, by omega, by omega, by omega, by omega⟩, m94, m96, m97, by omega, by omega, by omega, by omega, by omega, by omega, a7w80, (by omega), hhw80, (fun e => absurd e (by omega)), abw80⟩
    · refine w_al (fun _ => rfl) (w_getf pz8 rfl (fun _ => rfl) (w_icI (x := 9) rfl ?_))
      refine w_ne2 (by omega) (by omega) (by omega) (by omega)  (fun c98 => ?_) (fun c98 => ?_)
      · refine w_run k_708656 (w_al (fun _ => rfl) (w_getf pz8 rfl (fun _ => rfl) (w_icI (x := 101) rfl (w_nef (by omega) (by omega) (by omega) (by omega) (by omega)  (w_al (fun _ => rfl) (w_getf pz8 rfl (fun _ => rfl) (w_icI (x := 10) rfl ?_)))))))
        refine w_ne2 (by omega) (by omega) (by omega) (by omega)  (fun c99 => ?_) (fun c99 => ?_)
        · refine w_run k_708679 (w_icI (x := 0) rfl (w_is (fun _ => rfl) (w_il (fun _ => rfl) (w_eqzt (by omega) (by omega) (by omega)  (w_run k_708733 (w_al (fun _ => rfl) (w_getf pz8 rfl (fun _ => rfl) (w_icI (x := 102) rfl (w_net (by omega) (by omega) (by omega) (by omega) (by omega)  (w_run k_708760 (w_icI (x := (-1)) wn_1 (w_ri ?_))))))))))))
          exact k3 h2 iv3 F6
        · refine w_icI (x := 6) rfl (w_go (w_run k_708680 (w_is (fun _ => rfl) (w_il (fun _ => rfl) (w_eqzf (by omega) (by omega) (by omega)  (w_il (fun _ => rfl) (w_icI (x := 4) rfl (w_eqf (by omega) (by omega) (by omega) (by omega) (by omega)  (w_il (fun _ => rfl) (w_icI (x := 5) rfl (w_net (by omega) (by omega) (by omega) (by omega) (by omega)  (w_run k_708718 ?_))))))))))))
          have rx100 : (∃ m : Int, w_rd g o h2 rw 1 0 m 7 1 (n0 + 1)) := ⟨mw7, _, _, _, ⟨_, _, _, _, _, _, _, _, _, _, _, _, pz8, by omega, by omega, by omega, by omega, by omega, by omega, by omega, by omega, by omega, by omega, by omega, by omega, by omega, by omega, by omega, by omega, by omega, by omega, by omega, by omega, by omega, by omega, by omega, by omega, by omega, by omega, by omega, by omega, by omega, by omega, by omega, by omega, by omega, by omega, by omega, by omega, by omega, by omega, by omega, by omega, by omega, by omega, by omega, by omega, by omega, by omega, by omega⟩, paw7, pbw7, pcw7, by omega, by omega, by omega, by omega, by omega, by omega, a7w7, a8w7, a9w7, (fun e => absurd e (by omega)), abw7⟩
          refine w_al (fun _ => rfl) (w_il (fun _ => rfl) ?_)
          refine w_ca (fun _ => rfl) rfl (c_mHeightX (d := (d + 3)) iv3 (n := 6) (by omega) (by omega)   (fun y101 b102 b103 b104 b105 b106 => ⟨_, rfl, ?_⟩))
          refine w_this (fun _ => rfl) pz8 ?_
          refine w_cv (fun _ => rfl) rfl (c_mLetsFrom (d := d) iv3 (hg := y101) (by omega) (by omega) (by omega) (by omega) rx100 (fun h107 iv108 F109 b110 => ⟨rfl, ?_⟩))
          have F111 := fr_ca F6 F109 (fun t ht => by simp at ht ⊢; omega)
          obtain ⟨mw112, Aw112, Bw112, Cw112, xw112, paw112, pbw112, pcw112, a1w112, a2w112, a3w112, a4w112, a5w112, a6w112, a7w112, a8w112, a9w112, aaw112, abw112⟩ := (id b110)
          have hmrw112 := rs_n xw112
          have a0w112 := iv_51h iv108 paw112
          have b0w112 := iv_52h iv108 pbw112
          obtain ⟨sprz113, keez113, rulz113, tpdz113, nxtz113, tokz113, tkaz113, valz113, opnz113, kspz113, kkez113, kruz113, pz113, rz113_0, rz113_1, rz113_2, rz113_3, rz113_4, rz113_5, rz113_6, rz113_7, rz113_8, rz113_9, rz113_10, rz113_11, rz113_12, rz113_13, rz113_14, rz113_15, rz113_16, rz113_17, rz113_18, rz113_19, rz113_20, rz113_21, rz113_22, rz113_23, rz113_24, rz113_25, rz113_26, rz113_27, rz113_28, rz113_29, rz113_30, rz113_31, rz113_32, rz113_33, rz113_34, rz113_35, rz113_36, rz113_37, sz113_0, sz113_1, sz113_2, sz113_3, sz113_4, sz113_5, sz113_6, sz113_7, sz113_8⟩ := (id xw112)
          refine w_al (fun _ => rfl) (w_il (fun _ => rfl) (w_this (fun _ => rfl) pz113 (w_cv (fun _ => rfl) rfl (w_run k_679936 (w_al (fun _ => rfl) (w_getf pz113 rfl (fun _ => rfl) (w_al (fun _ => rfl) (w_getf pz113 rfl (fun _ => rfl) (w_il (fun _ => rfl) (w_astI pcw112 (by omega) (by omega) (by omega) (by omega) (by omega) (fun A117 h115 w118 s114 => ?_)))))))))))
          have iv116 := is_53 iv108 s114 ⟨_, rfl⟩
          have F119 := fr_st F111 s114 (by rw [(ow_53 iv108)]; rfl)
          refine w_al (fun _ => rfl) (w_dup (fun _ => rfl) ?_)
          have m120 := st_fr s114 pz113 (by decide)
          refine w_getf m120 rfl (fun _ => rfl) (w_icI (x := 1) rfl (w_op (c := w_i (mw112 + 1)) (i_add mw112 1) (w_putf [.inr (.inl (some 32)), .inr (.inl (some 33)), .inr (.inl (some 34)), .inr (.inl (some 35)), .inr (.inl (some 36)), .inl (w_i (g_mH g)), .inl (w_i (g_mC g)), .inl (w_i sprz113), .inl (w_i keez113), .inl (w_i (g_mnp g)), .inl (w_i rulz113), .inl (w_i (g_mhi g)), .inr (.inl (some 37)), .inr (.inl (some 50)), .inr (.inl (some 51)), .inr (.inl (some 52)), .inr (.inl (some 53)), .inr (.inl (some 54)), .inl (w_i tpdz113), .inl (w_i (g_mnt g)), .inl (w_i nxtz113), .inl (w_i tokz113), .inl (w_i tkaz113), .inl (w_i valz113), .inl (w_i opnz113), .inl (w_i (mw112 + 1)), .inl (w_i rw), .inr (.inl (some 55)), .inr (.inl (some 56)), .inr (.inl (some 57)), .inr (.inl (some 58)), .inr (.inl (some 59)), .inr (.inl (some 60)), .inr (.inl (some 61)), .inr (.inl (some 62)), .inl (w_i kspz113), .inl (w_i kkez113), .inl (w_i kruz113), .inr (.inl (some 63)), .inr (.inl (some 64)), .inr (.inl (some 65)), .inr (.inl (some 66))] m120 rfl rfl rfl (fun _ => rfl) (fun h122 s121 => ?_))))
          have iv123 := is_31 iv116 s121 ⟨_, _, _, _, _, _, _, _, _, _, _, _, _, _, rfl, by omega, by omega, by omega, by omega, by omega, by omega, by omega, by omega, by omega, by omega, by omega, by omega, by omega, by omega, by omega, by omega, by omega, by omega, by omega, by omega, by omega, by omega, by omega, by omega, by omega, by omega, by omega, by omega, by omega, by omega, by omega, by omega, by omega, by omega, by omega, by omega, by omega, by omega⟩
          have F124 := fr_st F119 s121 (by rw [(ow_31 iv116)]; rfl)
          refine w_rv ⟨rfl, ?_⟩
          have hpw112 := bc_put (m := mw112) (v := 6) (by omega) (by omega) w118
          have hhw112 := held_put (m := mw112) (v := 6) (by omega) (by omega) (by omega) (by omega) a9w112 w118
          refine w_icI (x := 1) rfl (w_ri ?_)
          have m125 := st_fr s114 paw112 (by decide)
          have m126 := st_fr s121 m125 (by decide)
          have m127 := st_fr s114 pbw112 (by decide)
          have m128 := st_fr s121 m127 (by decide)
          have m129 := st_fr s121 s114.2.2.1 (by decide)
          exact k0 h122 iv123 F124 ⟨mw112 + 1, _, _, _, ⟨_, _, _, _, _, _, _, _, _, _, _, _, s121.2.2.1, by omega, by omega, by omega, by omega, by omega, by omega, by omega, by omega, by omega, by omega, by omega, by omega, by omega, by omega, by omega, by omega, by omega, by omega, by omega, by omega, by omega, by omega, by omega, by omega, by omega, by omega, by omega, by omega, by omega, by omega, by omega, by omega, by omega, by omega, by omega, by omega, by omega, by omega, by omega, by omega, by omega, by omega, by omega, by omega, by omega, by omega, by omega⟩, m126, m128, m129, by omega, by omega, by omega, by omega, by omega, by omega, a7w112, (by omega), hhw112, (fun e => absurd e (by omega)), abw112⟩
      · refine w_icI (x := 7) rfl (w_go (w_run k_708680 (w_is (fun _ => rfl) (w_il (fun _ => rfl) (w_eqzf (by omega) (by omega) (by omega)  (w_il (fun _ => rfl) (w_icI (x := 4) rfl (w_eqf (by omega) (by omega) (by omega) (by omega) (by omega)  (w_il (fun _ => rfl) (w_icI (x := 5) rfl (w_net (by omega) (by omega) (by omega) (by omega) (by omega)  (w_run k_708718 ?_))))))))))))
        have rx130 : (∃ m : Int, w_rd g o h2 rw 1 0 m 7 1 (n0 + 1)) := ⟨mw7, _, _, _, ⟨_, _, _, _, _, _, _, _, _, _, _, _, pz8, by omega, by omega, by omega, by omega, by omega, by omega, by omega, by omega, by omega, by omega, by omega, by omega, by omega, by omega, by omega, by omega, by omega, by omega, by omega, by omega, by omega, by omega, by omega, by omega, by omega, by omega, by omega, by omega, by omega, by omega, by omega, by omega, by omega, by omega, by omega, by omega, by omega, by omega, by omega, by omega, by omega, by omega, by omega, by omega, by omega, by omega, by omega⟩, paw7, pbw7, pcw7, by omega, by omega, by omega, by omega, by omega, by omega, a7w7, a8w7, a9w7, (fun e => absurd e (by omega)), abw7⟩
        refine w_al (fun _ => rfl) (w_il (fun _ => rfl) ?_)
        refine w_ca (fun _ => rfl) rfl (c_mHeightX (d := (d + 3)) iv3 (n := 7) (by omega) (by omega)   (fun y131 b132 b133 b134 b135 b136 => ⟨_, rfl, ?_⟩))
        refine w_this (fun _ => rfl) pz8 ?_
        refine w_cv (fun _ => rfl) rfl (c_mLetsFrom (d := d) iv3 (hg := y131) (by omega) (by omega) (by omega) (by omega) rx130 (fun h137 iv138 F139 b140 => ⟨rfl, ?_⟩))
        have F141 := fr_ca F6 F139 (fun t ht => by simp at ht ⊢; omega)
        obtain ⟨mw142, Aw142, Bw142, Cw142, xw142, paw142, pbw142, pcw142, a1w142, a2w142, a3w142, a4w142, a5w142, a6w142, a7w142, a8w142, a9w142, aaw142, abw142⟩ := (id b140)
        have hmrw142 := rs_n xw142
        have a0w142 := iv_51h iv138 paw142
        have b0w142 := iv_52h iv138 pbw142
        obtain ⟨sprz143, keez143, rulz143, tpdz143, nxtz143, tokz143, tkaz143, valz143, opnz143, kspz143, kkez143, kruz143, pz143, rz143_0, rz143_1, rz143_2, rz143_3, rz143_4, rz143_5, rz143_6, rz143_7, rz143_8, rz143_9, rz143_10, rz143_11, rz143_12, rz143_13, rz143_14, rz143_15, rz143_16, rz143_17, rz143_18, rz143_19, rz143_20, rz143_21, rz143_22, rz143_23, rz143_24, rz143_25, rz143_26, rz143_27, rz143_28, rz143_29, rz143_30, rz143_31, rz143_32, rz143_33, rz143_34, rz143_35, rz143_36, rz143_37, sz143_0, sz143_1, sz143_2, sz143_3, sz143_4, sz143_5, sz143_6, sz143_7, sz143_8⟩ := (id xw142)
        refine w_al (fun _ => rfl) (w_il (fun _ => rfl) (w_this (fun _ => rfl) pz143 (w_cv (fun _ => rfl) rfl (w_run k_679936 (w_al (fun _ => rfl) (w_getf pz143 rfl (fun _ => rfl) (w_al (fun _ => rfl) (w_getf pz143 rfl (fun _ => rfl) (w_il (fun _ => rfl) (w_astI pcw142 (by omega) (by omega) (by omega) (by omega) (by omega) (fun A147 h145 w148 s144 => ?_)))))))))))
        have iv146 := is_53 iv138 s144 ⟨_, rfl⟩
        have F149 := fr_st F141 s144 (by rw [(ow_53 iv138)]; rfl)
        refine w_al (fun _ => rfl) (w_dup (fun _ => rfl) ?_)
        have m150 := st_fr s144 pz143 (by decide)
        refine w_getf m150 rfl (fun _ => rfl) (w_icI (x := 1) rfl (w_op (c := w_i (mw142 + 1)) (i_add mw142 1) (w_putf [.inr (.inl (some 32)), .inr (.inl (some 33)), .inr (.inl (some 34)), .inr (.inl (some 35)), .inr (.inl (some 36)), .inl (w_i (g_mH g)), .inl (w_i (g_mC g)), .inl (w_i sprz143), .inl (w_i keez143), .inl (w_i (g_mnp g)), .inl (w_i rulz143), .inl (w_i (g_mhi g)), .inr (.inl (some 37)), .inr (.inl (some 50)), .inr (.inl (some 51)), .inr (.inl (some 52)), .inr (.inl (some 53)), .inr (.inl (some 54)), .inl (w_i tpdz143), .inl (w_i (g_mnt g)), .inl (w_i nxtz143), .inl (w_i tokz143), .inl (w_i tkaz143), .inl (w_i valz143), .inl (w_i opnz143), .inl (w_i (mw142 + 1)), .inl (w_i rw), .inr (.inl (some 55)), .inr (.inl (some 56)), .inr (.inl (some 57)), .inr (.inl (some 58)), .inr (.inl (some 59)), .inr (.inl (some 60)), .inr (.inl (some 61)), .inr (.inl (some 62)), .inl (w_i kspz143), .inl (w_i kkez143), .inl (w_i kruz143), .inr (.inl (some 63)), .inr (.inl (some 64)), .inr (.inl (some 65)), .inr (.inl (some 66))] m150 rfl rfl rfl (fun _ => rfl) (fun h152 s151 => ?_))))
        have iv153 := is_31 iv146 s151 ⟨_, _, _, _, _, _, _, _, _, _, _, _, _, _, rfl, by omega, by omega, by omega, by omega, by omega, by omega, by omega, by omega, by omega, by omega, by omega, by omega, by omega, by omega, by omega, by omega, by omega, by omega, by omega, by omega, by omega, by omega, by omega, by omega, by omega, by omega, by omega, by omega, by omega, by omega, by omega, by omega, by omega, by omega, by omega, by omega, by omega, by omega⟩
        have F154 := fr_st F149 s151 (by rw [(ow_31 iv146)]; rfl)
        refine w_rv ⟨rfl, ?_⟩
        have hpw142 := bc_put (m := mw142) (v := 7) (by omega) (by omega) w148
        have hhw142 := held_put (m := mw142) (v := 7) (by omega) (by omega) (by omega) (by omega) a9w142 w148
        refine w_icI (x := 1) rfl (w_ri ?_)
        have m155 := st_fr s144 paw142 (by decide)
        have m156 := st_fr s151 m155 (by decide)
        have m157 := st_fr s144 pbw142 (by decide)
        have m158 := st_fr s151 m157 (by decide)
        have m159 := st_fr s151 s144.2.2.1 (by decide)
        exact k0 h152 iv153 F154 ⟨mw142 + 1, _, _, _, ⟨_, _, _, _, _, _, _, _, _, _, _, _, s151.2.2.1, by omega, by omega, by omega, by omega, by omega, by omega, by omega, by omega, by omega, by omega, by omega, by omega, by omega, by omega, by omega, by omega, by omega, by omega, by omega, by omega, by omega, by omega, by omega, by omega, by omega, by omega, by omega, by omega, by omega, by omega, by omega, by omega, by omega, by omega, by omega, by omega, by omega, by omega, by omega, by omega, by omega, by omega, by omega, by omega, by omega, by omega, by omega⟩, m156, m158, m159, by omega, by omega, by omega, by omega, by omega, by omega, a7w142, (by omega), hhw142, (fun e => absurd e (by omega)), abw142⟩
  · refine w_al (fun _ => rfl) (w_getf pz8 rfl (fun _ => rfl) ?_)
    refine w_ca (fun _ => rfl) rfl (c_mDeedOf (d := (d + 3)) iv3 (n := valz8) (by omega) (by omega)   (fun y160 b161 b162 b163 b164 => ⟨_, rfl, ?_⟩))
    refine w_go (w_run k_708680 (w_is (fun _ => rfl) (w_il (fun _ => rfl) ?_)))
    refine w_eqz2 (by omega) (by omega)  (fun c165 => ?_) (fun c165 => ?_)
    · refine w_run k_708733 (w_al (fun _ => rfl) (w_getf pz8 rfl (fun _ => rfl) (w_icI (x := 102) rfl (w_nef (by omega) (by omega) (by omega) (by omega) (by omega)  (w_al (fun _ => rfl) (w_getf pz8 rfl (fun _ => rfl) (w_icI (x := 59) rfl ?_)))))))
      refine w_eq2 (by omega) (by omega) (by omega) (by omega)  (fun c166 => ?_) (fun c166 => ?_)
      · refine w_run k_708762 ?_
        have rx167 : (∃ m : Int, w_rd g o h2 rw 1 0 m 7 1 (n0 + 1)) := ⟨mw7, _, _, _, ⟨_, _, _, _, _, _, _, _, _, _, _, _, pz8, by omega, by omega, by omega, by omega, by omega, by omega, by omega, by omega, by omega, by omega, by omega, by omega, by omega, by omega, by omega, by omega, by omega, by omega, by omega, by omega, by omega, by omega, by omega, by omega, by omega, by omega, by omega, by omega, by omega, by omega, by omega, by omega, by omega, by omega, by omega, by omega, by omega, by omega, by omega, by omega, by omega, by omega, by omega, by omega, by omega, by omega, by omega⟩, paw7, pbw7, pcw7, by omega, by omega, by omega, by omega, by omega, by omega, a7w7, a8w7, a9w7, (fun e => absurd e (by omega)), abw7⟩
        refine w_al (fun _ => rfl) (w_icI (x := 1) rfl (w_this (fun _ => rfl) pz8 ?_))
        refine w_cv (fun _ => rfl) rfl (c_mLetsFrom (d := d) iv3 (hg := 1) (by omega) (by omega) (by omega) (by omega) rx167 (fun h168 iv169 F170 b171 => ⟨rfl, ?_⟩))
        have F172 := fr_ca F6 F170 (fun t ht => by simp at ht ⊢; omega)
        obtain ⟨mw173, Aw173, Bw173, Cw173, xw173, paw173, pbw173, pcw173, a1w173, a2w173, a3w173, a4w173, a5w173, a6w173, a7w173, a8w173, a9w173, aaw173, abw173⟩ := (id b171)
        have hmrw173 := rs_n xw173
        have a0w173 := iv_51h iv169 paw173
        have b0w173 := iv_52h iv169 pbw173
        obtain ⟨sprz174, keez174, rulz174, tpdz174, nxtz174, tokz174, tkaz174, valz174, opnz174, kspz174, kkez174, kruz174, pz174, rz174_0, rz174_1, rz174_2, rz174_3, rz174_4, rz174_5, rz174_6, rz174_7, rz174_8, rz174_9, rz174_10, rz174_11, rz174_12, rz174_13, rz174_14, rz174_15, rz174_16, rz174_17, rz174_18, rz174_19, rz174_20, rz174_21, rz174_22, rz174_23, rz174_24, rz174_25, rz174_26, rz174_27, rz174_28, rz174_29, rz174_30, rz174_31, rz174_32, rz174_33, rz174_34, rz174_35, rz174_36, rz174_37, sz174_0, sz174_1, sz174_2, sz174_3, sz174_4, sz174_5, sz174_6, sz174_7, sz174_8⟩ := (id xw173)
        refine w_al (fun _ => rfl) (w_getf pz174 rfl (fun _ => rfl) (w_icI (x := 59) rfl ?_))
        refine w_ne2 (by omega) (by omega) (by omega) (by omega)  (fun c175 => ?_) (fun c175 => ?_)
        · refine w_run k_708789 (w_al (fun _ => rfl) (w_getf pz174 rfl (fun _ => rfl) ?_))
          refine w_nez2 (by omega) (by omega)  (fun c176 => ?_) (fun c176 => ?_)
          · refine w_run k_708798 (w_al (fun _ => rfl) (w_dup (fun _ => rfl) (w_getf pz174 rfl (fun _ => rfl) (w_icI (x := 1) rfl (w_op (c := w_i (mw173 - 1)) (i_sub mw173 1) (w_putf [.inr (.inl (some 32)), .inr (.inl (some 33)), .inr (.inl (some 34)), .inr (.inl (some 35)), .inr (.inl (some 36)), .inl (w_i (g_mH g)), .inl (w_i (g_mC g)), .inl (w_i sprz174), .inl (w_i keez174), .inl (w_i (g_mnp g)), .inl (w_i rulz174), .inl (w_i (g_mhi g)), .inr (.inl (some 37)), .inr (.inl (some 50)), .inr (.inl (some 51)), .inr (.inl (some 52)), .inr (.inl (some 53)), .inr (.inl (some 54)), .inl (w_i tpdz174), .inl (w_i (g_mnt g)), .inl (w_i nxtz174), .inl (w_i tokz174), .inl (w_i tkaz174), .inl (w_i valz174), .inl (w_i opnz174), .inl (w_i (mw173 - 1)), .inl (w_i rw), .inr (.inl (some 55)), .inr (.inl (some 56)), .inr (.inl (some 57)), .inr (.inl (some 58)), .inr (.inl (some 59)), .inr (.inl (some 60)), .inr (.inl (some 61)), .inr (.inl (some 62)), .inl (w_i kspz174), .inl (w_i kkez174), .inl (w_i kruz174), .inr (.inl (some 63)), .inr (.inl (some 64)), .inr (.inl (some 65)), .inr (.inl (some 66))] pz174 rfl rfl rfl (fun _ => rfl) (fun h178 s177 => ?_)))))))
            have iv179 := is_31 iv169 s177 ⟨_, _, _, _, _, _, _, _, _, _, _, _, _, _, rfl, by omega, by omega, by omega, by omega, by omega, by omega, by omega, by omega, by omega, by omega, by omega, by omega, by omega, by omega, by omega, by omega, by omega, by omega, by omega, by omega, by omega, by omega, by omega, by omega, by omega, by omega, by omega, by omega, by omega, by omega, by omega, by omega, by omega, by omega, by omega, by omega, by omega, by omega⟩
            have F180 := fr_st F172 s177 (by rw [(ow_31 iv169)]; rfl)
            refine w_al (fun _ => rfl) (w_dup (fun _ => rfl) (w_getf s177.2.2.1 rfl (fun _ => rfl) (w_icI (x := 1) rfl (w_opR sub_lt (fun x181 x1810 x1811 x181e => ?_)))))
            refine w_putf [.inr (.inl (some 32)), .inr (.inl (some 33)), .inr (.inl (some 34)), .inr (.inl (some 35)), .inr (.inl (some 36)), .inl (w_i (g_mH g)), .inl (w_i (g_mC g)), .inl (w_i sprz174), .inl (w_i keez174), .inl (w_i (g_mnp g)), .inl (w_i rulz174), .inl (w_i (g_mhi g)), .inr (.inl (some 37)), .inr (.inl (some 50)), .inr (.inl (some 51)), .inr (.inl (some 52)), .inr (.inl (some 53)), .inr (.inl (some 54)), .inl (w_i tpdz174), .inl (w_i (g_mnt g)), .inl (w_i nxtz174), .inl (w_i tokz174), .inl (w_i tkaz174), .inl (w_i valz174), .inl (w_i x181), .inl (w_i (mw173 - 1)), .inl (w_i rw), .inr (.inl (some 55)), .inr (.inl (some 56)), .inr (.inl (some 57)), .inr (.inl (some 58)), .inr (.inl (some 59)), .inr (.inl (some 60)), .inr (.inl (some 61)), .inr (.inl (some 62)), .inl (w_i kspz174), .inl (w_i kkez174), .inl (w_i kruz174), .inr (.inl (some 63)), .inr (.inl (some 64)), .inr (.inl (some 65)), .inr (.inl (some 66))] s177.2.2.1 rfl rfl rfl (fun _ => rfl) (fun h183 s182 => ?_)
            have iv184 := is_31 iv179 s182 ⟨_, _, _, _, _, _, _, _, _, _, _, _, _, _, rfl, by omega, by omega, by omega, by omega, by omega, by omega, by omega, by omega, by omega, by omega, by omega, by omega, by omega, by omega, by omega, by omega, by omega, by omega, by omega, by omega, by omega, by omega, by omega, by omega, by omega, by omega, by omega, by omega, by omega, by omega, by omega, by omega, by omega, by omega, by omega, by omega, by omega, by omega⟩
            have F185 := fr_st F180 s182 (by rw [(ow_31 iv179)]; rfl)
            have hbqw173 := bc_c (C := Cw173) (m := mw173 - 1) (by omega)
            rw [show mw173 - 1 + 1 = mw173 from by omega] at hbqw173
            have hbrw173 := a9w173 (mw173 - 1) (by omega) (by omega)
            refine w_icI (x := 0) rfl (w_ri ?_)
            have m186 := st_fr s177 paw173 (by decide)
            have m187 := st_fr s182 m186 (by decide)
            have m188 := st_fr s177 pbw173 (by decide)
            have m189 := st_fr s182 m188 (by decide)
            have m190 := st_fr s177 pcw173 (by decide)
            have m191 := st_fr s182 m190 (by decide)
            exact k1 h183 iv184 F185 ⟨mw173 - 1, _, _, _, ⟨_, _, _, _, _, _, _, _, _, _, _, _, s182.2.2.1, by omega, by omega, by omega, by omega, by omega, by omega, by omega, by omega, by omega, by omega, by omega, by omega, by omega, by omega, by omega, by omega, by omega, by omega, by omega, by omega, by omega, by omega, by omega, by omega, by omega, by omega, by omega, by omega, by omega, by omega, by omega, by omega, by omega, by omega, by omega, by omega, by omega, by omega, by omega, by omega, by omega, by omega, by omega, by omega, by omega, by omega, by omega⟩, m187, m189, m191, by omega, by omega, by omega, by omega, by omega, by omega, a7w173, (by omega), (fun j j0 j1 => a9w173 j j0 (by omega)), (fun e => absurd e (by omega)), abw173⟩
          · refine w_icI (x := (-1)) wn_1 (w_ri ?_)
            exact k3 h168 iv169 F172
        · refine w_al (fun _ => rfl) (w_getf pz174 rfl (fun _ => rfl) ?_)
          refine w_nez2 (by omega) (by omega)  (fun c192 => ?_) (fun c192 => ?_)
          · refine w_run k_708787 (w_icI (x := (-1)) wn_1 (w_ri ?_))
            exact k3 h168 iv169 F172
          · refine w_icI (x := 2) rfl (w_go (w_run k_708788 (w_ri ?_)))
            exact k2 h168 iv169 F172 ⟨mw173, _, _, _, ⟨_, _, _, _, _, _, _, _, _, _, _, _, pz174, by omega, by omega, by omega, by omega, by omega, by omega, by omega, by omega, by omega, by omega, by omega, by omega, by omega, by omega, by omega, by omega, by omega, by omega, by omega, by omega, by omega, by omega, by omega, by omega, by omega, by omega, by omega, by omega, by omega, by omega, by omega, by omega, by omega, by omega, by omega, by omega, by omega, by omega, by omega, by omega, by omega, by omega, by omega, by omega, by omega, by omega, by omega⟩, paw173, pbw173, pcw173, by omega, by omega, by omega, by omega, by omega, by omega, a7w173, (by omega), (fun j j0 j1 => a9w173 j j0 (by omega)), (fun e => absurd e (by omega)), abw173⟩
      · refine w_al (fun _ => rfl) (w_getf pz8 rfl (fun _ => rfl) (w_icI (x := 41) rfl ?_))
        refine w_eq2 (by omega) (by omega) (by omega) (by omega)  (fun c193 => ?_) (fun c193 => ?_)
        · refine w_run k_708762 ?_
          have rx194 : (∃ m : Int, w_rd g o h2 rw 1 0 m 7 1 (n0 + 1)) := ⟨mw7, _, _, _, ⟨_, _, _, _, _, _, _, _, _, _, _, _, pz8, by omega, by omega, by omega, by omega, by omega, by omega, by omega, by omega, by omega, by omega, by omega, by omega, by omega, by omega, by omega, by omega, by omega, by omega, by omega, by omega, by omega, by omega, by omega, by omega, by omega, by omega, by omega, by omega, by omega, by omega, by omega, by omega, by omega, by omega, by omega, by omega, by omega, by omega, by omega, by omega, by omega, by omega, by omega, by omega, by omega, by omega, by omega⟩, paw7, pbw7, pcw7, by omega, by omega, by omega, by omega, by omega, by omega, a7w7, a8w7, a9w7, (fun e => absurd e (by omega)), abw7⟩
          refine w_al (fun _ => rfl) (w_icI (x := 1) rfl (w_this (fun _ => rfl) pz8 ?_))
          refine w_cv (fun _ => rfl) rfl (c_mLetsFrom (d := d) iv3 (hg := 1) (by omega) (by omega) (by omega) (by omega) rx194 (fun h195 iv196 F197 b198 => ⟨rfl, ?_⟩))
          have F199 := fr_ca F6 F197 (fun t ht => by simp at ht ⊢; omega)
          obtain ⟨mw200, Aw200, Bw200, Cw200, xw200, paw200, pbw200, pcw200, a1w200, a2w200, a3w200, a4w200, a5w200, a6w200, a7w200, a8w200, a9w200, aaw200, abw200⟩ := (id b198)
          have hmrw200 := rs_n xw200
          have a0w200 := iv_51h iv196 paw200
          have b0w200 := iv_52h iv196 pbw200
          obtain ⟨sprz201, keez201, rulz201, tpdz201, nxtz201, tokz201, tkaz201, valz201, opnz201, kspz201, kkez201, kruz201, pz201, rz201_0, rz201_1, rz201_2, rz201_3, rz201_4, rz201_5, rz201_6, rz201_7, rz201_8, rz201_9, rz201_10, rz201_11, rz201_12, rz201_13, rz201_14, rz201_15, rz201_16, rz201_17, rz201_18, rz201_19, rz201_20, rz201_21, rz201_22, rz201_23, rz201_24, rz201_25, rz201_26, rz201_27, rz201_28, rz201_29, rz201_30, rz201_31, rz201_32, rz201_33, rz201_34, rz201_35, rz201_36, rz201_37, sz201_0, sz201_1, sz201_2, sz201_3, sz201_4, sz201_5, sz201_6, sz201_7, sz201_8⟩ := (id xw200)
          refine w_al (fun _ => rfl) (w_getf pz201 rfl (fun _ => rfl) (w_icI (x := 59) rfl ?_))
          refine w_ne2 (by omega) (by omega) (by omega) (by omega)  (fun c202 => ?_) (fun c202 => ?_)
          · refine w_run k_708789 (w_al (fun _ => rfl) (w_getf pz201 rfl (fun _ => rfl) ?_))
            refine w_nez2 (by omega) (by omega)  (fun c203 => ?_) (fun c203 => ?_)
            · refine w_run k_708798 (w_al (fun _ => rfl) (w_dup (fun _ => rfl) (w_getf pz201 rfl (fun _ => rfl) (w_icI (x := 1) rfl (w_op (c := w_i (mw200 - 1)) (i_sub mw200 1) (w_putf [.inr (.inl (some 32)), .inr (.inl (some 33)), .inr (.inl (some 34)), .inr (.inl (some 35)), .inr (.inl (some 36)), .inl (w_i (g_mH g)), .inl (w_i (g_mC g)), .inl (w_i sprz201), .inl (w_i keez201), .inl (w_i (g_mnp g)), .inl (w_i rulz201), .inl (w_i (g_mhi g)), .inr (.inl (some 37)), .inr (.inl (some 50)), .inr (.inl (some 51)), .inr (.inl (some 52)), .inr (.inl (some 53)), .inr (.inl (some 54)), .inl (w_i tpdz201), .inl (w_i (g_mnt g)), .inl (w_i nxtz201), .inl (w_i tokz201), .inl (w_i tkaz201), .inl (w_i valz201), .inl (w_i opnz201), .inl (w_i (mw200 - 1)), .inl (w_i rw), .inr (.inl (some 55)), .inr (.inl (some 56)), .inr (.inl (some 57)), .inr (.inl (some 58)), .inr (.inl (some 59)), .inr (.inl (some 60)), .inr (.inl (some 61)), .inr (.inl (some 62)), .inl (w_i kspz201), .inl (w_i kkez201), .inl (w_i kruz201), .inr (.inl (some 63)), .inr (.inl (some 64)), .inr (.inl (some 65)), .inr (.inl (some 66))] pz201 rfl rfl rfl (fun _ => rfl) (fun h205 s204 => ?_)))))))
              have iv206 := is_31 iv196 s204 ⟨_, _, _, _, _, _, _, _, _, _, _, _, _, _, rfl, by omega, by omega, by omega, by omega, by omega, by omega, by omega, by omega, by omega, by omega, by omega, by omega, by omega, by omega, by omega, by omega, by omega, by omega, by omega, by omega, by omega, by omega, by omega, by omega, by omega, by omega, by omega, by omega, by omega, by omega, by omega, by omega, by omega, by omega, by omega, by omega, by omega, by omega⟩
              have F207 := fr_st F199 s204 (by rw [(ow_31 iv196)]; rfl)
              refine w_al (fun _ => rfl) (w_dup (fun _ => rfl) (w_getf s204.2.2.1 rfl (fun _ => rfl) (w_icI (x := 1) rfl (w_opR sub_lt (fun x208 x2080 x2081 x208e => ?_)))))
              refine w_putf [.inr (.inl (some 32)), .inr (.inl (some 33)), .inr (.inl (some 34)), .inr (.inl (some 35)), .inr (.inl (some 36)), .inl (w_i (g_mH g)), .inl (w_i (g_mC g)), .inl (w_i sprz201), .inl (w_i keez201), .inl (w_i (g_mnp g)), .inl (w_i rulz201), .inl (w_i (g_mhi g)), .inr (.inl (some 37)), .inr (.inl (some 50)), .inr (.inl (some 51)), .inr (.inl (some 52)), .inr (.inl (some 53)), .inr (.inl (some 54)), .inl (w_i tpdz201), .inl (w_i (g_mnt g)), .inl (w_i nxtz201), .inl (w_i tokz201), .inl (w_i tkaz201), .inl (w_i valz201), .inl (w_i x208), .inl (w_i (mw200 - 1)), .inl (w_i rw), .inr (.inl (some 55)), .inr (.inl (some 56)), .inr (.inl (some 57)), .inr (.inl (some 58)), .inr (.inl (some 59)), .inr (.inl (some 60)), .inr (.inl (some 61)), .inr (.inl (some 62)), .inl (w_i kspz201), .inl (w_i kkez201), .inl (w_i kruz201), .inr (.inl (some 63)), .inr (.inl (some 64)), .inr (.inl (some 65)), .inr (.inl (some 66))] s204.2.2.1 rfl rfl rfl (fun _ => rfl) (fun h210 s209 => ?_)
              have iv211 := is_31 iv206 s209 ⟨_, _, _, _, _, _, _, _, _, _, _, _, _, _, rfl, by omega, by omega, by omega, by omega, by omega, by omega, by omega, by omega, by omega, by omega, by omega, by omega, by omega, by omega, by omega, by omega, by omega, by omega, by omega, by omega, by omega, by omega, by omega, by omega, by omega, by omega, by omega, by omega, by omega, by omega, by omega, by omega, by omega, by omega, by omega, by omega, by omega, by omega⟩
              have F212 := fr_st F207 s209 (by rw [(ow_31 iv206)]; rfl)
              have hbqw200 := bc_c (C := Cw200) (m := mw200 - 1) (by omega)
              rw [show mw200 - 1 + 1 = mw200 from by omega] at hbqw200
              have hbrw200 := a9w200 (mw200 - 1) (by omega) (by omega)
              refine w_icI (x := 0) rfl (w_ri ?_)
              have m213 := st_fr s204 paw200 (by decide)
              have m214 := st_fr s209 m213 (by decide)
              have m215 := st_fr s204 pbw200 (by decide)
              have m216 := st_fr s209 m215 (by decide)
              have m217 := st_fr s204 pcw200 (by decide)
              have m218 := st_fr s209 m217 (by decide)
              exact k1 h210 iv211 F212 ⟨mw200 - 1, _, _, _, ⟨_, _, _, _, _, _, _, _, _, _, _, _, s209.2.2.1, by omega, by omega, by omega, by omega, by omega, by omega, by omega, by omega, by omega, by omega, by omega, by omega, by omega, by omega, by omega, by omega, by omega, by omega, by omega, by omega, by omega, by omega, by omega, by omega, by omega, by omega, by omega, by omega, by omega, by omega, by omega, by omega, by omega, by omega, by omega, by omega, by omega, by omega, by omega, by omega, by omega, by omega, by omega, by omega, by omega, by omega, by omega⟩, m214, m216, m218, by omega, by omega, by omega, by omega, by omega, by omega, a7w200, (by omega), (fun j j0 j1 => a9w200 j j0 (by omega)), (fun e => absurd e (by omega)), abw200⟩
            · refine w_icI (x := (-1)) wn_1 (w_ri ?_)
              exact k3 h195 iv196 F199
          · refine w_al (fun _ => rfl) (w_getf pz201 rfl (fun _ => rfl) ?_)
            refine w_nez2 (by omega) (by omega)  (fun c219 => ?_) (fun c219 => ?_)
            · refine w_run k_708787 (w_icI (x := (-1)) wn_1 (w_ri ?_))
              exact k3 h195 iv196 F199
            · refine w_icI (x := 2) rfl (w_go (w_run k_708788 (w_ri ?_)))
              exact k2 h195 iv196 F199 ⟨mw200, _, _, _, ⟨_, _, _, _, _, _, _, _, _, _, _, _, pz201, by omega, by omega, by omega, by omega, by omega, by omega, by omega, by omega, by omega, by omega, by omega, by omega, by omega, by omega, by omega, by omega, by omega, by omega, by omega, by omega, by omega, by omega, by omega, by omega, by omega, by omega, by omega, by omega, by omega, by omega, by omega, by omega, by omega, by omega, by omega, by omega, by omega, by omega, by omega, by omega, by omega, by omega, by omega, by omega, by omega, by omega, by omega⟩, paw200, pbw200, pcw200, by omega, by omega, by omega, by omega, by omega, by omega, a7w200, (by omega), (fun j j0 j1 => a9w200 j j0 (by omega)), (fun e => absurd e (by omega)), abw200⟩
        · refine w_icI (x := (-1)) wn_1 (w_ri ?_)
          exact k3 h2 iv3 F6
    · refine w_il (fun _ => rfl) (w_icI (x := 4) rfl ?_)
      refine w_eq2 (by omega) (by omega) (by omega) (by omega)  (fun c220 => ?_) (fun c220 => ?_)
      · refine w_run k_708695 ?_
        have rx221 : (∃ m : Int, w_rd g o h2 rw 1 0 m 7 1 (n0 + 1)) := ⟨mw7, _, _, _, ⟨_, _, _, _, _, _, _, _, _, _, _, _, pz8, by omega, by omega, by omega, by omega, by omega, by omega, by omega, by omega, by omega, by omega, by omega, by omega, by omega, by omega, by omega, by omega, by omega, by omega, by omega, by omega, by omega, by omega, by omega, by omega, by omega, by omega, by omega, by omega, by omega, by omega, by omega, by omega, by omega, by omega, by omega, by omega, by omega, by omega, by omega, by omega, by omega, by omega, by omega, by omega, by omega, by omega, by omega⟩, paw7, pbw7, pcw7, by omega, by omega, by omega, by omega, by omega, by omega, a7w7, a8w7, a9w7, (fun e => absurd e (by omega)), abw7⟩
        refine w_al (fun _ => rfl) (w_icI (x := 5) rfl (w_this (fun _ => rfl) pz8 ?_))
        refine w_cv (fun _ => rfl) rfl (c_mLetsFrom (d := d) iv3 (hg := 5) (by omega) (by omega) (by omega) (by omega) rx221 (fun h222 iv223 F224 b225 => ⟨rfl, ?_⟩))
        have F226 := fr_ca F6 F224 (fun t ht => by simp at ht ⊢; omega)
        obtain ⟨mw227, Aw227, Bw227, Cw227, xw227, paw227, pbw227, pcw227, a1w227, a2w227, a3w227, a4w227, a5w227, a6w227, a7w227, a8w227, a9w227, aaw227, abw227⟩ := (id b225)
        have hmrw227 := rs_n xw227
        have a0w227 := iv_51h iv223 paw227
        have b0w227 := iv_52h iv223 pbw227
        obtain ⟨sprz228, keez228, rulz228, tpdz228, nxtz228, tokz228, tkaz228, valz228, opnz228, kspz228, kkez228, kruz228, pz228, rz228_0, rz228_1, rz228_2, rz228_3, rz228_4, rz228_5, rz228_6, rz228_7, rz228_8, rz228_9, rz228_10, rz228_11, rz228_12, rz228_13, rz228_14, rz228_15, rz228_16, rz228_17, rz228_18, rz228_19, rz228_20, rz228_21, rz228_22, rz228_23, rz228_24, rz228_25, rz228_26, rz228_27, rz228_28, rz228_29, rz228_30, rz228_31, rz228_32, rz228_33, rz228_34, rz228_35, rz228_36, rz228_37, sz228_0, sz228_1, sz228_2, sz228_3, sz228_4, sz228_5, sz228_6, sz228_7, sz228_8⟩ := (id xw227)
        refine w_al (fun _ => rfl) (w_this (fun _ => rfl) pz228 (w_ca (fun _ => rfl) rfl (w_run k_675840 (w_al (fun _ => rfl) (w_getf pz228 rfl (fun _ => rfl) ?_)))))
        refine w_nez2 (by omega) (by omega)  (fun c229 => ?_) (fun c229 => ?_)
        · refine w_run k_675851 (w_al (fun _ => rfl) (w_getf pz228 rfl (fun _ => rfl) (w_al (fun _ => rfl) (w_getf pz228 rfl (fun _ => rfl) (w_icI (x := 1) rfl (w_op (c := w_i (mw227 - 1)) (i_sub mw227 1) (w_aldI pcw227 (by omega) (by omega) (by omega) ?_)))))))
          obtain ⟨b230, b231⟩ := ag_rg Cw227 (mw227 - 1)
          have e232 := a9w227 (mw227 - 1) (by omega) (by omega)
          refine w_ri ⟨_, rfl, ?_⟩
          refine w_icI (x := 4) rfl ?_
          refine w_eq2 (by omega) (by omega) (by omega) (by omega)  (fun c233 => ?_) (fun c233 => ?_)
          · refine w_run k_708716 (w_icI (x := (-1)) wn_1 (w_ri ?_))
            exact k3 h222 iv223 F226
          · refine w_al (fun _ => rfl) (w_this (fun _ => rfl) pz228 (w_ca (fun _ => rfl) rfl (w_run k_675840 (w_al (fun _ => rfl) (w_getf pz228 rfl (fun _ => rfl) ?_)))))
            refine w_nez2 (by omega) (by omega)  (fun c234 => ?_) (fun c234 => ?_)
            · refine w_run k_675851 (w_al (fun _ => rfl) (w_getf pz228 rfl (fun _ => rfl) (w_al (fun _ => rfl) (w_getf pz228 rfl (fun _ => rfl) (w_icI (x := 1) rfl (w_op (c := w_i (mw227 - 1)) (i_sub mw227 1) (w_aldI pcw227 (by omega) (by omega) (by omega) ?_)))))))
              obtain ⟨b235, b236⟩ := ag_rg Cw227 (mw227 - 1)
              have e237 := a9w227 (mw227 - 1) (by omega) (by omega)
              refine w_ri ⟨_, rfl, ?_⟩
              refine w_icI (x := 5) rfl ?_
              refine w_ne2 (by omega) (by omega) (by omega) (by omega)  (fun c238 => ?_) (fun c238 => ?_)
              · refine w_run k_708726 ?_
                refine w_al (fun _ => rfl) (w_il (fun _ => rfl) (w_this (fun _ => rfl) pz228 (w_cv (fun _ => rfl) rfl (w_run k_679936 (w_al (fun _ => rfl) (w_getf pz228 rfl (fun _ => rfl) (w_al (fun _ => rfl) (w_getf pz228 rfl (fun _ => rfl) (w_il (fun _ => rfl) (w_astI pcw227 (by omega) (by omega) (by omega) (by omega) (by omega) (fun A242 h240 w243 s239 => ?_)))))))))))
                have iv241 := is_53 iv223 s239 ⟨_, rfl⟩
                have F244 := fr_st F226 s239 (by rw [(ow_53 iv223)]; rfl)
                refine w_al (fun _ => rfl) (w_dup (fun _ => rfl) ?_)
                have m245 := st_fr s239 pz228 (by decide)
                refine w_getf m245 rfl (fun _ => rfl) (w_icI (x := 1) rfl (w_op (c := w_i (mw227 + 1)) (i_add mw227 1) (w_putf [.inr (.inl (some 32)), .inr (.inl (some 33)), .inr (.inl (some 34)), .inr (.inl (some 35)), .inr (.inl (some 36)), .inl (w_i (g_mH g)), .inl (w_i (g_mC g)), .inl (w_i sprz228), .inl (w_i keez228), .inl (w_i (g_mnp g)), .inl (w_i rulz228), .inl (w_i (g_mhi g)), .inr (.inl (some 37)), .inr (.inl (some 50)), .inr (.inl (some 51)), .inr (.inl (some 52)), .inr (.inl (some 53)), .inr (.inl (some 54)), .inl (w_i tpdz228), .inl (w_i (g_mnt g)), .inl (w_i nxtz228), .inl (w_i tokz228), .inl (w_i tkaz228), .inl (w_i valz228), .inl (w_i opnz228), .inl (w_i (mw227 + 1)), .inl (w_i rw), .inr (.inl (some 55)), .inr (.inl (some 56)), .inr (.inl (some 57)), .inr (.inl (some 58)), .inr (.inl (some 59)), .inr (.inl (some 60)), .inr (.inl (some 61)), .inr (.inl (some 62)), .inl (w_i kspz228), .inl (w_i kkez228), .inl (w_i kruz228), .inr (.inl (some 63)), .inr (.inl (some 64)), .inr (.inl (some 65)), .inr (.inl (some 66))] m245 rfl rfl rfl (fun _ => rfl) (fun h247 s246 => ?_))))
                have iv248 := is_31 iv241 s246 ⟨_, _, _, _, _, _, _, _, _, _, _, _, _, _, rfl, by omega, by omega, by omega, by omega, by omega, by omega, by omega, by omega, by omega, by omega, by omega, by omega, by omega, by omega, by omega, by omega, by omega, by omega, by omega, by omega, by omega, by omega, by omega, by omega, by omega, by omega, by omega, by omega, by omega, by omega, by omega, by omega, by omega, by omega, by omega, by omega, by omega, by omega⟩
                have F249 := fr_st F244 s246 (by rw [(ow_31 iv241)]; rfl)
                refine w_rv ⟨rfl, ?_⟩
                have hpw227 := bc_put (m := mw227) (v := y160) (by omega) (by omega) w243
                have hhw227 := held_put (m := mw227) (v := y160) (by omega) (by omega) (by omega) (by omega) a9w227 w243
                refine w_icI (x := 1) rfl (w_ri ?_)
                have m250 := st_fr s239 paw227 (by decide)
                have m251 := st_fr s246 m250 (by decide)
                have m252 := st_fr s239 pbw227 (by decide)
                have m253 := st_fr s246 m252 (by decide)
                have m254 := st_fr s246 s239.2.2.1 (by decide)
                exact k0 h247 iv248 F249 ⟨mw227 + 1, _, _, _, ⟨_, _, _, _, _, _, _, _, _, _, _, _, s246.2.2.1, by omega, by omega, by omega, by omega, by omega, by omega, by omega, by omega, by omega, by omega, by omega, by omega, by omega, by omega, by omega, by omega, by omega, by omega, by omega, by omega, by omega, by omega, by omega, by omega, by omega, by omega, by omega, by omega, by omega, by omega, by omega, by omega, by omega, by omega, by omega, by omega, by omega, by omega, by omega, by omega, by omega, by omega, by omega, by omega, by omega, by omega, by omega⟩, m251, m253, m254, by omega, by omega, by omega, by omega, by omega, by omega, a7w227, (by omega), hhw227, (fun e => absurd e (by omega)), abw227⟩
              · refine w_icI (x := (-1)) wn_1 (w_ri ?_)
                exact k3 h222 iv223 F226
            · refine w_icI (x := 0) rfl (w_go (w_run k_675862 (w_ri ⟨_, rfl, ?_⟩)))
              refine w_icI (x := 5) rfl (w_net (by omega) (by omega) (by omega) (by omega) (by omega)  (w_run k_708726 ?_))
              refine w_al (fun _ => rfl) (w_il (fun _ => rfl) (w_this (fun _ => rfl) pz228 (w_cv (fun _ => rfl) rfl (w_run k_679936 (w_al (fun _ => rfl) (w_getf pz228 rfl (fun _ => rfl) (w_al (fun _ => rfl) (w_getf pz228 rfl (fun _ => rfl) (w_il (fun _ => rfl) (w_astI pcw227 (by omega) (by omega) (by omega) (by omega) (by omega) (fun A258 h256 w259 s255 => ?_)))))))))))
              have iv257 := is_53 iv223 s255 ⟨_, rfl⟩
              have F260 := fr_st F226 s255 (by rw [(ow_53 iv223)]; rfl)
              refine w_al (fun _ => rfl) (w_dup (fun _ => rfl) ?_)
              have m261 := st_fr s255 pz228 (by decide)
              refine w_getf m261 rfl (fun _ => rfl) (w_icI (x := 1) rfl (w_op (c := w_i (mw227 + 1)) (i_add mw227 1) (w_putf [.inr (.inl (some 32)), .inr (.inl (some 33)), .inr (.inl (some 34)), .inr (.inl (some 35)), .inr (.inl (some 36)), .inl (w_i (g_mH g)), .inl (w_i (g_mC g)), .inl (w_i sprz228), .inl (w_i keez228), .inl (w_i (g_mnp g)), .inl (w_i rulz228), .inl (w_i (g_mhi g)), .inr (.inl (some 37)), .inr (.inl (some 50)), .inr (.inl (some 51)), .inr (.inl (some 52)), .inr (.inl (some 53)), .inr (.inl (some 54)), .inl (w_i tpdz228), .inl (w_i (g_mnt g)), .inl (w_i nxtz228), .inl (w_i tokz228), .inl (w_i tkaz228), .inl (w_i valz228), .inl (w_i opnz228), .inl (w_i (mw227 + 1)), .inl (w_i rw), .inr (.inl (some 55)), .inr (.inl (some 56)), .inr (.inl (some 57)), .inr (.inl (some 58)), .inr (.inl (some 59)), .inr (.inl (some 60)), .inr (.inl (some 61)), .inr (.inl (some 62)), .inl (w_i kspz228), .inl (w_i kkez228), .inl (w_i kruz228), .inr (.inl (some 63)), .inr (.inl (some 64)), .inr (.inl (some 65)), .inr (.inl (some 66))] m261 rfl rfl rfl (fun _ => rfl) (fun h263 s262 => ?_))))
              have iv264 := is_31 iv257 s262 ⟨_, _, _, _, _, _, _, _, _, _, _, _, _, _, rfl, by omega, by omega, by omega, by omega, by omega, by omega, by omega, by omega, by omega, by omega, by omega, by omega, by omega, by omega, by omega, by omega, by omega, by omega, by omega, by omega, by omega, by omega, by omega, by omega, by omega, by omega, by omega, by omega, by omega, by omega, by omega, by omega, by omega, by omega, by omega, by omega, by omega, by omega⟩
              have F265 := fr_st F260 s262 (by rw [(ow_31 iv257)]; rfl)
              refine w_rv ⟨rfl, ?_⟩
              have hpw227 := bc_put (m := mw227) (v := y160) (by omega) (by omega) w259
              have hhw227 := held_put (m := mw227) (v := y160) (by omega) (by omega) (by omega) (by omega) a9w227 w259
              refine w_icI (x := 1) rfl (w_ri ?_)
              have m266 := st_fr s255 paw227 (by decide)
              have m267 := st_fr s262 m266 (by decide)
              have m268 := st_fr s255 pbw227 (by decide)
              have m269 := st_fr s262 m268 (by decide)
              have m270 := st_fr s262 s255.2.2.1 (by decide)
              exact k0 h263 iv264 F265 ⟨mw227 + 1, _, _, _, ⟨_, _, _, _, _, _, _, _, _, _, _, _, s262.2.2.1, by omega, by omega, by omega, by omega, by omega, by omega, by omega, by omega, by omega, by omega, by omega, by omega, by omega, by omega, by omega, by omega, by omega, by omega, by omega, by omega, by omega, by omega, by omega, by omega, by omega, by omega, by omega, by omega, by omega, by omega, by omega, by omega, by omega, by omega, by omega, by omega, by omega, by omega, by omega, by omega, by omega, by omega, by omega, by omega, by omega, by omega, by omega⟩, m267, m269, m270, by omega, by omega, by omega, by omega, by omega, by omega, a7w227, (by omega), hhw227, (fun e => absurd e (by omega)), abw227⟩
        · refine w_icI (x := 0) rfl (w_go (w_run k_675862 (w_ri ⟨_, rfl, ?_⟩)))
          refine w_icI (x := 4) rfl (w_eqf (by omega) (by omega) (by omega) (by omega) (by omega)  (w_al (fun _ => rfl) (w_this (fun _ => rfl) pz228 (w_ca (fun _ => rfl) rfl (w_run k_675840 (w_al (fun _ => rfl) (w_getf pz228 rfl (fun _ => rfl) (w_nezf (by omega) (by omega) (by omega)  (w_icI (x := 0) rfl (w_go (w_run k_675862 (w_ri ⟨_, rfl, ?_⟩))))))))))))
          refine w_icI (x := 5) rfl (w_net (by omega) (by omega) (by omega) (by omega) (by omega)  (w_run k_708726 ?_))
          refine w_al (fun _ => rfl) (w_il (fun _ => rfl) (w_this (fun _ => rfl) pz228 (w_cv (fun _ => rfl) rfl (w_run k_679936 (w_al (fun _ => rfl) (w_getf pz228 rfl (fun _ => rfl) (w_al (fun _ => rfl) (w_getf pz228 rfl (fun _ => rfl) (w_il (fun _ => rfl) (w_astI pcw227 (by omega) (by omega) (by omega) (by omega) (by omega) (fun A274 h272 w275 s271 => ?_)))))))))))
          have iv273 := is_53 iv223 s271 ⟨_, rfl⟩
          have F276 := fr_st F226 s271 (by rw [(ow_53 iv223)]; rfl)
          refine w_al (fun _ => rfl) (w_dup (fun _ => rfl) ?_)
          have m277 := st_fr s271 pz228 (by decide)
          refine w_getf m277 rfl (fun _ => rfl) (w_icI (x := 1) rfl (w_op (c := w_i (mw227 + 1)) (i_add mw227 1) (w_putf [.inr (.inl (some 32)), .inr (.inl (some 33)), .inr (.inl (some 34)), .inr (.inl (some 35)), .inr (.inl (some 36)), .inl (w_i (g_mH g)), .inl (w_i (g_mC g)), .inl (w_i sprz228), .inl (w_i keez228), .inl (w_i (g_mnp g)), .inl (w_i rulz228), .inl (w_i (g_mhi g)), .inr (.inl (some 37)), .inr (.inl (some 50)), .inr (.inl (some 51)), .inr (.inl (some 52)), .inr (.inl (some 53)), .inr (.inl (some 54)), .inl (w_i tpdz228), .inl (w_i (g_mnt g)), .inl (w_i nxtz228), .inl (w_i tokz228), .inl (w_i tkaz228), .inl (w_i valz228), .inl (w_i opnz228), .inl (w_i (mw227 + 1)), .inl (w_i rw), .inr (.inl (some 55)), .inr (.inl (some 56)), .inr (.inl (some 57)), .inr (.inl (some 58)), .inr (.inl (some 59)), .inr (.inl (some 60)), .inr (.inl (some 61)), .inr (.inl (some 62)), .inl (w_i kspz228), .inl (w_i kkez228), .inl (w_i kruz228), .inr (.inl (some 63)), .inr (.inl (some 64)), .inr (.inl (some 65)), .inr (.inl (some 66))] m277 rfl rfl rfl (fun _ => rfl) (fun h279 s278 => ?_))))
          have iv280 := is_31 iv273 s278 ⟨_, _, _, _, _, _, _, _, _, _, _, _, _, _, rfl, by omega, by omega, by omega, by omega, by omega, by omega, by omega, by omega, by omega, by omega, by omega, by omega, by omega, by omega, by omega, by omega, by omega, by omega, by omega, by omega, by omega, by omega, by omega, by omega, by omega, by omega, by omega, by omega, by omega, by omega, by omega, by omega, by omega, by omega, by omega, by omega, by omega, by omega⟩
          have F281 := fr_st F276 s278 (by rw [(ow_31 iv273)]; rfl)
          refine w_rv ⟨rfl, ?_⟩
          have hpw227 := bc_put (m := mw227) (v := y160) (by omega) (by omega) w275
          have hhw227 := held_put (m := mw227) (v := y160) (by omega) (by omega) (by omega) (by omega) a9w227 w275
          refine w_icI (x := 1) rfl (w_ri ?_)
          have m282 := st_fr s271 paw227 (by decide)
          have m283 := st_fr s278 m282 (by decide)
          have m284 := st_fr s271 pbw227 (by decide)
          have m285 := st_fr s278 m284 (by decide)
          have m286 := st_fr s278 s271.2.2.1 (by decide)
          exact k0 h279 iv280 F281 ⟨mw227 + 1, _, _, _, ⟨_, _, _, _, _, _, _, _, _, _, _, _, s278.2.2.1, by omega, by omega, by omega, by omega, by omega, by omega, by omega, by omega, by omega, by omega, by omega, by omega, by omega, by omega, by omega, by omega, by omega, by omega, by omega, by omega, by omega, by omega, by omega, by omega, by omega, by omega, by omega, by omega, by omega, by omega, by omega, by omega, by omega, by omega, by omega, by omega, by omega, by omega, by omega, by omega, by omega, by omega, by omega, by omega, by omega, by omega, by omega⟩, m283, m285, m286, by omega, by omega, by omega, by omega, by omega, by omega, a7w227, (by omega), hhw227, (fun e => absurd e (by omega)), abw227⟩
      · refine w_il (fun _ => rfl) (w_icI (x := 5) rfl ?_)
        refine w_ne2 (by omega) (by omega) (by omega) (by omega)  (fun c287 => ?_) (fun c287 => ?_)
        · refine w_run k_708718 ?_
          have rx288 : (∃ m : Int, w_rd g o h2 rw 1 0 m 7 1 (n0 + 1)) := ⟨mw7, _, _, _, ⟨_, _, _, _, _, _, _, _, _, _, _, _, pz8, by omega, by omega, by omega, by omega, by omega, by omega, by omega, by omega, by omega, by omega, by omega, by omega, by omega, by omega, by omega, by omega, by omega, by omega, by omega, by omega, by omega, by omega, by omega, by omega, by omega, by omega, by omega, by omega, by omega, by omega, by omega, by omega, by omega, by omega, by omega, by omega, by omega, by omega, by omega, by omega, by omega, by omega, by omega, by omega, by omega, by omega, by omega⟩, paw7, pbw7, pcw7, by omega, by omega, by omega, by omega, by omega, by omega, a7w7, a8w7, a9w7, (fun e => absurd e (by omega)), abw7⟩
          refine w_al (fun _ => rfl) (w_il (fun _ => rfl) ?_)
          refine w_ca (fun _ => rfl) rfl (c_mHeightX (d := (d + 3)) iv3 (n := y160) (by omega) (by omega)   (fun y289 b290 b291 b292 b293 b294 => ⟨_, rfl, ?_⟩))
          refine w_this (fun _ => rfl) pz8 ?_
          refine w_cv (fun _ => rfl) rfl (c_mLetsFrom (d := d) iv3 (hg := y289) (by omega) (by omega) (by omega) (by omega) rx288 (fun h295 iv296 F297 b298 => ⟨rfl, ?_⟩))
          have F299 := fr_ca F6 F297 (fun t ht => by simp at ht ⊢; omega)
          obtain ⟨mw300, Aw300, Bw300, Cw300, xw300, paw300, pbw300, pcw300, a1w300, a2w300, a3w300, a4w300, a5w300, a6w300, a7w300, a8w300, a9w300, aaw300, abw300⟩ := (id b298)
          have hmrw300 := rs_n xw300
          have a0w300 := iv_51h iv296 paw300
          have b0w300 := iv_52h iv296 pbw300
          obtain ⟨sprz301, keez301, rulz301, tpdz301, nxtz301, tokz301, tkaz301, valz301, opnz301, kspz301, kkez301, kruz301, pz301, rz301_0, rz301_1, rz301_2, rz301_3, rz301_4, rz301_5, rz301_6, rz301_7, rz301_8, rz301_9, rz301_10, rz301_11, rz301_12, rz301_13, rz301_14, rz301_15, rz301_16, rz301_17, rz301_18, rz301_19, rz301_20, rz301_21, rz301_22, rz301_23, rz301_24, rz301_25, rz301_26, rz301_27, rz301_28, rz301_29, rz301_30, rz301_31, rz301_32, rz301_33, rz301_34, rz301_35, rz301_36, rz301_37, sz301_0, sz301_1, sz301_2, sz301_3, sz301_4, sz301_5, sz301_6, sz301_7, sz301_8⟩ := (id xw300)
          refine w_al (fun _ => rfl) (w_il (fun _ => rfl) (w_this (fun _ => rfl) pz301 (w_cv (fun _ => rfl) rfl (w_run k_679936 (w_al (fun _ => rfl) (w_getf pz301 rfl (fun _ => rfl) (w_al (fun _ => rfl) (w_getf pz301 rfl (fun _ => rfl) (w_il (fun _ => rfl) (w_astI pcw300 (by omega) (by omega) (by omega) (by omega) (by omega) (fun A305 h303 w306 s302 => ?_)))))))))))
          have iv304 := is_53 iv296 s302 ⟨_, rfl⟩
          have F307 := fr_st F299 s302 (by rw [(ow_53 iv296)]; rfl)
          refine w_al (fun _ => rfl) (w_dup (fun _ => rfl) ?_)
          have m308 := st_fr s302 pz301 (by decide)
          refine w_getf m308 rfl (fun _ => rfl) (w_icI (x := 1) rfl (w_op (c := w_i (mw300 + 1)) (i_add mw300 1) (w_putf [.inr (.inl (some 32)), .inr (.inl (some 33)), .inr (.inl (some 34)), .inr (.inl (some 35)), .inr (.inl (some 36)), .inl (w_i (g_mH g)), .inl (w_i (g_mC g)), .inl (w_i sprz301), .inl (w_i keez301), .inl (w_i (g_mnp g)), .inl (w_i rulz301), .inl (w_i (g_mhi g)), .inr (.inl (some 37)), .inr (.inl (some 50)), .inr (.inl (some 51)), .inr (.inl (some 52)), .inr (.inl (some 53)), .inr (.inl (some 54)), .inl (w_i tpdz301), .inl (w_i (g_mnt g)), .inl (w_i nxtz301), .inl (w_i tokz301), .inl (w_i tkaz301), .inl (w_i valz301), .inl (w_i opnz301), .inl (w_i (mw300 + 1)), .inl (w_i rw), .inr (.inl (some 55)), .inr (.inl (some 56)), .inr (.inl (some 57)), .inr (.inl (some 58)), .inr (.inl (some 59)), .inr (.inl (some 60)), .inr (.inl (some 61)), .inr (.inl (some 62)), .inl (w_i kspz301), .inl (w_i kkez301), .inl (w_i kruz301), .inr (.inl (some 63)), .inr (.inl (some 64)), .inr (.inl (some 65)), .inr (.inl (some 66))] m308 rfl rfl rfl (fun _ => rfl) (fun h310 s309 => ?_))))
          have iv311 := is_31 iv304 s309 ⟨_, _, _, _, _, _, _, _, _, _, _, _, _, _, rfl, by omega, by omega, by omega, by omega, by omega, by omega, by omega, by omega, by omega, by omega, by omega, by omega, by omega, by omega, by omega, by omega, by omega, by omega, by omega, by omega, by omega, by omega, by omega, by omega, by omega, by omega, by omega, by omega, by omega, by omega, by omega, by omega, by omega, by omega, by omega, by omega, by omega, by omega⟩
          have F312 := fr_st F307 s309 (by rw [(ow_31 iv304)]; rfl)
          refine w_rv ⟨rfl, ?_⟩
          have hpw300 := bc_put (m := mw300) (v := y160) (by omega) (by omega) w306
          have hhw300 := held_put (m := mw300) (v := y160) (by omega) (by omega) (by omega) (by omega) a9w300 w306
          refine w_icI (x := 1) rfl (w_ri ?_)
          have m313 := st_fr s302 paw300 (by decide)
          have m314 := st_fr s309 m313 (by decide)
          have m315 := st_fr s302 pbw300 (by decide)
          have m316 := st_fr s309 m315 (by decide)
          have m317 := st_fr s309 s302.2.2.1 (by decide)
          exact k0 h310 iv311 F312 ⟨mw300 + 1, _, _, _, ⟨_, _, _, _, _, _, _, _, _, _, _, _, s309.2.2.1, by omega, by omega, by omega, by omega, by omega, by omega, by omega, by omega, by omega, by omega, by omega, by omega, by omega, by omega, by omega, by omega, by omega, by omega, by omega, by omega, by omega, by omega, by omega, by omega, by omega, by omega, by omega, by omega, by omega, by omega, by omega, by omega, by omega, by omega, by omega, by omega, by omega, by omega, by omega, by omega, by omega, by omega, by omega, by omega, by omega, by omega, by omega⟩, m314, m316, m317, by omega, by omega, by omega, by omega, by omega, by omega, a7w300, (by omega), hhw300, (fun e => absurd e (by omega)), abw300⟩
        · have rx318 : (∃ m : Int, w_rd g o h2 rw 1 0 m 7 1 (n0 + 1)) := ⟨mw7, _, _, _, ⟨_, _, _, _, _, _, _, _, _, _, _, _, pz8, by omega, by omega, by omega, by omega, by omega, by omega, by omega, by omega, by omega, by omega, by omega, by omega, by omega, by omega, by omega, by omega, by omega, by omega, by omega, by omega, by omega, by omega, by omega, by omega, by omega, by omega, by omega, by omega, by omega, by omega, by omega, by omega, by omega, by omega, by omega, by omega, by omega, by omega, by omega, by omega, by omega, by omega, by omega, by omega, by omega, by omega, by omega⟩, paw7, pbw7, pcw7, by omega, by omega, by omega, by omega, by omega, by omega, a7w7, a8w7, a9w7, (fun e => absurd e (by omega)), abw7⟩
          refine w_al (fun _ => rfl) (w_icI (x := 5) rfl (w_this (fun _ => rfl) pz8 ?_))
          refine w_cv (fun _ => rfl) rfl (c_mLetsFrom (d := d) iv3 (hg := 5) (by omega) (by omega) (by omega) (by omega) rx318 (fun h319 iv320 F321 b322 => ⟨rfl, ?_⟩))
          have F323 := fr_ca F6 F321 (fun t ht => by simp at ht ⊢; omega)
          obtain ⟨mw324, Aw324, Bw324, Cw324, xw324, paw324, pbw324, pcw324, a1w324, a2w324, a3w324, a4w324, a5w324, a6w324, a7w324, a8w324, a9w324, aaw324, abw324⟩ := (id b322)
          have hmrw324 := rs_n xw324
          have a0w324 := iv_51h iv320 paw324
          have b0w324 := iv_52h iv320 pbw324
          obtain ⟨sprz325, keez325, rulz325, tpdz325, nxtz325, tokz325, tkaz325, valz325, opnz325, kspz325, kkez325, kruz325, pz325, rz325_0, rz325_1, rz325_2, rz325_3, rz325_4, rz325_5, rz325_6, rz325_7, rz325_8, rz325_9, rz325_10, rz325_11, rz325_12, rz325_13, rz325_14, rz325_15, rz325_16, rz325_17, rz325_18, rz325_19, rz325_20, rz325_21, rz325_22, rz325_23, rz325_24, rz325_25, rz325_26, rz325_27, rz325_28, rz325_29, rz325_30, rz325_31, rz325_32, rz325_33, rz325_34, rz325_35, rz325_36, rz325_37, sz325_0, sz325_1, sz325_2, sz325_3, sz325_4, sz325_5, sz325_6, sz325_7, sz325_8⟩ := (id xw324)
          refine w_al (fun _ => rfl) (w_this (fun _ => rfl) pz325 (w_ca (fun _ => rfl) rfl (w_run k_675840 (w_al (fun _ => rfl) (w_getf pz325 rfl (fun _ => rfl) ?_)))))
          refine w_nez2 (by omega) (by omega)  (fun c326 => ?_) (fun c326 => ?_)
          · refine w_run k_675851 (w_al (fun _ => rfl) (w_getf pz325 rfl (fun _ => rfl) (w_al (fun _ => rfl) (w_getf pz325 rfl (fun _ => rfl) (w_icI (x := 1) rfl (w_op (c := w_i (mw324 - 1)) (i_sub mw324 1) (w_aldI pcw324 (by omega) (by omega) (by omega) ?_)))))))
            obtain ⟨b327, b328⟩ := ag_rg Cw324 (mw324 - 1)
            have e329 := a9w324 (mw324 - 1) (by omega) (by omega)
            refine w_ri ⟨_, rfl, ?_⟩
            refine w_icI (x := 4) rfl ?_
            refine w_eq2 (by omega) (by omega) (by omega) (by omega)  (fun c330 => ?_) (fun c330 => ?_)
            · refine w_run k_708716 (w_icI (x := (-1)) wn_1 (w_ri ?_))
              exact k3 h319 iv320 F323
            · refine w_al (fun _ => rfl) (w_this (fun _ => rfl) pz325 (w_ca (fun _ => rfl) rfl (w_run k_675840 (w_al (fun _ => rfl) (w_getf pz325 rfl (fun _ => rfl) ?_)))))
              refine w_nez2 (by omega) (by omega)  (fun c331 => ?_) (fun c331 => ?_)
              · refine w_run k_675851 (w_al (fun _ => rfl) (w_getf pz325 rfl (fun _ => rfl) (w_al (fun _ => rfl) (w_getf pz325 rfl (fun _ => rfl) (w_icI (x := 1) rfl (w_op (c := w_i (mw324 - 1)) (i_sub mw324 1) (w_aldI pcw324 (by omega) (by omega) (by omega) ?_)))))))
                obtain ⟨b332, b333⟩ := ag_rg Cw324 (mw324 - 1)
                have e334 := a9w324 (mw324 - 1) (by omega) (by omega)
                refine w_ri ⟨_, rfl, ?_⟩
                refine w_icI (x := 5) rfl ?_
                refine w_ne2 (by omega) (by omega) (by omega) (by omega)  (fun c335 => ?_) (fun c335 => ?_)
                · refine w_run k_708726 ?_
                  refine w_al (fun _ => rfl) (w_il (fun _ => rfl) (w_this (fun _ => rfl) pz325 (w_cv (fun _ => rfl) rfl (w_run k_679936 (w_al (fun _ => rfl) (w_getf pz325 rfl (fun _ => rfl) (w_al (fun _ => rfl) (w_getf pz325 rfl (fun _ => rfl) (w_il (fun _ => rfl) (w_astI pcw324 (by omega) (by omega) (by omega) (by omega) (by omega) (fun A339 h337 w340 s336 => ?_)))))))))))
                  have iv338 := is_53 iv320 s336 ⟨_, rfl⟩
                  have F341 := fr_st F323 s336 (by rw [(ow_53 iv320)]; rfl)
                  refine w_al (fun _ => rfl) (w_dup (fun _ => rfl) ?_)
                  have m342 := st_fr s336 pz325 (by decide)
                  refine w_getf m342 rfl (fun _ => rfl) (w_icI (x := 1) rfl (w_op (c := w_i (mw324 + 1)) (i_add mw324 1) (w_putf [.inr (.inl (some 32)), .inr (.inl (some 33)), .inr (.inl (some 34)), .inr (.inl (some 35)), .inr (.inl (some 36)), .inl (w_i (g_mH g)), .inl (w_i (g_mC g)), .inl (w_i sprz325), .inl (w_i keez325), .inl (w_i (g_mnp g)), .inl (w_i rulz325), .inl (w_i (g_mhi g)), .inr (.inl (some 37)), .inr (.inl (some 50)), .inr (.inl (some 51)), .inr (.inl (some 52)), .inr (.inl (some 53)), .inr (.inl (some 54)), .inl (w_i tpdz325), .inl (w_i (g_mnt g)), .inl (w_i nxtz325), .inl (w_i tokz325), .inl (w_i tkaz325), .inl (w_i valz325), .inl (w_i opnz325), .inl (w_i (mw324 + 1)), .inl (w_i rw), .inr (.inl (some 55)), .inr (.inl (some 56)), .inr (.inl (some 57)), .inr (.inl (some 58)), .inr (.inl (some 59)), .inr (.inl (some 60)), .inr (.inl (some 61)), .inr (.inl (some 62)), .inl (w_i kspz325), .inl (w_i kkez325), .inl (w_i kruz325), .inr (.inl (some 63)), .inr (.inl (some 64)), .inr (.inl (some 65)), .inr (.inl (some 66))] m342 rfl rfl rfl (fun _ => rfl) (fun h344 s343 => ?_))))
                  have iv345 := is_31 iv338 s343 ⟨_, _, _, _, _, _, _, _, _, _, _, _, _, _, rfl, by omega, by omega, by omega, by omega, by omega, by omega, by omega, by omega, by omega, by omega, by omega, by omega, by omega, by omega, by omega, by omega, by omega, by omega, by omega, by omega, by omega, by omega, by omega, by omega, by omega, by omega, by omega, by omega, by omega, by omega, by omega, by omega, by omega, by omega, by omega, by omega, by omega, by omega⟩
                  have F346 := fr_st F341 s343 (by rw [(ow_31 iv338)]; rfl)
                  refine w_rv ⟨rfl, ?_⟩
                  have hpw324 := bc_put (m := mw324) (v := y160) (by omega) (by omega) w340
                  have hhw324 := held_put (m := mw324) (v := y160) (by omega) (by omega) (by omega) (by omega) a9w324 w340
                  refine w_icI (x := 1) rfl (w_ri ?_)
                  have m347 := st_fr s336 paw324 (by decide)
                  have m348 := st_fr s343 m347 (by decide)
                  have m349 := st_fr s336 pbw324 (by decide)
                  have m350 := st_fr s343 m349 (by decide)
                  have m351 := st_fr s343 s336.2.2.1 (by decide)
                  exact k0 h344 iv345 F346 ⟨mw324 + 1, _, _, _, ⟨_, _, _, _, _, _, _, _, _, _, _, _, s343.2.2.1, by omega, by omega, by omega, by omega, by omega, by omega, by omega, by omega, by omega, by omega, by omega, by omega, by omega, by omega, by omega, by omega, by omega, by omega, by omega, by omega, by omega, by omega, by omega, by omega, by omega, by omega, by omega, by omega, by omega, by omega, by omega, by omega, by omega, by omega, by omega, by omega, by omega, by omega, by omega, by omega, by omega, by omega, by omega, by omega, by omega, by omega, by omega⟩, m348, m350, m351, by omega, by omega, by omega, by omega, by omega, by omega, a7w324, (by omega), hhw324, (fun e => absurd e (by omega)), abw324⟩
                · refine w_icI (x := (-1)) wn_1 (w_ri ?_)
                  exact k3 h319 iv320 F323
              · refine w_icI (x := 0) rfl (w_go (w_run k_675862 (w_ri ⟨_, rfl, ?_⟩)))
                refine w_icI (x := 5) rfl (w_net (by omega) (by omega) (by omega) (by omega) (by omega)  (w_run k_708726 ?_))
                refine w_al (fun _ => rfl) (w_il (fun _ => rfl) (w_this (fun _ => rfl) pz325 (w_cv (fun _ => rfl) rfl (w_run k_679936 (w_al (fun _ => rfl) (w_getf pz325 rfl (fun _ => rfl) (w_al (fun _ => rfl) (w_getf pz325 rfl (fun _ => rfl) (w_il (fun _ => rfl) (w_astI pcw324 (by omega) (by omega) (by omega) (by omega) (by omega) (fun A355 h353 w356 s352 => ?_)))))))))))
                have iv354 := is_53 iv320 s352 ⟨_, rfl⟩
                have F357 := fr_st F323 s352 (by rw [(ow_53 iv320)]; rfl)
                refine w_al (fun _ => rfl) (w_dup (fun _ => rfl) ?_)
                have m358 := st_fr s352 pz325 (by decide)
                refine w_getf m358 rfl (fun _ => rfl) (w_icI (x := 1) rfl (w_op (c := w_i (mw324 + 1)) (i_add mw324 1) (w_putf [.inr (.inl (some 32)), .inr (.inl (some 33)), .inr (.inl (some 34)), .inr (.inl (some 35)), .inr (.inl (some 36)), .inl (w_i (g_mH g)), .inl (w_i (g_mC g)), .inl (w_i sprz325), .inl (w_i keez325), .inl (w_i (g_mnp g)), .inl (w_i rulz325), .inl (w_i (g_mhi g)), .inr (.inl (some 37)), .inr (.inl (some 50)), .inr (.inl (some 51)), .inr (.inl (some 52)), .inr (.inl (some 53)), .inr (.inl (some 54)), .inl (w_i tpdz325), .inl (w_i (g_mnt g)), .inl (w_i nxtz325), .inl (w_i tokz325), .inl (w_i tkaz325), .inl (w_i valz325), .inl (w_i opnz325), .inl (w_i (mw324 + 1)), .inl (w_i rw), .inr (.inl (some 55)), .inr (.inl (some 56)), .inr (.inl (some 57)), .inr (.inl (some 58)), .inr (.inl (some 59)), .inr (.inl (some 60)), .inr (.inl (some 61)), .inr (.inl (some 62)), .inl (w_i kspz325), .inl (w_i kkez325), .inl (w_i kruz325), .inr (.inl (some 63)), .inr (.inl (some 64)), .inr (.inl (some 65)), .inr (.inl (some 66))] m358 rfl rfl rfl (fun _ => rfl) (fun h360 s359 => ?_))))
                have iv361 := is_31 iv354 s359 ⟨_, _, _, _, _, _, _, _, _, _, _, _, _, _, rfl, by omega, by omega, by omega, by omega, by omega, by omega, by omega, by omega, by omega, by omega, by omega, by omega, by omega, by omega, by omega, by omega, by omega, by omega, by omega, by omega, by omega, by omega, by omega, by omega, by omega, by omega, by omega, by omega, by omega, by omega, by omega, by omega, by omega, by omega, by omega, by omega, by omega, by omega⟩
                have F362 := fr_st F357 s359 (by rw [(ow_31 iv354)]; rfl)
                refine w_rv ⟨rfl, ?_⟩
                have hpw324 := bc_put (m := mw324) (v := y160) (by omega) (by omega) w356
                have hhw324 := held_put (m := mw324) (v := y160) (by omega) (by omega) (by omega) (by omega) a9w324 w356
                refine w_icI (x := 1) rfl (w_ri ?_)
                have m363 := st_fr s352 paw324 (by decide)
                have m364 := st_fr s359 m363 (by decide)
                have m365 := st_fr s352 pbw324 (by decide)
                have m366 := st_fr s359 m365 (by decide)
                have m367 := st_fr s359 s352.2.2.1 (by decide)
                exact k0 h360 iv361 F362 ⟨mw324 + 1, _, _, _, ⟨_, _, _, _, _, _, _, _, _, _, _, _, s359.2.2.1, by omega, by omega, by omega, by omega, by omega, by omega, by omega, by omega, by omega, by omega, by omega, by omega, by omega, by omega, by omega, by omega, by omega, by omega, by omega, by omega, by omega, by omega, by omega, by omega, by omega, by omega, by omega, by omega, by omega, by omega, by omega, by omega, by omega, by omega, by omega, by omega, by omega, by omega, by omega, by omega, by omega, by omega, by omega, by omega, by omega, by omega, by omega⟩, m364, m366, m367, by omega, by omega, by omega, by omega, by omega, by omega, a7w324, (by omega), hhw324, (fun e => absurd e (by omega)), abw324⟩
          · refine w_icI (x := 0) rfl (w_go (w_run k_675862 (w_ri ⟨_, rfl, ?_⟩)))
            refine w_icI (x := 4) rfl (w_eqf (by omega) (by omega) (by omega) (by omega) (by omega)  (w_al (fun _ => rfl) (w_this (fun _ => rfl) pz325 (w_ca (fun _ => rfl) rfl (w_run k_675840 (w_al (fun _ => rfl) (w_getf pz325 rfl (fun _ => rfl) (w_nezf (by omega) (by omega) (by omega)  (w_icI (x := 0) rfl (w_go (w_run k_675862 (w_ri ⟨_, rfl, ?_⟩))))))))))))
            refine w_icI (x := 5) rfl (w_net (by omega) (by omega) (by omega) (by omega) (by omega)  (w_run k_708726 ?_))
            refine w_al (fun _ => rfl) (w_il (fun _ => rfl) (w_this (fun _ => rfl) pz325 (w_cv (fun _ => rfl) rfl (w_run k_679936 (w_al (fun _ => rfl) (w_getf pz325 rfl (fun _ => rfl) (w_al (fun _ => rfl) (w_getf pz325 rfl (fun _ => rfl) (w_il (fun _ => rfl) (w_astI pcw324 (by omega) (by omega) (by omega) (by omega) (by omega) (fun A371 h369 w372 s368 => ?_)))))))))))
            have iv370 := is_53 iv320 s368 ⟨_, rfl⟩
            have F373 := fr_st F323 s368 (by rw [(ow_53 iv320)]; rfl)
            refine w_al (fun _ => rfl) (w_dup (fun _ => rfl) ?_)
            have m374 := st_fr s368 pz325 (by decide)
            refine w_getf m374 rfl (fun _ => rfl) (w_icI (x := 1) rfl (w_op (c := w_i (mw324 + 1)) (i_add mw324 1) (w_putf [.inr (.inl (some 32)), .inr (.inl (some 33)), .inr (.inl (some 34)), .inr (.inl (some 35)), .inr (.inl (some 36)), .inl (w_i (g_mH g)), .inl (w_i (g_mC g)), .inl (w_i sprz325), .inl (w_i keez325), .inl (w_i (g_mnp g)), .inl (w_i rulz325), .inl (w_i (g_mhi g)), .inr (.inl (some 37)), .inr (.inl (some 50)), .inr (.inl (some 51)), .inr (.inl (some 52)), .inr (.inl (some 53)), .inr (.inl (some 54)), .inl (w_i tpdz325), .inl (w_i (g_mnt g)), .inl (w_i nxtz325), .inl (w_i tokz325), .inl (w_i tkaz325), .inl (w_i valz325), .inl (w_i opnz325), .inl (w_i (mw324 + 1)), .inl (w_i rw), .inr (.inl (some 55)), .inr (.inl (some 56)), .inr (.inl (some 57)), .inr (.inl (some 58)), .inr (.inl (some 59)), .inr (.inl (some 60)), .inr (.inl (some 61)), .inr (.inl (some 62)), .inl (w_i kspz325), .inl (w_i kkez325), .inl (w_i kruz325), .inr (.inl (some 63)), .inr (.inl (some 64)), .inr (.inl (some 65)), .inr (.inl (some 66))] m374 rfl rfl rfl (fun _ => rfl) (fun h376 s375 => ?_))))
            have iv377 := is_31 iv370 s375 ⟨_, _, _, _, _, _, _, _, _, _, _, _, _, _, rfl, by omega, by omega, by omega, by omega, by omega, by omega, by omega, by omega, by omega, by omega, by omega, by omega, by omega, by omega, by omega, by omega, by omega, by omega, by omega, by omega, by omega, by omega, by omega, by omega, by omega, by omega, by omega, by omega, by omega, by omega, by omega, by omega, by omega, by omega, by omega, by omega, by omega, by omega⟩
            have F378 := fr_st F373 s375 (by rw [(ow_31 iv370)]; rfl)
            refine w_rv ⟨rfl, ?_⟩
            have hpw324 := bc_put (m := mw324) (v := y160) (by omega) (by omega) w372
            have hhw324 := held_put (m := mw324) (v := y160) (by omega) (by omega) (by omega) (by omega) a9w324 w372
            refine w_icI (x := 1) rfl (w_ri ?_)
            have m379 := st_fr s368 paw324 (by decide)
            have m380 := st_fr s375 m379 (by decide)
            have m381 := st_fr s368 pbw324 (by decide)
            have m382 := st_fr s375 m381 (by decide)
            have m383 := st_fr s375 s368.2.2.1 (by decide)
            exact k0 h376 iv377 F378 ⟨mw324 + 1, _, _, _, ⟨_, _, _, _, _, _, _, _, _, _, _, _, s375.2.2.1, by omega, by omega, by omega, by omega, by omega, by omega, by omega, by omega, by omega, by omega, by omega, by omega, by omega, by omega, by omega, by omega, by omega, by omega, by omega, by omega, by omega, by omega, by omega, by omega, by omega, by omega, by omega, by omega, by omega, by omega, by omega, by omega, by omega, by omega, by omega, by omega, by omega, by omega, by omega, by omega, by omega, by omega, by omega, by omega, by omega, by omega, by omega⟩, m380, m382, m383, by omega, by omega, by omega, by omega, by omega, by omega, a7w324, (by omega), hhw324, (fun e => absurd e (by omega)), abw324⟩
theorem k_712726 : m_cg 712726 = g_174_22 := rfl
theorem k_712737 : m_cg 712737 = g_174_33 := rfl
theorem k_712748 : m_cg 712748 = g_174_44 := rfl
theorem k_712761 : m_cg 712761 = g_174_57 := rfl
theorem k_712779 : m_cg 712779 = g_174_75 := rfl
theorem k_712789 : m_cg 712789 = g_174_85 := rfl
theorem k_712800 : m_cg 712800 = g_174_96 := rfl
theorem k_712788 : m_cg 712788 = g_174_84 := rfl
theorem k_712762 : m_cg 712762 = g_174_58 := rfl
theorem k_712741 : m_cg 712741 = g_174_37 := rfl
theorem k_712775 : m_cg 712775 = g_174_71 := rfl
theorem l_mReadsRow_22 {g : w_G} {o : w_O} {h0 : m_H} {d : Nat} {Q : Option m_V → m_H → Prop} {rw : Int} (w0_ : 3 * g_mnt g ≤ rw) (w1_ : rw < 18) (k0 : ∀ h2 : m_H, w_Inv g o h2 → w_fr o [31, 51, 52, 53] h0 h2 → w_rr g o h2 1 (rw + 1) → Q (some (.inl (w_i 1))) h2) (k1 : ∀ h2 : m_H, w_Inv g o h2 → w_fr o [31, 51, 52, 53] h0 h2 → w_rr g o h2 0 (rw + 1) → Q (some (.inl (w_i 0))) h2) : ∀ (k : Nat) (h : m_H) (wo n0 : Int) (x2_ : m_V) (x3_ : m_V) (iv : w_Inv g o h) (F : w_fr o [31, 51, 52, 53] h0 h) (rq : (∃ m : Int, w_rd g o h rw (1 - wo) 1 m 7 0 n0)) (wo_lo : -2147483648 ≤ wo) (wo_hi : wo ≤ 2147483647) (o0_ : 0 ≤ wo) (o1_ : wo ≤ 1) (n0_ : 0 ≤ n0) (n1_ : n0 ≤ 160), 160 - n0 < (k : Int) → wp (d + 5) 712726 [.inr (.inl (some 31)), .inl (w_i wo), x2_, x3_] [] h Q := by
  intro k
  induction k with
  | zero => intro h wo n0 x2_ x3_ iv F rq wo_lo wo_hi o0_ o1_ n0_ n1_ hk; exact absurd hk (by omega)
  | succ k ih =>
    intro h wo n0 x2_ x3_ iv F rq wo_lo wo_hi o0_ o1_ n0_ n1_ hk
    have W := iv_wm iv
    refine w_run k_712726 (w_il (fun _ => rfl) ?_)
    refine w_eqz2 (by omega) (by omega)  (fun c1 => ?_) (fun c1 => ?_)
    · refine w_run k_712737 ?_
      have rq2 := rq
      rw [show (1 : Int) - wo = 1 from by omega] at rq2
      refine w_al (fun _ => rfl) ?_
      obtain ⟨_, m3, spr3, kee3, rul3, tpd3, nxt3, tok3, tka3, val3, opn3, hm3, row3, ksp3, kke3, kru3, rfl, l3_spr, u3_spr, l3_kee, u3_kee, l3_rul, u3_rul, l3_tpd, u3_tpd, l3_nxt, u3_nxt, l3_tok, u3_tok, l3_tka, u3_tka, l3_val, u3_val, l3_opn, u3_opn, l3_hm, u3_hm, l3_row, u3_row, l3_ksp, u3_ksp, l3_kke, u3_kke, l3_kru, u3_kru, f3_0, f3_1, f3_2, f3_3, f3_4, f3_5, f3_6, f3_7, f3_8, f3_9⟩ := iv_31 iv
      refine w_this (fun _ => rfl) m3 ?_
      refine w_ca (fun _ => rfl) rfl (c_mBehind (d := d) iv    rq2 (fun h4 iv5 F6 b7 => ⟨_, rfl, ?_⟩) (fun h8 iv9 F10 b11 => ⟨_, rfl, ?_⟩) (fun h12 iv13 F14 b15 => ⟨_, rfl, ?_⟩) (fun h16 iv17 F18 => ⟨_, rfl, ?_⟩))
      · have F19 := fr_ca F F6 (fun t ht => by exact ht)
        refine w_is (fun _ => rfl) (w_il (fun _ => rfl) (w_gezt (by omega) (by omega) (by omega)  (w_run k_712748 (w_il (fun _ => rfl) (w_nezf (by omega) (by omega) (by omega)  (w_il (fun _ => rfl) (w_icI (x := 2) rfl (w_net (by omega) (by omega) (by omega) (by omega) (by omega)  (w_run k_712761 (w_icI (x := 0) rfl (w_is (fun _ => rfl) (w_il (fun _ => rfl) (w_eqzt (by omega) (by omega) (by omega)  (w_run k_712779 (w_il (fun _ => rfl) (w_icI (x := 1) rfl (w_nef (by omega) (by omega) (by omega) (by omega) (by omega)  (w_icI (x := 1) rfl (w_go (w_run k_712789 (w_is (fun _ => rfl) ?_)))))))))))))))))))))
        obtain ⟨md20, d20⟩ := (id b7)
        refine w_al (fun _ => rfl) ?_
        obtain ⟨_, m21, spr21, kee21, rul21, tpd21, nxt21, tok21, tka21, val21, opn21, hm21, row21, ksp21, kke21, kru21, rfl, l21_spr, u21_spr, l21_kee, u21_kee, l21_rul, u21_rul, l21_tpd, u21_tpd, l21_nxt, u21_nxt, l21_tok, u21_tok, l21_tka, u21_tka, l21_val, u21_val, l21_opn, u21_opn, l21_hm, u21_hm, l21_row, u21_row, l21_ksp, u21_ksp, l21_kke, u21_kke, l21_kru, u21_kru, f21_0, f21_1, f21_2, f21_3, f21_4, f21_5, f21_6, f21_7, f21_8, f21_9⟩ := iv_31 iv5
        refine w_this (fun _ => rfl) m21 ?_
        refine w_cv (fun _ => rfl) rfl (c_mReads (d := (d + 2)) iv5    (rd_w d20) (fun h22 iv23 F24 b25 => ⟨rfl, ?_⟩))
        have F26 := fr_ca F19 F24 (fun t ht => by simp at ht ⊢; omega)
        have d20n := rd_rs iv5 d20 F24 rfl b25
        have hnd20n := rs_n (rd_w d20n)
        refine w_il (fun _ => rfl) (w_eqzt (by omega) (by omega) (by omega)  (w_run k_712800 (w_go ?_)))
        exact ih h22 1 (n0 + 1) (.inl (w_i 1)) (.inl (w_i 0)) iv23 F26 (by rw [show (1 : Int) - 1 = 0 from by omega]; exact ⟨md20, d20n⟩) (by omega) (by omega)  (by omega) (by omega) (by omega) (by omega) (by omega)
      · have F27 := fr_ca F F10 (fun t ht => by exact ht)
        refine w_is (fun _ => rfl) (w_il (fun _ => rfl) (w_gezt (by omega) (by omega) (by omega)  (w_run k_712748 (w_il (fun _ => rfl) (w_nezf (by omega) (by omega) (by omega)  (w_il (fun _ => rfl) (w_icI (x := 2) rfl (w_net (by omega) (by omega) (by omega) (by omega) (by omega)  (w_run k_712761 (w_icI (x := 0) rfl (w_is (fun _ => rfl) (w_il (fun _ => rfl) (w_eqzt (by omega) (by omega) (by omega)  (w_run k_712779 (w_il (fun _ => rfl) (w_icI (x := 1) rfl (w_net (by omega) (by omega) (by omega) (by omega) (by omega)  (w_run k_712788 (w_icI (x := 0) rfl (w_is (fun _ => rfl) ?_))))))))))))))))))))
        obtain ⟨md28, d28⟩ := (id b11)
        refine w_al (fun _ => rfl) ?_
        obtain ⟨_, m29, spr29, kee29, rul29, tpd29, nxt29, tok29, tka29, val29, opn29, hm29, row29, ksp29, kke29, kru29, rfl, l29_spr, u29_spr, l29_kee, u29_kee, l29_rul, u29_rul, l29_tpd, u29_tpd, l29_nxt, u29_nxt, l29_tok, u29_tok, l29_tka, u29_tka, l29_val, u29_val, l29_opn, u29_opn, l29_hm, u29_hm, l29_row, u29_row, l29_ksp, u29_ksp, l29_kke, u29_kke, l29_kru, u29_kru, f29_0, f29_1, f29_2, f29_3, f29_4, f29_5, f29_6, f29_7, f29_8, f29_9⟩ := iv_31 iv9
        refine w_this (fun _ => rfl) m29 ?_
        refine w_cv (fun _ => rfl) rfl (c_mReads (d := (d + 2)) iv9    (rd_w d28) (fun h30 iv31 F32 b33 => ⟨rfl, ?_⟩))
        have F34 := fr_ca F27 F32 (fun t ht => by simp at ht ⊢; omega)
        have d28n := rd_rs iv9 d28 F32 rfl b33
        have hnd28n := rs_n (rd_w d28n)
        refine w_il (fun _ => rfl) (w_eqzt (by omega) (by omega) (by omega)  (w_run k_712800 (w_go ?_)))
        exact ih h30 0 (n0 + 1) (.inl (w_i 0)) (.inl (w_i 0)) iv31 F34 (by rw [show (1 : Int) - 0 = 1 from by omega]; exact ⟨md28, d28n⟩) (by omega) (by omega)  (by omega) (by omega) (by omega) (by omega) (by omega)
      · have F35 := fr_ca F F14 (fun t ht => by exact ht)
        refine w_is (fun _ => rfl) (w_il (fun _ => rfl) (w_gezt (by omega) (by omega) (by omega)  (w_run k_712748 (w_il (fun _ => rfl) (w_nezf (by omega) (by omega) (by omega)  (w_il (fun _ => rfl) (w_icI (x := 2) rfl (w_nef (by omega) (by omega) (by omega) (by omega) (by omega)  (w_icI (x := 1) rfl (w_go (w_run k_712762 (w_is (fun _ => rfl) (w_il (fun _ => rfl) (w_eqzt (by omega) (by omega) (by omega)  (w_run k_712779 (w_il (fun _ => rfl) (w_icI (x := 1) rfl (w_net (by omega) (by omega) (by omega) (by omega) (by omega)  (w_run k_712788 (w_icI (x := 0) rfl (w_is (fun _ => rfl) ?_)))))))))))))))))))))
        obtain ⟨md36, d36⟩ := (id b15)
        refine w_al (fun _ => rfl) ?_
        obtain ⟨_, m37, spr37, kee37, rul37, tpd37, nxt37, tok37, tka37, val37, opn37, hm37, row37, ksp37, kke37, kru37, rfl, l37_spr, u37_spr, l37_kee, u37_kee, l37_rul, u37_rul, l37_tpd, u37_tpd, l37_nxt, u37_nxt, l37_tok, u37_tok, l37_tka, u37_tka, l37_val, u37_val, l37_opn, u37_opn, l37_hm, u37_hm, l37_row, u37_row, l37_ksp, u37_ksp, l37_kke, u37_kke, l37_kru, u37_kru, f37_0, f37_1, f37_2, f37_3, f37_4, f37_5, f37_6, f37_7, f37_8, f37_9⟩ := iv_31 iv13
        refine w_this (fun _ => rfl) m37 ?_
        refine w_cv (fun _ => rfl) rfl (c_mReads (d := (d + 2)) iv13    (rd_w d36) (fun h38 iv39 F40 b41 => ⟨rfl, ?_⟩))
        have F42 := fr_ca F35 F40 (fun t ht => by simp at ht ⊢; omega)
        have d36n := rd_rs iv13 d36 F40 rfl b41
        have hnd36n := rs_n (rd_w d36n)
        refine w_il (fun _ => rfl) (w_eqzf (by omega) (by omega) (by omega)  (w_icI (x := 1) rfl (w_rz (by decide) ?_)))
        exact k0 h38 iv39 F42 (rd_rr d36n)
      · have F43 := fr_ca F F18 (fun t ht => by exact ht)
        refine w_is (fun _ => rfl) (w_il (fun _ => rfl) (w_gezf (by omega) (by omega) (by omega)  (w_icI (x := 0) rfl (w_rz (by decide) ?_))))
        exact k1 h16 iv17 F43 (fun e => absurd e (by decide))
    · have rq44 := rq
      rw [show (1 : Int) - wo = 0 from by omega] at rq44
      refine w_al (fun _ => rfl) ?_
      obtain ⟨_, m45, spr45, kee45, rul45, tpd45, nxt45, tok45, tka45, val45, opn45, hm45, row45, ksp45, kke45, kru45, rfl, l45_spr, u45_spr, l45_kee, u45_kee, l45_rul, u45_rul, l45_tpd, u45_tpd, l45_nxt, u45_nxt, l45_tok, u45_tok, l45_tka, u45_tka, l45_val, u45_val, l45_opn, u45_opn, l45_hm, u45_hm, l45_row, u45_row, l45_ksp, u45_ksp, l45_kke, u45_kke, l45_kru, u45_kru, f45_0, f45_1, f45_2, f45_3, f45_4, f45_5, f45_6, f45_7, f45_8, f45_9⟩ := iv_31 iv
      refine w_this (fun _ => rfl) m45 ?_
      refine w_ca (fun _ => rfl) rfl (c_mAhead (d := d) iv    rq44 (fun h46 iv47 F48 b49 => ⟨_, rfl, ?_⟩) (fun h50 iv51 F52 b53 => ⟨_, rfl, ?_⟩) (fun h54 iv55 F56 => ⟨_, rfl, ?_⟩))
      · have F57 := fr_ca F F48 (fun t ht => by exact ht)
        refine w_go (w_run k_712741 (w_is (fun _ => rfl) (w_il (fun _ => rfl) (w_gezt (by omega) (by omega) (by omega)  (w_run k_712748 (w_il (fun _ => rfl) ?_))))))
        refine w_nez2 (by omega) (by omega)  (fun c58 => ?_) (fun c58 => ?_)
        · refine w_run k_712761 (w_icI (x := 0) rfl (w_is (fun _ => rfl) (w_il (fun _ => rfl) ?_)))
          refine w_eqz2 (by omega) (by omega)  (fun c59 => ?_) (fun c59 => ?_)
          · refine w_run k_712779 (w_il (fun _ => rfl) (w_icI (x := 1) rfl (w_nef (by omega) (by omega) (by omega) (by omega) (by omega)  (w_icI (x := 1) rfl (w_go (w_run k_712789 (w_is (fun _ => rfl) ?_)))))))
            obtain ⟨md60, d60⟩ := (id b49)
            refine w_al (fun _ => rfl) ?_
            obtain ⟨_, m61, spr61, kee61, rul61, tpd61, nxt61, tok61, tka61, val61, opn61, hm61, row61, ksp61, kke61, kru61, rfl, l61_spr, u61_spr, l61_kee, u61_kee, l61_rul, u61_rul, l61_tpd, u61_tpd, l61_nxt, u61_nxt, l61_tok, u61_tok, l61_tka, u61_tka, l61_val, u61_val, l61_opn, u61_opn, l61_hm, u61_hm, l61_row, u61_row, l61_ksp, u61_ksp, l61_kke, u61_kke, l61_kru, u61_kru, f61_0, f61_1, f61_2, f61_3, f61_4, f61_5, f61_6, f61_7, f61_8, f61_9⟩ := iv_31 iv47
            refine w_this (fun _ => rfl) m61 ?_
            refine w_cv (fun _ => rfl) rfl (c_mReads (d := (d + 2)) iv47    (rd_w d60) (fun h62 iv63 F64 b65 => ⟨rfl, ?_⟩))
            have F66 := fr_ca F57 F64 (fun t ht => by simp at ht ⊢; omega)
            have d60n := rd_rs iv47 d60 F64 rfl b65
            have hnd60n := rs_n (rd_w d60n)
            refine w_il (fun _ => rfl) (w_eqzt (by omega) (by omega) (by omega)  (w_run k_712800 (w_go ?_)))
            exact ih h62 1 (n0 + 1) (.inl (w_i 1)) (.inl (w_i 0)) iv63 F66 (by rw [show (1 : Int) - 1 = 1 from by omega]; exact ⟨md60, d60n⟩) (by omega) (by omega)  (by omega) (by omega) (by omega) (by omega) (by omega)
          · refine w_il (fun _ => rfl) (w_nezt (by omega) (by omega) (by omega)  (w_run k_712775 (w_icI (x := 0) rfl (w_go (w_run k_712789 (w_is (fun _ => rfl) ?_))))))
            obtain ⟨md67, d67⟩ := (id b49)
            refine w_al (fun _ => rfl) ?_
            obtain ⟨_, m68, spr68, kee68, rul68, tpd68, nxt68, tok68, tka68, val68, opn68, hm68, row68, ksp68, kke68, kru68, rfl, l68_spr, u68_spr, l68_kee, u68_kee, l68_rul, u68_rul, l68_tpd, u68_tpd, l68_nxt, u68_nxt, l68_tok, u68_tok, l68_tka, u68_tka, l68_val, u68_val, l68_opn, u68_opn, l68_hm, u68_hm, l68_row, u68_row, l68_ksp, u68_ksp, l68_kke, u68_kke, l68_kru, u68_kru, f68_0, f68_1, f68_2, f68_3, f68_4, f68_5, f68_6, f68_7, f68_8, f68_9⟩ := iv_31 iv47
            refine w_this (fun _ => rfl) m68 ?_
            refine w_cv (fun _ => rfl) rfl (c_mReads (d := (d + 2)) iv47    (rd_w d67) (fun h69 iv70 F71 b72 => ⟨rfl, ?_⟩))
            have F73 := fr_ca F57 F71 (fun t ht => by simp at ht ⊢; omega)
            have d67n := rd_rs iv47 d67 F71 rfl b72
            have hnd67n := rs_n (rd_w d67n)
            refine w_il (fun _ => rfl) (w_eqzt (by omega) (by omega) (by omega)  (w_run k_712800 (w_go ?_)))
            exact ih h69 0 (n0 + 1) (.inl (w_i 1)) (.inl (w_i 0)) iv70 F73 (by rw [show (1 : Int) - 0 = 1 from by omega]; exact ⟨md67, d67n⟩) (by omega) (by omega)  (by omega) (by omega) (by omega) (by omega) (by omega)
        · refine w_il (fun _ => rfl) (w_icI (x := 2) rfl (w_net (by omega) (by omega) (by omega) (by omega) (by omega)  (w_run k_712761 (w_icI (x := 0) rfl (w_is (fun _ => rfl) (w_il (fun _ => rfl) (w_eqzt (by omega) (by omega) (by omega)  (w_run k_712779 (w_il (fun _ => rfl) (w_icI (x := 1) rfl (w_nef (by omega) (by omega) (by omega) (by omega) (by omega)  (w_icI (x := 1) rfl (w_go (w_run k_712789 (w_is (fun _ => rfl) ?_)))))))))))))))
          obtain ⟨md74, d74⟩ := (id b49)
          refine w_al (fun _ => rfl) ?_
          obtain ⟨_, m75, spr75, kee75, rul75, tpd75, nxt75, tok75, tka75, val75, opn75, hm75, row75, ksp75, kke75, kru75, rfl, l75_spr, u75_spr, l75_kee, u75_kee, l75_rul, u75_rul, l75_tpd, u75_tpd, l75_nxt, u75_nxt, l75_tok, u75_tok, l75_tka, u75_tka, l75_val, u75_val, l75_opn, u75_opn, l75_hm, u75_hm, l75_row, u75_row, l75_ksp, u75_ksp, l75_kke, u75_kke, l75_kru, u75_kru, f75_0, f75_1, f75_2, f75_3, f75_4, f75_5, f75_6, f75_7, f75_8, f75_9⟩ := iv_31 iv47
          refine w_this (fun _ => rfl) m75 ?_
          refine w_cv (fun _ => rfl) rfl (c_mReads (d := (d + 2)) iv47    (rd_w d74) (fun h76 iv77 F78 b79 => ⟨rfl, ?_⟩))
          have F80 := fr_ca F57 F78 (fun t ht => by simp at ht ⊢; omega)
          have d74n := rd_rs iv47 d74 F78 rfl b79
          have hnd74n := rs_n (rd_w d74n)
          refine w_il (fun _ => rfl) (w_eqzt (by omega) (by omega) (by omega)  (w_run k_712800 (w_go ?_)))
          exact ih h76 1 (n0 + 1) (.inl (w_i 1)) (.inl (w_i 0)) iv77 F80 (by rw [show (1 : Int) - 1 = 1 from by omega]; exact ⟨md74, d74n⟩) (by omega) (by omega)  (by omega) (by omega) (by omega) (by omega) (by omega)
      · have F81 := fr_ca F F52 (fun t ht => by exact ht)
        refine w_go (w_run k_712741 (w_is (fun _ => rfl) (w_il (fun _ => rfl) (w_gezt (by omega) (by omega) (by omega)  (w_run k_712748 (w_il (fun _ => rfl) ?_))))))
        refine w_nez2 (by omega) (by omega)  (fun c82 => ?_) (fun c82 => ?_)
        · refine w_run k_712761 (w_icI (x := 0) rfl (w_is (fun _ => rfl) (w_il (fun _ => rfl) ?_)))
          refine w_eqz2 (by omega) (by omega)  (fun c83 => ?_) (fun c83 => ?_)
          · refine w_run k_712779 (w_il (fun _ => rfl) (w_icI (x := 1) rfl (w_net (by omega) (by omega) (by omega) (by omega) (by omega)  (w_run k_712788 (w_icI (x := 0) rfl (w_is (fun _ => rfl) ?_))))))
            obtain ⟨md84, d84⟩ := (id b53)
            refine w_al (fun _ => rfl) ?_
            obtain ⟨_, m85, spr85, kee85, rul85, tpd85, nxt85, tok85, tka85, val85, opn85, hm85, row85, ksp85, kke85, kru85, rfl, l85_spr, u85_spr, l85_kee, u85_kee, l85_rul, u85_rul, l85_tpd, u85_tpd, l85_nxt, u85_nxt, l85_tok, u85_tok, l85_tka, u85_tka, l85_val, u85_val, l85_opn, u85_opn, l85_hm, u85_hm, l85_row, u85_row, l85_ksp, u85_ksp, l85_kke, u85_kke, l85_kru, u85_kru, f85_0, f85_1, f85_2, f85_3, f85_4, f85_5, f85_6, f85_7, f85_8, f85_9⟩ := iv_31 iv51
            refine w_this (fun _ => rfl) m85 ?_
            refine w_cv (fun _ => rfl) rfl (c_mReads (d := (d + 2)) iv51    (rd_w d84) (fun h86 iv87 F88 b89 => ⟨rfl, ?_⟩))
            have F90 := fr_ca F81 F88 (fun t ht => by simp at ht ⊢; omega)
            have d84n := rd_rs iv51 d84 F88 rfl b89
            have hnd84n := rs_n (rd_w d84n)
            refine w_il (fun _ => rfl) (w_eqzt (by omega) (by omega) (by omega)  (w_run k_712800 (w_go ?_)))
            exact ih h86 0 (n0 + 1) (.inl (w_i 0)) (.inl (w_i 0)) iv87 F90 (by rw [show (1 : Int) - 0 = 0 from by omega]; exact ⟨md84, d84n⟩) (by omega) (by omega)  (by omega) (by omega) (by omega) (by omega) (by omega)
          · refine w_il (fun _ => rfl) (w_nezf (by omega) (by omega) (by omega)  (w_icI (x := 1) rfl (w_go (w_run k_712789 (w_is (fun _ => rfl) ?_)))))
            obtain ⟨md91, d91⟩ := (id b53)
            refine w_al (fun _ => rfl) ?_
            obtain ⟨_, m92, spr92, kee92, rul92, tpd92, nxt92, tok92, tka92, val92, opn92, hm92, row92, ksp92, kke92, kru92, rfl, l92_spr, u92_spr, l92_kee, u92_kee, l92_rul, u92_rul, l92_tpd, u92_tpd, l92_nxt, u92_nxt, l92_tok, u92_tok, l92_tka, u92_tka, l92_val, u92_val, l92_opn, u92_opn, l92_hm, u92_hm, l92_row, u92_row, l92_ksp, u92_ksp, l92_kke, u92_kke, l92_kru, u92_kru, f92_0, f92_1, f92_2, f92_3, f92_4, f92_5, f92_6, f92_7, f92_8, f92_9⟩ := iv_31 iv51
            refine w_this (fun _ => rfl) m92 ?_
            refine w_cv (fun _ => rfl) rfl (c_mReads (d := (d + 2)) iv51    (rd_w d91) (fun h93 iv94 F95 b96 => ⟨rfl, ?_⟩))
            have F97 := fr_ca F81 F95 (fun t ht => by simp at ht ⊢; omega)
            have d91n := rd_rs iv51 d91 F95 rfl b96
            have hnd91n := rs_n (rd_w d91n)
            refine w_il (fun _ => rfl) (w_eqzt (by omega) (by omega) (by omega)  (w_run k_712800 (w_go ?_)))
            exact ih h93 1 (n0 + 1) (.inl (w_i 0)) (.inl (w_i 0)) iv94 F97 (by rw [show (1 : Int) - 1 = 0 from by omega]; exact ⟨md91, d91n⟩) (by omega) (by omega)  (by omega) (by omega) (by omega) (by omega) (by omega)
        · refine w_il (fun _ => rfl) (w_icI (x := 2) rfl (w_net (by omega) (by omega) (by omega) (by omega) (by omega)  (w_run k_712761 (w_icI (x := 0) rfl (w_is (fun _ => rfl) (w_il (fun _ => rfl) (w_eqzt (by omega) (by omega) (by omega)  (w_run k_712779 (w_il (fun _ => rfl) (w_icI (x := 1) rfl (w_net (by omega) (by omega) (by omega) (by omega) (by omega)  (w_run k_712788 (w_icI (x := 0) rfl (w_is (fun _ => rfl) ?_))))))))))))))
          obtain ⟨md98, d98⟩ := (id b53)
          refine w_al (fun _ => rfl) ?_
          obtain ⟨_, m99, spr99, kee99, rul99, tpd99, nxt99, tok99, tka99, val99, opn99, hm99, row99, ksp99, kke99, kru99, rfl, l99_spr, u99_spr, l99_kee, u99_kee, l99_rul, u99_rul, l99_tpd, u99_tpd, l99_nxt, u99_nxt, l99_tok, u99_tok, l99_tka, u99_tka, l99_val, u99_val, l99_opn, u99_opn, l99_hm, u99_hm, l99_row, u99_row, l99_ksp, u99_ksp, l99_kke, u99_kke, l99_kru, u99_kru, f99_0, f99_1, f99_2, f99_3, f99_4, f99_5, f99_6, f99_7, f99_8, f99_9⟩ := iv_31 iv51
          refine w_this (fun _ => rfl) m99 ?_
          refine w_cv (fun _ => rfl) rfl (c_mReads (d := (d + 2)) iv51    (rd_w d98) (fun h100 iv101 F102 b103 => ⟨rfl, ?_⟩))
          have F104 := fr_ca F81 F102 (fun t ht => by simp at ht ⊢; omega)
          have d98n := rd_rs iv51 d98 F102 rfl b103
          have hnd98n := rs_n (rd_w d98n)
          refine w_il (fun _ => rfl) (w_eqzt (by omega) (by omega) (by omega)  (w_run k_712800 (w_go ?_)))
          exact ih h100 0 (n0 + 1) (.inl (w_i 0)) (.inl (w_i 0)) iv101 F104 (by rw [show (1 : Int) - 0 = 0 from by omega]; exact ⟨md98, d98n⟩) (by omega) (by omega)  (by omega) (by omega) (by omega) (by omega) (by omega)
      · have F105 := fr_ca F F56 (fun t ht => by exact ht)
        refine w_go (w_run k_712741 (w_is (fun _ => rfl) (w_il (fun _ => rfl) (w_gezf (by omega) (by omega) (by omega)  (w_icI (x := 0) rfl (w_rz (by decide) ?_))))))
        exact k1 h54 iv55 F105 (fun e => absurd e (by decide))
theorem k_712704 : m_cg 712704 = g_174_0 := rfl
theorem c_mReadsRow {g : w_G} {o : w_O} {h : m_H} {d : Nat} {Q : Option m_V → m_H → Prop} (iv : w_Inv g o h) {rw : Int} (w0_ : 3 * g_mnt g ≤ rw) (w1_ : rw < 18) (pr : w_pr g o h rw) (k0 : ∀ h2 : m_H, w_Inv g o h2 → w_fr o [31, 51, 52, 53] h h2 → w_rr g o h2 1 (rw + 1) → Q (some (.inl (w_i 1))) h2) (k1 : ∀ h2 : m_H, w_Inv g o h2 → w_fr o [31, 51, 52, 53] h h2 → w_rr g o h2 0 (rw + 1) → Q (some (.inl (w_i 0))) h2) : wp (d + 5) 712704 [.inr (.inl (some 31)), .inr (.inr (.inl 0)), .inr (.inr (.inl 0)), .inr (.inr (.inl 0))] [] h Q := by
  have F := fr_rf (o := o) (h := h) (W := [31, 51, 52, 53])
  have W := iv_wm iv
  obtain ⟨hmo, A0, B0, x0, pa0, pb0, hprev⟩ := (id pr)
  have a00 := iv_51h iv pa0
  have b00 := iv_52h iv pb0
  obtain ⟨sprz1, keez1, rulz1, tpdz1, nxtz1, tokz1, tkaz1, valz1, opnz1, kspz1, kkez1, kruz1, pz1, rz1_0, rz1_1, rz1_2, rz1_3, rz1_4, rz1_5, rz1_6, rz1_7, rz1_8, rz1_9, rz1_10, rz1_11, rz1_12, rz1_13, rz1_14, rz1_15, rz1_16, rz1_17, rz1_18, rz1_19, rz1_20, rz1_21, rz1_22, rz1_23, rz1_24, rz1_25, rz1_26, rz1_27, rz1_28, rz1_29, rz1_30, rz1_31, rz1_32, rz1_33, rz1_34, rz1_35, rz1_36, rz1_37, sz1_0, sz1_1, sz1_2, sz1_3, sz1_4, sz1_5, sz1_6, sz1_7, sz1_8⟩ := (id x0)
  refine w_run k_712704 (w_al (fun _ => rfl) (w_getf pz1 rfl (fun _ => rfl) (w_al (fun _ => rfl) (w_getf pz1 rfl (fun _ => rfl) (w_icI (x := 0) rfl (w_astI pb0 (by omega) (by omega) (by omega) (by omega) (by omega) (fun A5 h3 w6 s2 => ?_)))))))
  have e7 : ∀ j : Int, 0 ≤ j → j < 18 → 0 ≤ a_g A5 j ∧ a_g A5 j ≤ 170 ∧ (j < 3 * g_mnt g → a_g A5 j = g_mCL g j) := fun j j0 j1 => by
    rw [w6 j j0 j1]
    by_cases hj : j = rw
    · rw [if_pos hj]; intros; omega
    · rw [if_neg hj]; exact b00 j j0 j1
  have iv4 := is_52 iv s2 ⟨_, rfl, e7⟩
  have F8 := fr_st F s2 (by rw [(ow_52 iv)]; rfl)
  refine w_al (fun _ => rfl) (w_icI (x := 0) rfl ?_)
  have m9 := st_fr s2 pz1 (by decide)
  refine w_putf [.inr (.inl (some 32)), .inr (.inl (some 33)), .inr (.inl (some 34)), .inr (.inl (some 35)), .inr (.inl (some 36)), .inl (w_i (g_mH g)), .inl (w_i (g_mC g)), .inl (w_i sprz1), .inl (w_i keez1), .inl (w_i (g_mnp g)), .inl (w_i rulz1), .inl (w_i (g_mhi g)), .inr (.inl (some 37)), .inr (.inl (some 50)), .inr (.inl (some 51)), .inr (.inl (some 52)), .inr (.inl (some 53)), .inr (.inl (some 54)), .inl (w_i tpdz1), .inl (w_i (g_mnt g)), .inl (w_i nxtz1), .inl (w_i tokz1), .inl (w_i tkaz1), .inl (w_i valz1), .inl (w_i opnz1), .inl (w_i 0), .inl (w_i rw), .inr (.inl (some 55)), .inr (.inl (some 56)), .inr (.inl (some 57)), .inr (.inl (some 58)), .inr (.inl (some 59)), .inr (.inl (some 60)), .inr (.inl (some 61)), .inr (.inl (some 62)), .inl (w_i kspz1), .inl (w_i kkez1), .inl (w_i kruz1), .inr (.inl (some 63)), .inr (.inl (some 64)), .inr (.inl (some 65)), .inr (.inl (some 66))] m9 rfl rfl rfl (fun _ => rfl) (fun h11 s10 => ?_)
  have iv12 := is_31 iv4 s10 ⟨_, _, _, _, _, _, _, _, _, _, _, _, _, _, rfl, by omega, by omega, by omega, by omega, by omega, by omega, by omega, by omega, by omega, by omega, by omega, by omega, by omega, by omega, by omega, by omega, by omega, by omega, by omega, by omega, by omega, by omega, by omega, by omega, by omega, by omega, by omega, by omega, by omega, by omega, by omega, by omega, by omega, by omega, by omega, by omega, by omega, by omega⟩
  have F13 := fr_st F8 s10 (by rw [(ow_31 iv4)]; rfl)
  refine w_al (fun _ => rfl) (w_icI (x := 0) rfl (w_putf [.inr (.inl (some 32)), .inr (.inl (some 33)), .inr (.inl (some 34)), .inr (.inl (some 35)), .inr (.inl (some 36)), .inl (w_i (g_mH g)), .inl (w_i (g_mC g)), .inl (w_i sprz1), .inl (w_i keez1), .inl (w_i (g_mnp g)), .inl (w_i rulz1), .inl (w_i (g_mhi g)), .inr (.inl (some 37)), .inr (.inl (some 50)), .inr (.inl (some 51)), .inr (.inl (some 52)), .inr (.inl (some 53)), .inr (.inl (some 54)), .inl (w_i tpdz1), .inl (w_i (g_mnt g)), .inl (w_i nxtz1), .inl (w_i tokz1), .inl (w_i tkaz1), .inl (w_i valz1), .inl (w_i 0), .inl (w_i 0), .inl (w_i rw), .inr (.inl (some 55)), .inr (.inl (some 56)), .inr (.inl (some 57)), .inr (.inl (some 58)), .inr (.inl (some 59)), .inr (.inl (some 60)), .inr (.inl (some 61)), .inr (.inl (some 62)), .inl (w_i kspz1), .inl (w_i kkez1), .inl (w_i kruz1), .inr (.inl (some 63)), .inr (.inl (some 64)), .inr (.inl (some 65)), .inr (.inl (some 66))] s10.2.2.1 rfl rfl rfl (fun _ => rfl) (fun h15 s14 => ?_)))
  have iv16 := is_31 iv12 s14 ⟨_, _, _, _, _, _, _, _, _, _, _, _, _, _, rfl, by omega, by omega, by omega, by omega, by omega, by omega, by omega, by omega, by omega, by omega, by omega, by omega, by omega, by omega, by omega, by omega, by omega, by omega, by omega, by omega, by omega, by omega, by omega, by omega, by omega, by omega, by omega, by omega, by omega, by omega, by omega, by omega, by omega, by omega, by omega, by omega, by omega, by omega⟩
  have F17 := fr_st F13 s14 (by rw [(ow_31 iv12)]; rfl)
  refine w_icI (x := 1) rfl (w_is (fun _ => rfl) (w_nur k_712726 ?_))
  obtain ⟨_, m18, A18, rfl⟩ := iv_53 iv16
  have qB : a_g A5 rw = 0 := by rw [w6 rw (by omega) (by omega)]; exact if_pos rfl
  have m19 := st_fr s2 pa0 (by decide)
  have m20 := st_fr s10 m19 (by decide)
  have m21 := st_fr s14 m20 (by decide)
  have m22 := st_fr s10 s2.2.2.1 (by decide)
  have m23 := st_fr s14 m22 (by decide)
  exact l_mReadsRow_22  (rw := rw)    w0_ w1_    k0 k1 (160 - 0 + 1 : Int).toNat h15 1 0 (.inr (.inr (.inl 0))) (.inr (.inr (.inl 0))) iv16 F17 ⟨0, _, _, _, ⟨_, _, _, _, _, _, _, _, _, _, _, _, s14.2.2.1, by omega, by omega, by omega, by omega, by omega, by omega, by omega, by omega, by omega, by omega, by omega, by omega, by omega, by omega, by omega, by omega, by omega, by omega, by omega, by omega, by omega, by omega, by omega, by omega, by omega, by omega, by omega, by omega, by omega, by omega, by omega, by omega, by omega, by omega, by omega, by omega, by omega, by omega, by omega, by omega, by omega, by omega, by omega, by omega, by omega, by omega, by omega⟩, m21, m23, m18, by omega, by omega, by omega, by omega, by omega, by omega, (by rw [qB]; exact ⟨by omega, by omega, fun k hk => absurd hk (by omega)⟩), (by rw [qB]; rfl), (fun j j0 j1 => absurd j1 (by omega)), (fun e => Or.inl rfl), (fun i i0 i1 => by rw [w6 i (by omega) (by omega), if_neg (by omega)]; exact hprev i i0 i1)⟩ (by omega) (by omega)  (by omega) (by omega) (by omega) (by omega) (by omega)
