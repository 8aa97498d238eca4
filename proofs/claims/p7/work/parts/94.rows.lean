theorem k_168033 : m_cg 168033 = g_41_97 := rfl
theorem k_168057 : m_cg 168057 = g_41_121 := rfl
theorem l_clear95_97 {g : w_G} {o : w_O} {h0 : m_H} {d : Nat} {Q : Option m_V → m_H → Prop} (hL : g_N g ≤ g_L g) (fl : w_fl g o h0 0) (k0 : ∀ h2 : m_H, w_Inv g o h2 → w_fr o [101] h0 h2 → w_SF g o h2 0 → Q none h2) : ∀ (k : Nat) (h : m_H) (i : Int) (iv : w_Inv g o h) (F : w_fr o [101] h0 h) (i_lo : -2147483648 ≤ i) (i_hi : i ≤ 2147483647) (i0 : 0 ≤ i) (i1 : i ≤ g_N g) (fl : w_fl g o h i), g_N g - i < (k : Int) → wp d 168033 [.inr (.inl (some 9)), .inl (w_i i)] [] h Q := by
  intro k
  induction k with
  | zero => intro h i iv F i_lo i_hi i0 i1 fl hk; exact absurd hk (by omega)
  | succ k ih =>
    intro h i iv F i_lo i_hi i0 i1 fl hk
    have W := iv_wc iv
    have Wo := iv_wo iv
    obtain ⟨kpr0, A0, p9, q1, q2, pS, q3⟩ := (id fl)
    have hm4 : (o (g_stp g)).2 ≤ 4096 := by omega
    refine w_run k_168033 (w_il (fun _ => rfl) (w_al (fun _ => rfl) (w_getf p9 rfl (fun _ => rfl) ?_)))
    obtain ⟨_, m1, kp1, sp1, rl1, rfl, l1_kp, u1_kp, l1_sp, u1_sp, l1_rl, u1_rl, f1_0, f1_1⟩ := iv_1 iv
    refine w_getf m1 rfl (fun _ => rfl) ?_
    refine w_ge2 (by omega) (by omega) (by omega) (by omega)  (fun c2 => ?_) (fun c2 => ?_)
    · refine w_run k_168057 (w_rv ?_)
      exact k0 h iv F ⟨kpr0, -1, 0, 0, A0, p9, pS, by omega, by omega, by omega, by omega, by omega, by omega, by omega, by omega, by omega, Or.inl rfl, by omega, ct_0 (fun j j0 j1 => q3 j j0 (by omega)), fun v v0 v1 => by have := q3 v v0 (by omega); omega⟩
    · refine w_al (fun _ => rfl) (w_getf p9 rfl (fun _ => rfl) (w_il (fun _ => rfl) (w_icI (x := (-1)) wn_1 (w_astI pS (by omega) (by omega) (by omega) (by omega) (by omega) (fun A6 h4 w7 s3 => ?_)))))
      have iv5 := is_101 iv (ow_stp iv) s3 ⟨_, rfl, by assumption⟩
      have F8 := fr_st F s3 (by rw [(ow_stp iv)]; rfl)
      refine w_inc (c := w_i (i + 1)) (fun _ => rfl) (i_addL (y := 1) rfl i) (fun _ => rfl) (w_go ?_)
      have m9 := st_fr s3 p9 (ne_tag (ow_9 iv) (ow_stp iv) rfl)
      exact ih h4 (i + 1) iv5 F8 (by omega) (by omega)  (by omega) (by omega) ⟨kpr0, A6, m9, q1, q2, s3.2.2.1, fun j j0 j1 => by rw [w7 j j0 (by omega)]; exact (if hj : j = i then if_pos hj else (if_neg hj).trans (q3 j j0 (by omega)))⟩ (by omega)
theorem k_168031 : m_cg 168031 = g_41_95 := rfl
theorem c_clear95 {g : w_G} {o : w_O} {h : m_H} {d : Nat} {Q : Option m_V → m_H → Prop} (iv : w_Inv g o h) (hL : g_N g ≤ g_L g) (fl : w_fl g o h 0) (k0 : ∀ h2 : m_H, w_Inv g o h2 → w_fr o [101] h h2 → w_SF g o h2 0 → Q none h2) : wp d 168031 [.inr (.inl (some 9)), .inr (.inr (.inl 0))] [] h Q := by
  have F := fr_rf (o := o) (h := h) (W := [101])
  have W := iv_wc iv
  have Wo := iv_wo iv
  refine w_run k_168031 (w_icI (x := 0) rfl (w_is (fun _ => rfl) (w_nur k_168033 ?_)))
  exact l_clear95_97      hL fl    k0 (g_N g - 0 + 1 : Int).toNat h 0 iv F (by omega) (by omega)  (by omega) (by omega) fl (by omega)
theorem k_167936 : m_cg 167936 = g_41_0 := rfl
theorem c_clear {g : w_G} {o : w_O} {h : m_H} {d : Nat} {Q : Option m_V → m_H → Prop} (iv : w_Inv g o h) (k0 : ∀ (g2 : w_G) (o2 : w_O) (h2 : m_H), w_Inv g2 o2 h2 → w_pub g g2 → w_oe o o2 → g_N g2 ≤ g_L g2 → w_SF g2 o2 h2 0 → w_gw g h g2 h2 → Q none h2) : wp d 167936 [.inr (.inl (some 9)), .inr (.inr (.inl 0))] [] h Q := by
  have F := fr_rf (o := o) (h := h) (W := [9])
  have W := iv_wc iv
  have Wo := iv_wo iv
  refine w_run k_167936 (w_al (fun _ => rfl) (w_icI (x := (-1)) wn_1 ?_))
  obtain ⟨_, m1, kpr1, sta1, fnd1, kco1, rfl, l1_kpr, u1_kpr, l1_sta, u1_sta, l1_fnd, u1_fnd, l1_kco, u1_kco, f1_0, f1_1, f1_2, f1_3, f1_4, f1_5, f1_6⟩ := iv_9 iv
  refine w_putf [.inr (.inl (some 1)), .inr (.inl (some 10)), .inl (w_i kpr1), .inr (.inl (some 11)), .inl (w_i (-1)), .inr (.inl (some (g_rw g))), .inl (w_i fnd1), .inr (.inl (some (g_stp g))), .inr (.inl (some (g_ahd g))), .inr (.inl (some (g_cst g))), .inr (.inl (some (g_chp g))), .inl (w_i kco1)] m1 rfl rfl rfl (fun _ => rfl) (fun h3 s2 => ?_)
  have iv4 := is_9 iv s2 ⟨_, _, _, _, rfl, by omega, by omega, by omega, by omega, by omega, by omega, by omega, by omega, by omega, by omega, by omega, by omega, by omega, by omega, by omega⟩
  have F5 := fr_st F s2 (by rw [(ow_9 iv)]; rfl)
  refine w_al (fun _ => rfl) (w_icI (x := 0) rfl (w_putf [.inr (.inl (some 1)), .inr (.inl (some 10)), .inl (w_i kpr1), .inr (.inl (some 11)), .inl (w_i (-1)), .inr (.inl (some (g_rw g))), .inl (w_i 0), .inr (.inl (some (g_stp g))), .inr (.inl (some (g_ahd g))), .inr (.inl (some (g_cst g))), .inr (.inl (some (g_chp g))), .inl (w_i kco1)] s2.2.2.1 rfl rfl rfl (fun _ => rfl) (fun h7 s6 => ?_)))
  have iv8 := is_9 iv4 s6 ⟨_, _, _, _, rfl, by omega, by omega, by omega, by omega, by omega, by omega, by omega, by omega, by omega, by omega, by omega, by omega, by omega, by omega, by omega⟩
  have F9 := fr_st F5 s6 (by rw [(ow_9 iv4)]; rfl)
  refine w_al (fun _ => rfl) (w_icI (x := 0) rfl (w_putf [.inr (.inl (some 1)), .inr (.inl (some 10)), .inl (w_i kpr1), .inr (.inl (some 11)), .inl (w_i (-1)), .inr (.inl (some (g_rw g))), .inl (w_i 0), .inr (.inl (some (g_stp g))), .inr (.inl (some (g_ahd g))), .inr (.inl (some (g_cst g))), .inr (.inl (some (g_chp g))), .inl (w_i 0)] s6.2.2.1 rfl rfl rfl (fun _ => rfl) (fun h11 s10 => ?_)))
  have iv12 := is_9 iv8 s10 ⟨_, _, _, _, rfl, by omega, by omega, by omega, by omega, by omega, by omega, by omega, by omega, by omega, by omega, by omega, by omega, by omega, by omega, by omega⟩
  have F13 := fr_st F9 s10 (by rw [(ow_9 iv8)]; rfl)
  refine w_al (fun _ => rfl) (w_getf s10.2.2.1 rfl (fun _ => rfl) ?_)
  obtain ⟨_, m14, A14, rfl, e14, g14_0⟩ := iv_100 iv12 (ow_rw iv12)
  refine w_len m14 (w_nat (by omega) (w_al (fun _ => rfl) (w_getf s10.2.2.1 rfl (fun _ => rfl) ?_)))
  obtain ⟨_, m15, kp15, sp15, rl15, rfl, l15_kp, u15_kp, l15_sp, u15_sp, l15_rl, u15_rl, f15_0, f15_1⟩ := iv_1 iv12
  refine w_getf m15 rfl (fun _ => rfl) ?_
  refine w_ge2 (by omega) (by omega) (by omega) (by omega)  (fun c16 => ?_) (fun c16 => ?_)
  · exact c_clear95 iv12 (by omega) (fl_0 iv12 s10.2.2.1 (by omega) (by omega)) (fun h2 iv2 F2 sf => k0 g o h2 iv2 pub_rf oe_rf (by omega) sf (gw_fr (fr_gw F13 gw_rf) F2))
  · refine w_al (fun _ => rfl) (w_al (fun _ => rfl) (w_getf s10.2.2.1 rfl (fun _ => rfl) (w_getf m15 rfl (fun _ => rfl) ?_)))
    have z17 := iv12.2.2.2.2.1
    have z17w := iv12.1
    refine w_newa z17w (wi_le (by omega) (by omega)) (fun h18 s19 => ?_)
    have z20 := s19.1
    have z20y := s19.2.1
    have z20w := s19.2.2.2.2
    have m21 := nw_fr s19 s10.2.2.1 (by omega)
    refine w_putf [.inr (.inl (some 1)), .inr (.inl (some 10)), .inl (w_i kpr1), .inr (.inl (some 11)), .inl (w_i (-1)), .inr (.inl (some h11.1)), .inl (w_i 0), .inr (.inl (some (g_stp g))), .inr (.inl (some (g_ahd g))), .inr (.inl (some (g_cst g))), .inr (.inl (some (g_chp g))), .inl (w_i 0)] m21 rfl rfl rfl (fun _ => rfl) (fun h23 s22 => ?_)
    have z25 := s22.1
    have z25y := s22.2.1
    have z25w := s22.2.2.2.2 z20w
    refine w_al (fun _ => rfl) (w_al (fun _ => rfl) (w_getf s22.2.2.1 rfl (fun _ => rfl) ?_))
    have m26 := nw_fr s19 m15 (by omega)
    have m27 := st_fr s22 m26 (by decide)
    refine w_getf m27 rfl (fun _ => rfl) (w_newa z25w (wi_le (by omega) (by omega)) (fun h28 s29 => ?_))
    have z30 := s29.1
    have z30y := s29.2.1
    have z30w := s29.2.2.2.2
    have z30a : h23.1 = (h11.1 + 1) := by omega
    rw [z30a]
    have z30m : m_at h28.2.2 (h11.1 + 1) = some (.inl (false, (w_i (g_N g)), 0)) := by rw [← z30a]; exact s29.2.2.1
    have m31 := nw_fr s29 s22.2.2.1 (by omega)
    refine w_putf [.inr (.inl (some 1)), .inr (.inl (some 10)), .inl (w_i kpr1), .inr (.inl (some 11)), .inl (w_i (-1)), .inr (.inl (some h11.1)), .inl (w_i 0), .inr (.inl (some (h11.1 + 1))), .inr (.inl (some (g_ahd g))), .inr (.inl (some (g_cst g))), .inr (.inl (some (g_chp g))), .inl (w_i 0)] m31 rfl rfl rfl (fun _ => rfl) (fun h33 s32 => ?_)
    have z35 := s32.1
    have z35y := s32.2.1
    have z35w := s32.2.2.2.2 z30w
    refine w_al (fun _ => rfl) (w_al (fun _ => rfl) (w_getf s32.2.2.1 rfl (fun _ => rfl) ?_))
    have m36 := nw_fr s29 m27 (by omega)
    have m37 := st_fr s32 m36 (by decide)
    refine w_getf m37 rfl (fun _ => rfl) (w_newa z35w (wi_le (by omega) (by omega)) (fun h38 s39 => ?_))
    have z40 := s39.1
    have z40y := s39.2.1
    have z40w := s39.2.2.2.2
    have z40a : h33.1 = (h11.1 + 2) := by omega
    rw [z40a]
    have z40m : m_at h38.2.2 (h11.1 + 2) = some (.inl (false, (w_i (g_N g)), 0)) := by rw [← z40a]; exact s39.2.2.1
    have m41 := nw_fr s39 s32.2.2.1 (by omega)
    refine w_putf [.inr (.inl (some 1)), .inr (.inl (some 10)), .inl (w_i kpr1), .inr (.inl (some 11)), .inl (w_i (-1)), .inr (.inl (some h11.1)), .inl (w_i 0), .inr (.inl (some (h11.1 + 1))), .inr (.inl (some (h11.1 + 2))), .inr (.inl (some (g_cst g))), .inr (.inl (some (g_chp g))), .inl (w_i 0)] m41 rfl rfl rfl (fun _ => rfl) (fun h43 s42 => ?_)
    have z45 := s42.1
    have z45y := s42.2.1
    have z45w := s42.2.2.2.2 z40w
    refine w_al (fun _ => rfl) (w_al (fun _ => rfl) (w_getf s42.2.2.1 rfl (fun _ => rfl) ?_))
    have m46 := nw_fr s39 m37 (by omega)
    have m47 := st_fr s42 m46 (by decide)
    refine w_getf m47 rfl (fun _ => rfl) (w_newa z45w (wi_le (by omega) (by omega)) (fun h48 s49 => ?_))
    have z50 := s49.1
    have z50y := s49.2.1
    have z50w := s49.2.2.2.2
    have z50a : h43.1 = (h11.1 + 3) := by omega
    rw [z50a]
    have z50m : m_at h48.2.2 (h11.1 + 3) = some (.inl (false, (w_i (g_N g)), 0)) := by rw [← z50a]; exact s49.2.2.1
    have m51 := nw_fr s49 s42.2.2.1 (by omega)
    refine w_putf [.inr (.inl (some 1)), .inr (.inl (some 10)), .inl (w_i kpr1), .inr (.inl (some 11)), .inl (w_i (-1)), .inr (.inl (some h11.1)), .inl (w_i 0), .inr (.inl (some (h11.1 + 1))), .inr (.inl (some (h11.1 + 2))), .inr (.inl (some (h11.1 + 3))), .inr (.inl (some (g_chp g))), .inl (w_i 0)] m51 rfl rfl rfl (fun _ => rfl) (fun h53 s52 => ?_)
    have z55 := s52.1
    have z55y := s52.2.1
    have z55w := s52.2.2.2.2 z50w
    refine w_al (fun _ => rfl) (w_al (fun _ => rfl) (w_getf s52.2.2.1 rfl (fun _ => rfl) ?_))
    have m56 := nw_fr s49 m47 (by omega)
    have m57 := st_fr s52 m56 (by decide)
    refine w_getf m57 rfl (fun _ => rfl) (w_newa z55w (wi_le (by omega) (by omega)) (fun h58 s59 => ?_))
    have z60 := s59.1
    have z60y := s59.2.1
    have z60w := s59.2.2.2.2
    have z60a : h53.1 = (h11.1 + 4) := by omega
    rw [z60a]
    have z60m : m_at h58.2.2 (h11.1 + 4) = some (.inl (true, (w_i (g_N g)), 0)) := by rw [← z60a]; exact s59.2.2.1
    have m61 := nw_fr s59 s52.2.2.1 (by omega)
    refine w_putf [.inr (.inl (some 1)), .inr (.inl (some 10)), .inl (w_i kpr1), .inr (.inl (some 11)), .inl (w_i (-1)), .inr (.inl (some h11.1)), .inl (w_i 0), .inr (.inl (some (h11.1 + 1))), .inr (.inl (some (h11.1 + 2))), .inr (.inl (some (h11.1 + 3))), .inr (.inl (some (h11.1 + 4))), .inl (w_i 0)] m61 rfl rfl rfl (fun _ => rfl) (fun h63 s62 => ?_)
    have z65 := s62.1
    have z65y := s62.2.1
    have z65w := s62.2.2.2.2 z60w
    refine w_nur k_168031 ?_
    have m66 := st_fr s22 s19.2.2.1 (by omega)
    have m67 := nw_fr s29 m66 (by omega)
    have m68 := st_fr s32 m67 (by omega)
    have m69 := nw_fr s39 m68 (by omega)
    have m70 := st_fr s42 m69 (by omega)
    have m71 := nw_fr s49 m70 (by omega)
    have m72 := st_fr s52 m71 (by omega)
    have m73 := nw_fr s59 m72 (by omega)
    have m74 := st_fr s62 m73 (by omega)
    have m75 := st_fr s32 z30m (by omega)
    have m76 := nw_fr s39 m75 (by omega)
    have m77 := st_fr s42 m76 (by omega)
    have m78 := nw_fr s49 m77 (by omega)
    have m79 := st_fr s52 m78 (by omega)
    have m80 := nw_fr s59 m79 (by omega)
    have m81 := st_fr s62 m80 (by omega)
    have m82 := st_fr s42 z40m (by omega)
    have m83 := nw_fr s49 m82 (by omega)
    have m84 := st_fr s52 m83 (by omega)
    have m85 := nw_fr s59 m84 (by omega)
    have m86 := st_fr s62 m85 (by omega)
    have m87 := st_fr s52 z50m (by omega)
    have m88 := nw_fr s59 m87 (by omega)
    have m89 := st_fr s62 m88 (by omega)
    have m90 := st_fr s62 z60m (by omega)
    have hN : ((w_i (g_N g) : Nat) : Int) = g_N g := by rw [wi_int]; omega
    have ivn := inv_rows (kpr := kpr1) iv12 hN (by omega) (by omega) (by omega) z65w (fun q hq h9 => (s62.2.2.2.1 q h9).trans ((s59.2.2.2.1 q (by omega)).trans ((s52.2.2.2.1 q h9).trans ((s49.2.2.2.1 q (by omega)).trans ((s42.2.2.2.1 q h9).trans ((s39.2.2.2.1 q (by omega)).trans ((s32.2.2.2.1 q h9).trans ((s29.2.2.2.1 q (by omega)).trans ((s22.2.2.2.1 q h9).trans ((s19.2.2.2.1 q (by omega)).trans (rfl))))))))))) s62.2.2.1 m74 m81 m86 m89 m90
    have hz : h63.2.1 = h11.2.1 + 5 * w_i (g_N g) := by omega
    have Ff := F13
    exact c_clear95 ivn (by rw [rows_N, rows_L]; omega) (fl_0 ivn s62.2.2.1 (by omega) (by omega)) (fun h2 iv2 F2 sf => k0 _ _ h2 iv2 rows_pub (rows_oe iv12.2.2.2.1) (by rw [rows_N, rows_L]; omega) sf (gw_fr (fr_gw Ff (Or.inr ⟨by omega, by omega, by omega, rfl⟩)) F2))
