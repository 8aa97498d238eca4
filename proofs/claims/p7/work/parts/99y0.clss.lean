theorem k_475136 : m_cg 475136 = g_116_0 := rfl
theorem k_475153 : m_cg 475153 = g_116_17 := rfl
theorem k_475156 : m_cg 475156 = g_116_20 := rfl
theorem k_475170 : m_cg 475170 = g_116_34 := rfl
theorem k_475179 : m_cg 475179 = g_116_43 := rfl
theorem k_475186 : m_cg 475186 = g_116_50 := rfl
theorem k_249856 : m_cg 249856 = g_61_0 := rfl
theorem c_sheet {g : w_G} {o : w_O} {h : m_H} {d : Nat} {Q : Option m_V → m_H → Prop} (iv : w_Inv g o h) {sh : Int} {so : Int} {n : Int} (sh_lo : -2147483648 ≤ sh) (sh_hi : sh ≤ 2147483647) (so_lo : -2147483648 ≤ so) (so_hi : so ≤ 2147483647) (n_lo : -2147483648 ≤ n) (n_hi : n ≤ 2147483647) (k0 : ∀ (g2 : w_G) (o2 : w_O) (h2 : m_H), w_Inv g2 o2 h2 → w_ch [] [] g g2 → w_oe o o2 → h2.1 ≤ h.1 + 3 → h2.2.1 ≤ h.2.1 + 200 → (0 ≤ sh ∧ sh ≤ 3) → (0 ≤ so ∧ so ≤ 2) → (0 ≤ n ∧ n ≤ 40) → Q (some (.inl (w_i 1))) h2) (k1 : ∀ h2 : m_H, w_Inv g o h2 → w_fr o [24] h h2 → (sh < 0 ∨ 3 < sh ∨ so < -1 ∨ 2 < so ∨ (0 ≤ so ∧ 40 < n)) → Q (some (.inl (w_i (-2)))) h2) (k2 : ∀ h2 : m_H, w_Inv g o h2 → w_fr o [24] h h2 → 0 ≤ sh → sh ≤ 3 → 0 ≤ so → so ≤ 2 → n < 0 → Q (some (.inl (w_i (-14)))) h2) (k3 : ∀ h2 : m_H, w_Inv g o h2 → w_fr o [24] h h2 → 0 ≤ sh → sh ≤ 3 → so = -1 → Q (some (.inl (w_i 1))) h2) : wp (d + 2) 475136 [.inr (.inl (some 0)), .inl (w_i sh), .inl (w_i so), .inl (w_i n)] [] h Q := by
  have F := fr_rf (o := o) (h := h) (W := [24])
  have W := iv_wc iv
  refine w_run k_475136 (w_il (fun _ => rfl) ?_)
  refine w_ca (fun _ => rfl) rfl (c_isSheet (d := d) iv (n := sh) (by omega) (by omega)   (fun b1 b2 => ⟨_, rfl, ?_⟩) (fun b3 => ⟨_, rfl, ?_⟩))
  · refine w_eqzf (by omega) (by omega) (by omega)  (w_il (fun _ => rfl) (w_icI (x := (-1)) wn_1 ?_))
    refine w_lt2 (by omega) (by omega) (by omega) (by omega)  (fun c4 => ?_) (fun c4 => ?_)
    · refine w_run k_475153 (w_icI (x := (-2)) wn_2 (w_ri ?_))
      exact k1 h iv F (by omega)
    · refine w_il (fun _ => rfl) (w_icI (x := 3) rfl ?_)
      refine w_lt2 (by omega) (by omega) (by omega) (by omega)  (fun c5 => ?_) (fun c5 => ?_)
      · refine w_run k_475156 (w_il (fun _ => rfl) (w_icI (x := (-1)) wn_1 ?_))
        refine w_ne2 (by omega) (by omega) (by omega) (by omega)  (fun c6 => ?_) (fun c6 => ?_)
        · refine w_run k_475170 (w_il (fun _ => rfl) (w_icI (x := 40) rfl ?_))
          refine w_le2 (by omega) (by omega) (by omega) (by omega)  (fun c7 => ?_) (fun c7 => ?_)
          · refine w_run k_475179 (w_il (fun _ => rfl) ?_)
            refine w_gez2 (by omega) (by omega)  (fun c8 => ?_) (fun c8 => ?_)
            · refine w_run k_475186 ?_
              obtain ⟨_, m9, rfl⟩ := iv_0 iv
              obtain ⟨_, m10, l10, rfl, ll10, lp10⟩ := iv_24 iv
              have z11 := iv.2.2.2.2.1
              have z11w := iv.1
              refine w_al (fun _ => rfl) (w_getf m9 rfl (fun _ => rfl) (w_il (fun _ => rfl) (w_new z11w (fun h12 s13 => ?_))))
              have z14 := s13.1
              have z14y := s13.2.1
              have z14w := s13.2.2.2.2
              refine w_dup (fun _ => rfl) (w_il (fun _ => rfl) (w_il (fun _ => rfl) (w_rcv (fun _ => rfl) (w_cv (fun _ => rfl) rfl (w_run k_249856 (w_al (fun _ => rfl) (w_oi rfl (w_al (fun _ => rfl) (w_il (fun _ => rfl) (w_putf [.inl (w_i so), .inr (.inl none)] s13.2.2.1 rfl rfl rfl (fun _ => rfl) (fun h16 s15 => ?_)))))))))))
              have z18 := s15.1
              have z18y := s15.2.1
              have z18w := s15.2.2.2.2 z14w
              refine w_al (fun _ => rfl) (w_il (fun _ => rfl) (w_newa z18w (wi_le (by omega) (by omega)) (fun h19 s20 => ?_)))
              have hn_1 : ((w_i n : Nat) : Int) = n := by rw [wi_int]; omega
              have z21 := s20.1
              have z21y := s20.2.1
              have z21w := s20.2.2.2.2
              have z21a : h16.1 = (h.1 + 1) := by omega
              rw [z21a]
              have z21m : m_at h19.2.2 (h.1 + 1) = some (.inl (false, (w_i n), 0)) := by rw [← z21a]; exact s20.2.2.1
              have m22 := nw_fr s20 s15.2.2.1 (by omega)
              refine w_putf [.inl (w_i so), .inr (.inl (some (h.1 + 1)))] m22 rfl rfl rfl (fun _ => rfl) (fun h24 s23 => ?_)
              have z26 := s23.1
              have z26y := s23.2.1
              have z26w := s23.2.2.2.2 z21w
              refine w_rv ⟨rfl, ?_⟩
              have m27 := nw_fr s13 m10 (by omega)
              have m28 := st_fr s15 m27 (by omega)
              have m29 := nw_fr s20 m28 (by omega)
              have m30 := st_fr s23 m29 (by omega)
              refine w_aastI m30 (by omega) (by omega) (by decide) (isC_of s23.2.2.1 rfl) (fun h32 s31 => ?_)
              have z33 := s31.1
              have z33y := s31.2.1
              have z33w := s31.2.2.2.2 z26w
              refine w_icI (x := 1) rfl (w_ri ?_)
              have F1 := F.1
              have F2 := F.2.1
              have m34 := st_fr s31 s23.2.2.1 (by omega)
              have m35 := st_fr s23 z21m (by omega)
              have m36 := st_fr s31 m35 (by omega)
              have ivn := sh_fin (so := so) (n := w_i n) (j := sh.toNat) iv (by omega) (by omega) (by omega) z33w (by omega) (fun q hq n24 => (s31.2.2.2.1 q n24).trans ((s23.2.2.2.1 q (by omega)).trans ((s20.2.2.2.1 q (by omega)).trans ((s15.2.2.2.1 q (by omega)).trans ((s13.2.2.2.1 q (by omega)).trans (rfl)))))) s31.2.2.1 ll10 lp10 m34 m36
              exact k0 g (o_sh o h.1 (w_i n)) h32 ivn ch_rf (fun q hq => by have : ¬ h.1 ≤ q := (fun z => hq (iv.2.2.2.1 q z)); unfold o_sh; rw [if_neg (by omega), if_neg (by omega)]) (by omega) (by omega) (by omega) (by omega) (by omega)
            · refine w_icI (x := (-14)) wn_14 (w_ri ?_)
              exact k2 h iv F (by omega) (by omega) (by omega) (by omega) (by omega)
          · refine w_icI (x := (-2)) wn_2 (w_ri ?_)
            exact k1 h iv F (by omega)
        · refine w_al (fun _ => rfl) ?_
          obtain ⟨_, m37, rfl⟩ := iv_0 iv
          refine w_getf m37 rfl (fun _ => rfl) (w_il (fun _ => rfl) (w_nul ?_))
          obtain ⟨_, m38, l38, rfl, ll38, lp38⟩ := iv_24 iv
          refine w_aastI m38 (by omega) (by omega) (by decide) isC_no (fun h40 s39 => ?_)
          have z42 := set_no (i := 0) (j := (sh : Int).toNat) lp38 ll38 (Or.inl rfl)
          have iv41 := is_24 iv s39 ⟨_, rfl, z42.1, z42.2⟩
          have F43 := fr_st F s39 (by rw [(ow_24 iv)]; rfl)
          refine w_icI (x := 1) rfl (w_ri ?_)
          exact k3 h40 iv41 F43 (by omega) (by omega) (by omega)
      · refine w_icI (x := (-2)) wn_2 (w_ri ?_)
        exact k1 h iv F (by omega)
  · refine w_eqzt (by omega) (by omega) (by omega)  (w_run k_475153 (w_icI (x := (-2)) wn_2 (w_ri ?_)))
    exact k1 h iv F (by omega)
theorem k_380928 : m_cg 380928 = g_93_0 := rfl
theorem k_380948 : m_cg 380948 = g_93_20 := rfl
theorem k_380959 : m_cg 380959 = g_93_31 := rfl
theorem k_520192 : m_cg 520192 = g_127_0 := rfl
theorem k_520228 : m_cg 520228 = g_127_36 := rfl
theorem k_278528 : m_cg 278528 = g_68_0 := rfl
theorem k_36864 : m_cg 36864 = g_9_0 := rfl
theorem k_520237 : m_cg 520237 = g_127_45 := rfl
theorem k_266240 : m_cg 266240 = g_65_0 := rfl
theorem k_520246 : m_cg 520246 = g_127_54 := rfl
theorem k_16384 : m_cg 16384 = g_4_0 := rfl
theorem k_520255 : m_cg 520255 = g_127_63 := rfl
theorem k_28672 : m_cg 28672 = g_7_0 := rfl
theorem k_520264 : m_cg 520264 = g_127_72 := rfl
theorem k_4096 : m_cg 4096 = g_1_0 := rfl
theorem k_520273 : m_cg 520273 = g_127_81 := rfl
theorem k_380945 : m_cg 380945 = g_93_17 := rfl
theorem c_painter {g : w_G} {o : w_O} {h : m_H} {d : Nat} {Q : Option m_V → m_H → Prop} (iv : w_Inv g o h) {kd : Int} {nu : Int} (kd_lo : -2147483648 ≤ kd) (kd_hi : kd ≤ 2147483647) (nu_lo : -2147483648 ≤ nu) (nu_hi : nu ≤ 2147483647) (k0 : ∀ (x : Int) (g2 : w_G) (o2 : w_O) (h2 : m_H), w_Inv g2 o2 h2 → w_ch [3] [1, 2] g g2 → w_oe o o2 → h2.1 ≤ h.1 + 3 → h2.2.1 ≤ h.2.1 + 200 → x = g_np g → (0 ≤ kd ∧ kd ≤ 5 ∧ 0 ≤ nu ∧ nu ≤ 9) → g_np g ≤ 4 → w_xP g g2 kd nu → Q (some (.inl (w_i x))) h2) (k1 : ∀ h2 : m_H, w_Inv g o h2 → w_fr o [0] h h2 → (kd < 0 ∨ 5 < kd ∨ nu < 0 ∨ 9 < nu) → Q (some (.inl (w_i (-2)))) h2) (k2 : ∀ h2 : m_H, w_Inv g o h2 → w_fr o [0] h h2 → 0 ≤ kd → kd ≤ 5 → 0 ≤ nu → nu ≤ 9 → g_np g = 5 → Q (some (.inl (w_i (-4)))) h2) : wp (d + 4) 380928 [.inr (.inl (some 0)), .inl (w_i kd), .inl (w_i nu)] [] h Q := by
  have F := fr_rf (o := o) (h := h) (W := [0])
  have W := iv_wc iv
  have Wo := iv_wo iv
  refine w_run k_380928 (w_il (fun _ => rfl) (w_icI (x := 5) rfl ?_))
  refine w_ca (fun _ => rfl) rfl (c_isWithin (d := (d + 3)) iv (n := kd) (most := 5) (by omega) (by omega) (by omega) (by omega)   (fun b1 b2 => ⟨_, rfl, ?_⟩) (fun b3 => ⟨_, rfl, ?_⟩))
  · refine w_eqzf (by omega) (by omega) (by omega)  (w_il (fun _ => rfl) (w_icI (x := 9) rfl ?_))
    refine w_ca (fun _ => rfl) rfl (c_isWithin (d := (d + 3)) iv (n := nu) (most := 9) (by omega) (by omega) (by omega) (by omega)   (fun b4 b5 => ⟨_, rfl, ?_⟩) (fun b6 => ⟨_, rfl, ?_⟩))
    · refine w_nezt (by omega) (by omega) (by omega)  (w_run k_380948 (w_al (fun _ => rfl) ?_))
      obtain ⟨_, m7, rfl⟩ := iv_0 iv
      refine w_getf m7 rfl (fun _ => rfl) (w_icI (x := 5) rfl ?_)
      refine w_lt2 (by omega) (by omega) (by omega) (by omega)  (fun c8 => ?_) (fun c8 => ?_)
      · refine w_run k_380959 ?_
        obtain ⟨_, m9, kpr9, sta9, fnd9, kco9, rfl, l9_kpr, u9_kpr, l9_sta, u9_sta, l9_fnd, u9_fnd, l9_kco, u9_kco, f9_0, f9_1, f9_2, f9_3, f9_4, f9_5, f9_6⟩ := iv_9 iv
        obtain ⟨_, m10, l10, rfl, ll10, lp10, ln10⟩ := iv_17 iv
        have z11 := iv.2.2.2.2.1
        have z11w := iv.1
        refine w_al (fun _ => rfl) (w_getf m7 rfl (fun _ => rfl) (w_al (fun _ => rfl) (w_getf m7 rfl (fun _ => rfl) (w_il (fun _ => rfl) (w_il (fun _ => rfl) (w_ca (fun _ => rfl) rfl (w_run k_520192 (w_il (fun _ => rfl) ?_))))))))
        by_cases c12 : kd = 1
        · rw [show (kd : Int) = 1 from c12]
          refine w_tsw (t := 520228) (fun _ => rfl) (w_run k_520228 (w_new z11w (fun h13 s14 => ?_)))
          have z15 := s14.1
          have z15y := s14.2.1
          have z15w := s14.2.2.2.2
          refine w_dup (fun _ => rfl) (w_il (fun _ => rfl) (w_rcv (fun _ => rfl) (w_cv (fun _ => rfl) rfl (w_run k_278528 (w_al (fun _ => rfl) (w_il (fun _ => rfl) (w_rcv (fun _ => rfl) (w_cv (fun _ => rfl) rfl (w_run k_36864 (w_al (fun _ => rfl) (w_oi rfl (w_al (fun _ => rfl) (w_il (fun _ => rfl) (w_putf [.inl (w_i nu), .inl (w_i 0)] s14.2.2.1 rfl rfl rfl (fun _ => rfl) (fun h17 s16 => ?_)))))))))))))))
          have z19 := s16.1
          have z19y := s16.2.1
          have z19w := s16.2.2.2.2 z15w
          refine w_al (fun _ => rfl) (w_icI (x := 1) rfl (w_il (fun _ => rfl) (w_op (c := w_i (1 + nu)) (i_add 1 nu) (w_putf [.inl (w_i nu), .inl (w_i (1 + nu))] s16.2.2.1 rfl rfl rfl (fun _ => rfl) (fun h21 s20 => ?_)))))
          have z23 := s20.1
          have z23y := s20.2.1
          have z23w := s20.2.2.2.2 z19w
          refine w_rv ⟨rfl, ?_⟩
          refine w_rv ⟨rfl, ?_⟩
          refine w_ra ⟨_, rfl, ?_⟩
          have m24 := nw_fr s14 m10 (by omega)
          have m25 := st_fr s16 m24 (by omega)
          have m26 := st_fr s20 m25 (by omega)
          refine w_aastI m26 (by omega) (by omega) (by decide) (isC_of s20.2.2.1 rfl) (fun h28 s27 => ?_)
          have z29 := s27.1
          have z29y := s27.2.1
          have z29w := s27.2.2.2.2 z23w
          refine w_al (fun _ => rfl) (w_dup (fun _ => rfl) ?_)
          have m30 := nw_fr s14 m7 (by omega)
          have m31 := st_fr s16 m30 (by omega)
          have m32 := st_fr s20 m31 (by omega)
          have m33 := st_fr s27 m32 (by decide)
          refine w_getf m33 rfl (fun _ => rfl) (w_icI (x := 1) rfl (w_op (c := w_i (g_np g + 1)) (i_add (g_np g) 1) (w_putf [.inr (.inl (some 1)), .inr (.inl (some 5)), .inl (w_i (g_hi g)), .inr (.inl (some 9)), .inr (.inl (some 17)), .inl (w_i (g_np g + 1)), .inr (.inl (some 18)), .inr (.inl (some 23)), .inl (w_i (g_nt g)), .inr (.inl (some 24)), .inr (.inl (some 25)), .inr (.inl (some 26)), .inr (.inl (some 27))] m33 rfl rfl rfl (fun _ => rfl) (fun h35 s34 => ?_))))
          have z37 := s34.1
          have z37y := s34.2.1
          have z37w := s34.2.2.2.2 z29w
          refine w_al (fun _ => rfl) (w_getf s34.2.2.1 rfl (fun _ => rfl) ?_)
          have m38 := nw_fr s14 m9 (by omega)
          have m39 := st_fr s16 m38 (by omega)
          have m40 := st_fr s20 m39 (by omega)
          have m41 := st_fr s27 m40 (by decide)
          have m42 := st_fr s34 m41 (by decide)
          refine w_this (fun _ => rfl) m42 (w_cv (fun _ => rfl) rfl (w_run k_151552 (w_al (fun _ => rfl) (w_icI (x := 0) rfl (w_putf [.inr (.inl (some 1)), .inr (.inl (some 10)), .inl (w_i 0), .inr (.inl (some 11)), .inl (w_i sta9), .inr (.inl (some (g_rw g))), .inl (w_i fnd9), .inr (.inl (some (g_stp g))), .inr (.inl (some (g_ahd g))), .inr (.inl (some (g_cst g))), .inr (.inl (some (g_chp g))), .inl (w_i kco9)] m42 rfl rfl rfl (fun _ => rfl) (fun h44 s43 => ?_))))))
          have z46 := s43.1
          have z46y := s43.2.1
          have z46w := s43.2.2.2.2 z37w
          refine w_al (fun _ => rfl) (w_icI (x := (-1)) wn_1 (w_putf [.inr (.inl (some 1)), .inr (.inl (some 10)), .inl (w_i 0), .inr (.inl (some 11)), .inl (w_i (-1)), .inr (.inl (some (g_rw g))), .inl (w_i fnd9), .inr (.inl (some (g_stp g))), .inr (.inl (some (g_ahd g))), .inr (.inl (some (g_cst g))), .inr (.inl (some (g_chp g))), .inl (w_i kco9)] s43.2.2.1 rfl rfl rfl (fun _ => rfl) (fun h48 s47 => ?_)))
          have z50 := s47.1
          have z50y := s47.2.1
          have z50w := s47.2.2.2.2 z46w
          refine w_rv ⟨rfl, ?_⟩
          refine w_al (fun _ => rfl) ?_
          have m51 := st_fr s43 s34.2.2.1 (by decide)
          have m52 := st_fr s47 m51 (by decide)
          refine w_getf m52 rfl (fun _ => rfl) (w_icI (x := 1) rfl (w_op (c := w_i ((g_np g + 1) - 1)) (i_sub (g_np g + 1) 1) (w_ri ?_)))
          have F1 := F.1
          have F2 := F.2.1
          have m53 := st_fr s34 s27.2.2.1 (by decide)
          have m54 := st_fr s43 m53 (by decide)
          have m55 := st_fr s47 m54 (by decide)
          have m56 := st_fr s27 s20.2.2.1 (by omega)
          have m57 := st_fr s34 m56 (by omega)
          have m58 := st_fr s43 m57 (by omega)
          have m59 := st_fr s47 m58 (by omega)
          have ivn := pa_fin (kd := kd) (nu := nu) (e := _) iv (by omega) (by omega) (by omega) (by omega) z50w (by omega) (fun q hq n0 n9 n17 => (s47.2.2.2.1 q n9).trans ((s43.2.2.2.1 q n9).trans ((s34.2.2.2.1 q n0).trans ((s27.2.2.2.1 q n17).trans ((s20.2.2.2.1 q (by omega)).trans ((s16.2.2.2.1 q (by omega)).trans ((s14.2.2.2.1 q (by omega)).trans (rfl)))))))) m52 rfl s47.2.2.1 ⟨by omega, by omega, by omega, by omega, by omega, by omega⟩ m55 ll10 lp10 ln10 m59
          exact k0 _ (g_pa g kd nu) (o_nw o h.1 120 (g_np g).toNat) h48 ivn ch_gpa (onw_oe (g := g) iv.2.2.2.1 (Nat.le_refl _)) (by omega) (by omega) (by omega) (by omega) (by omega) ⟨rfl, if_pos rfl, if_pos rfl, fun j j0 j1 => ⟨if_neg (by omega), if_neg (by omega)⟩⟩
        by_cases c60 : kd = 2
        · rw [show (kd : Int) = 2 from c60]
          refine w_tsw (t := 520237) (fun _ => rfl) (w_run k_520237 (w_new z11w (fun h61 s62 => ?_)))
          have z63 := s62.1
          have z63y := s62.2.1
          have z63w := s62.2.2.2.2
          refine w_dup (fun _ => rfl) (w_il (fun _ => rfl) (w_rcv (fun _ => rfl) (w_cv (fun _ => rfl) rfl (w_run k_266240 (w_al (fun _ => rfl) (w_il (fun _ => rfl) (w_rcv (fun _ => rfl) (w_cv (fun _ => rfl) rfl (w_run k_36864 (w_al (fun _ => rfl) (w_oi rfl (w_al (fun _ => rfl) (w_il (fun _ => rfl) (w_putf [.inl (w_i nu), .inl (w_i 0)] s62.2.2.1 rfl rfl rfl (fun _ => rfl) (fun h65 s64 => ?_)))))))))))))))
          have z67 := s64.1
          have z67y := s64.2.1
          have z67w := s64.2.2.2.2 z63w
          refine w_al (fun _ => rfl) (w_icI (x := 1) rfl (w_il (fun _ => rfl) (w_op (c := w_i (1 + nu)) (i_add 1 nu) (w_putf [.inl (w_i nu), .inl (w_i (1 + nu))] s64.2.2.1 rfl rfl rfl (fun _ => rfl) (fun h69 s68 => ?_)))))
          have z71 := s68.1
          have z71y := s68.2.1
          have z71w := s68.2.2.2.2 z67w
          refine w_rv ⟨rfl, ?_⟩
          refine w_rv ⟨rfl, ?_⟩
          refine w_ra ⟨_, rfl, ?_⟩
          have m72 := nw_fr s62 m10 (by omega)
          have m73 := st_fr s64 m72 (by omega)
          have m74 := st_fr s68 m73 (by omega)
          refine w_aastI m74 (by omega) (by omega) (by decide) (isC_of s68.2.2.1 rfl) (fun h76 s75 => ?_)
          have z77 := s75.1
          have z77y := s75.2.1
          have z77w := s75.2.2.2.2 z71w
          refine w_al (fun _ => rfl) (w_dup (fun _ => rfl) ?_)
          have m78 := nw_fr s62 m7 (by omega)
          have m79 := st_fr s64 m78 (by omega)
          have m80 := st_fr s68 m79 (by omega)
          have m81 := st_fr s75 m80 (by decide)
          refine w_getf m81 rfl (fun _ => rfl) (w_icI (x := 1) rfl (w_op (c := w_i (g_np g + 1)) (i_add (g_np g) 1) (w_putf [.inr (.inl (some 1)), .inr (.inl (some 5)), .inl (w_i (g_hi g)), .inr (.inl (some 9)), .inr (.inl (some 17)), .inl (w_i (g_np g + 1)), .inr (.inl (some 18)), .inr (.inl (some 23)), .inl (w_i (g_nt g)), .inr (.inl (some 24)), .inr (.inl (some 25)), .inr (.inl (some 26)), .inr (.inl (some 27))] m81 rfl rfl rfl (fun _ => rfl) (fun h83 s82 => ?_))))
          have z85 := s82.1
          have z85y := s82.2.1
          have z85w := s82.2.2.2.2 z77w
          refine w_al (fun _ => rfl) (w_getf s82.2.2.1 rfl (fun _ => rfl) ?_)
          have m86 := nw_fr s62 m9 (by omega)
          have m87 := st_fr s64 m86 (by omega)
          have m88 := st_fr s68 m87 (by omega)
          have m89 := st_fr s75 m88 (by decide)
          have m90 := st_fr s82 m89 (by decide)
          refine w_this (fun _ => rfl) m90 (w_cv (fun _ => rfl) rfl (w_run k_151552 (w_al (fun _ => rfl) (w_icI (x := 0) rfl (w_putf [.inr (.inl (some 1)), .inr (.inl (some 10)), .inl (w_i 0), .inr (.inl (some 11)), .inl (w_i sta9), .inr (.inl (some (g_rw g))), .inl (w_i fnd9), .inr (.inl (some (g_stp g))), .inr (.inl (some (g_ahd g))), .inr (.inl (some (g_cst g))), .inr (.inl (some (g_chp g))), .inl (w_i kco9)] m90 rfl rfl rfl (fun _ => rfl) (fun h92 s91 => ?_))))))
          have z94 := s91.1
          have z94y := s91.2.1
          have z94w := s91.2.2.2.2 z85w
          refine w_al (fun _ => rfl) (w_icI (x := (-1)) wn_1 (w_putf [.inr (.inl (some 1)), .inr (.inl (some 10)), .inl (w_i 0), .inr (.inl (some 11)), .inl (w_i (-1)), .inr (.inl (some (g_rw g))), .inl (w_i fnd9), .inr (.inl (some (g_stp g))), .inr (.inl (some (g_ahd g))), .inr (.inl (some (g_cst g))), .inr (.inl (some (g_chp g))), .inl (w_i kco9)] s91.2.2.1 rfl rfl rfl (fun _ => rfl) (fun h96 s95 => ?_)))
          have z98 := s95.1
          have z98y := s95.2.1
          have z98w := s95.2.2.2.2 z94w
          refine w_rv ⟨rfl, ?_⟩
          refine w_al (fun _ => rfl) ?_
          have m99 := st_fr s91 s82.2.2.1 (by decide)
          have m100 := st_fr s95 m99 (by decide)
          refine w_getf m100 rfl (fun _ => rfl) (w_icI (x := 1) rfl (w_op (c := w_i ((g_np g + 1) - 1)) (i_sub (g_np g + 1) 1) (w_ri ?_)))
          have F1 := F.1
          have F2 := F.2.1
          have m101 := st_fr s82 s75.2.2.1 (by decide)
          have m102 := st_fr s91 m101 (by decide)
          have m103 := st_fr s95 m102 (by decide)
          have m104 := st_fr s75 s68.2.2.1 (by omega)
          have m105 := st_fr s82 m104 (by omega)
          have m106 := st_fr s91 m105 (by omega)
          have m107 := st_fr s95 m106 (by omega)
          have ivn := pa_fin (kd := kd) (nu := nu) (e := _) iv (by omega) (by omega) (by omega) (by omega) z98w (by omega) (fun q hq n0 n9 n17 => (s95.2.2.2.1 q n9).trans ((s91.2.2.2.1 q n9).trans ((s82.2.2.2.1 q n0).trans ((s75.2.2.2.1 q n17).trans ((s68.2.2.2.1 q (by omega)).trans ((s64.2.2.2.1 q (by omega)).trans ((s62.2.2.2.1 q (by omega)).trans (rfl)))))))) m100 rfl s95.2.2.1 ⟨by omega, by omega, by omega, by omega, by omega, by omega⟩ m103 ll10 lp10 ln10 m107
          exact k0 _ (g_pa g kd nu) (o_nw o h.1 120 (g_np g).toNat) h96 ivn ch_gpa (onw_oe (g := g) iv.2.2.2.1 (Nat.le_refl _)) (by omega) (by omega) (by omega) (by omega) (by omega) ⟨rfl, if_pos rfl, if_pos rfl, fun j j0 j1 => ⟨if_neg (by omega), if_neg (by omega)⟩⟩
        by_cases c108 : kd = 3
        · rw [show (kd : Int) = 3 from c108]
          refine w_tsw (t := 520246) (fun _ => rfl) (w_run k_520246 (w_new z11w (fun h109 s110 => ?_)))
          have z111 := s110.1
          have z111y := s110.2.1
          have z111w := s110.2.2.2.2
          refine w_dup (fun _ => rfl) (w_il (fun _ => rfl) (w_rcv (fun _ => rfl) (w_cv (fun _ => rfl) rfl (w_run k_16384 (w_al (fun _ => rfl) (w_il (fun _ => rfl) (w_rcv (fun _ => rfl) (w_cv (fun _ => rfl) rfl (w_run k_278528 (w_al (fun _ => rfl) (w_il (fun _ => rfl) (w_rcv (fun _ => rfl) (w_cv (fun _ => rfl) rfl (w_run k_36864 (w_al (fun _ => rfl) (w_oi rfl (w_al (fun _ => rfl) (w_il (fun _ => rfl) (w_putf [.inl (w_i nu), .inl (w_i 0)] s110.2.2.1 rfl rfl rfl (fun _ => rfl) (fun h113 s112 => ?_))))))))))))))))))))
          have z115 := s112.1
          have z115y := s112.2.1
          have z115w := s112.2.2.2.2 z111w
          refine w_al (fun _ => rfl) (w_icI (x := 1) rfl (w_il (fun _ => rfl) (w_op (c := w_i (1 + nu)) (i_add 1 nu) (w_putf [.inl (w_i nu), .inl (w_i (1 + nu))] s112.2.2.1 rfl rfl rfl (fun _ => rfl) (fun h117 s116 => ?_)))))
          have z119 := s116.1
          have z119y := s116.2.1
          have z119w := s116.2.2.2.2 z115w
          refine w_rv ⟨rfl, ?_⟩
          refine w_rv ⟨rfl, ?_⟩
          refine w_rv ⟨rfl, ?_⟩
          refine w_ra ⟨_, rfl, ?_⟩
          have m120 := nw_fr s110 m10 (by omega)
          have m121 := st_fr s112 m120 (by omega)
          have m122 := st_fr s116 m121 (by omega)
          refine w_aastI m122 (by omega) (by omega) (by decide) (isC_of s116.2.2.1 rfl) (fun h124 s123 => ?_)
          have z125 := s123.1
          have z125y := s123.2.1
          have z125w := s123.2.2.2.2 z119w
          refine w_al (fun _ => rfl) (w_dup (fun _ => rfl) ?_)
          have m126 := nw_fr s110 m7 (by omega)
          have m127 := st_fr s112 m126 (by omega)
          have m128 := st_fr s116 m127 (by omega)
          have m129 := st_fr s123 m128 (by decide)
          refine w_getf m129 rfl (fun _ => rfl) (w_icI (x := 1) rfl (w_op (c := w_i (g_np g + 1)) (i_add (g_np g) 1) (w_putf [.inr (.inl (some 1)), .inr (.inl (some 5)), .inl (w_i (g_hi g)), .inr (.inl (some 9)), .inr (.inl (some 17)), .inl (w_i (g_np g + 1)), .inr (.inl (some 18)), .inr (.inl (some 23)), .inl (w_i (g_nt g)), .inr (.inl (some 24)), .inr (.inl (some 25)), .inr (.inl (some 26)), .inr (.inl (some 27))] m129 rfl rfl rfl (fun _ => rfl) (fun h131 s130 => ?_))))
          have z133 := s130.1
          have z133y := s130.2.1
          have z133w := s130.2.2.2.2 z125w
          refine w_al (fun _ => rfl) (w_getf s130.2.2.1 rfl (fun _ => rfl) ?_)
          have m134 := nw_fr s110 m9 (by omega)
          have m135 := st_fr s112 m134 (by omega)
          have m136 := st_fr s116 m135 (by omega)
          have m137 := st_fr s123 m136 (by decide)
          have m138 := st_fr s130 m137 (by decide)
          refine w_this (fun _ => rfl) m138 (w_cv (fun _ => rfl) rfl (w_run k_151552 (w_al (fun _ => rfl) (w_icI (x := 0) rfl (w_putf [.inr (.inl (some 1)), .inr (.inl (some 10)), .inl (w_i 0), .inr (.inl (some 11)), .inl (w_i sta9), .inr (.inl (some (g_rw g))), .inl (w_i fnd9), .inr (.inl (some (g_stp g))), .inr (.inl (some (g_ahd g))), .inr (.inl (some (g_cst g))), .inr (.inl (some (g_chp g))), .inl (w_i kco9)] m138 rfl rfl rfl (fun _ => rfl) (fun h140 s139 => ?_))))))
          have z142 := s139.1
          have z142y := s139.2.1
          have z142w := s139.2.2.2.2 z133w
          refine w_al (fun _ => rfl) (w_icI (x := (-1)) wn_1 (w_putf [.inr (.inl (some 1)), .inr (.inl (some 10)), .inl (w_i 0), .inr (.inl (some 11)), .inl (w_i (-1)), .inr (.inl (some (g_rw g))), .inl (w_i fnd9), .inr (.inl (some (g_stp g))), .inr (.inl (some (g_ahd g))), .inr (.inl (some (g_cst g))), .inr (.inl (some (g_chp g))), .inl (w_i kco9)] s139.2.2.1 rfl rfl rfl (fun _ => rfl) (fun h144 s143 => ?_)))
          have z146 := s143.1
          have z146y := s143.2.1
          have z146w := s143.2.2.2.2 z142w
          refine w_rv ⟨rfl, ?_⟩
          refine w_al (fun _ => rfl) ?_
          have m147 := st_fr s139 s130.2.2.1 (by decide)
          have m148 := st_fr s143 m147 (by decide)
          refine w_getf m148 rfl (fun _ => rfl) (w_icI (x := 1) rfl (w_op (c := w_i ((g_np g + 1) - 1)) (i_sub (g_np g + 1) 1) (w_ri ?_)))
          have F1 := F.1
          have F2 := F.2.1
          have m149 := st_fr s130 s123.2.2.1 (by decide)
          have m150 := st_fr s139 m149 (by decide)
          have m151 := st_fr s143 m150 (by decide)
          have m152 := st_fr s123 s116.2.2.1 (by omega)
          have m153 := st_fr s130 m152 (by omega)
          have m154 := st_fr s139 m153 (by omega)
          have m155 := st_fr s143 m154 (by omega)
          have ivn := pa_fin (kd := kd) (nu := nu) (e := _) iv (by omega) (by omega) (by omega) (by omega) z146w (by omega) (fun q hq n0 n9 n17 => (s143.2.2.2.1 q n9).trans ((s139.2.2.2.1 q n9).trans ((s130.2.2.2.1 q n0).trans ((s123.2.2.2.1 q n17).trans ((s116.2.2.2.1 q (by omega)).trans ((s112.2.2.2.1 q (by omega)).trans ((s110.2.2.2.1 q (by omega)).trans (rfl)))))))) m148 rfl s143.2.2.1 ⟨by omega, by omega, by omega, by omega, by omega, by omega⟩ m151 ll10 lp10 ln10 m155
          exact k0 _ (g_pa g kd nu) (o_nw o h.1 120 (g_np g).toNat) h144 ivn ch_gpa (onw_oe (g := g) iv.2.2.2.1 (Nat.le_refl _)) (by omega) (by omega) (by omega) (by omega) (by omega) ⟨rfl, if_pos rfl, if_pos rfl, fun j j0 j1 => ⟨if_neg (by omega), if_neg (by omega)⟩⟩
        by_cases c156 : kd = 4
        · rw [show (kd : Int) = 4 from c156]
          refine w_tsw (t := 520255) (fun _ => rfl) (w_run k_520255 (w_new z11w (fun h157 s158 => ?_)))
          have z159 := s158.1
          have z159y := s158.2.1
          have z159w := s158.2.2.2.2
          refine w_dup (fun _ => rfl) (w_il (fun _ => rfl) (w_rcv (fun _ => rfl) (w_cv (fun _ => rfl) rfl (w_run k_28672 (w_al (fun _ => rfl) (w_il (fun _ => rfl) (w_rcv (fun _ => rfl) (w_cv (fun _ => rfl) rfl (w_run k_266240 (w_al (fun _ => rfl) (w_il (fun _ => rfl) (w_rcv (fun _ => rfl) (w_cv (fun _ => rfl) rfl (w_run k_36864 (w_al (fun _ => rfl) (w_oi rfl (w_al (fun _ => rfl) (w_il (fun _ => rfl) (w_putf [.inl (w_i nu), .inl (w_i 0)] s158.2.2.1 rfl rfl rfl (fun _ => rfl) (fun h161 s160 => ?_))))))))))))))))))))
          have z163 := s160.1
          have z163y := s160.2.1
          have z163w := s160.2.2.2.2 z159w
          refine w_al (fun _ => rfl) (w_icI (x := 1) rfl (w_il (fun _ => rfl) (w_op (c := w_i (1 + nu)) (i_add 1 nu) (w_putf [.inl (w_i nu), .inl (w_i (1 + nu))] s160.2.2.1 rfl rfl rfl (fun _ => rfl) (fun h165 s164 => ?_)))))
          have z167 := s164.1
          have z167y := s164.2.1
          have z167w := s164.2.2.2.2 z163w
          refine w_rv ⟨rfl, ?_⟩
          refine w_rv ⟨rfl, ?_⟩
          refine w_rv ⟨rfl, ?_⟩
          refine w_ra ⟨_, rfl, ?_⟩
          have m168 := nw_fr s158 m10 (by omega)
          have m169 := st_fr s160 m168 (by omega)
          have m170 := st_fr s164 m169 (by omega)
          refine w_aastI m170 (by omega) (by omega) (by decide) (isC_of s164.2.2.1 rfl) (fun h172 s171 => ?_)
          have z173 := s171.1
          have z173y := s171.2.1
          have z173w := s171.2.2.2.2 z167w
          refine w_al (fun _ => rfl) (w_dup (fun _ => rfl) ?_)
          have m174 := nw_fr s158 m7 (by omega)
          have m175 := st_fr s160 m174 (by omega)
          have m176 := st_fr s164 m175 (by omega)
          have m177 := st_fr s171 m176 (by decide)
          refine w_getf m177 rfl (fun _ => rfl) (w_icI (x := 1) rfl (w_op (c := w_i (g_np g + 1)) (i_add (g_np g) 1) (w_putf [.inr (.inl (some 1)), .inr (.inl (some 5)), .inl (w_i (g_hi g)), .inr (.inl (some 9)), .inr (.inl (some 17)), .inl (w_i (g_np g + 1)), .inr (.inl (some 18)), .inr (.inl (some 23)), .inl (w_i (g_nt g)), .inr (.inl (some 24)), .inr (.inl (some 25)), .inr (.inl (some 26)), .inr (.inl (some 27))] m177 rfl rfl rfl (fun _ => rfl) (fun h179 s178 => ?_))))
          have z181 := s178.1
          have z181y := s178.2.1
          have z181w := s178.2.2.2.2 z173w
          refine w_al (fun _ => rfl) (w_getf s178.2.2.1 rfl (fun _ => rfl) ?_)
          have m182 := nw_fr s158 m9 (by omega)
          have m183 := st_fr s160 m182 (by omega)
          have m184 := st_fr s164 m183 (by omega)
          have m185 := st_fr s171 m184 (by decide)
          have m186 := st_fr s178 m185 (by decide)
          refine w_this (fun _ => rfl) m186 (w_cv (fun _ => rfl) rfl (w_run k_151552 (w_al (fun _ => rfl) (w_icI (x := 0) rfl (w_putf [.inr (.inl (some 1)), .inr (.inl (some 10)), .inl (w_i 0), .inr (.inl (some 11)), .inl (w_i sta9), .inr (.inl (some (g_rw g))), .inl (w_i fnd9), .inr (.inl (some (g_stp g))), .inr (.inl (some (g_ahd g))), .inr (.inl (some (g_cst g))), .inr (.inl (some (g_chp g))), .inl (w_i kco9)] m186 rfl rfl rfl (fun _ => rfl) (fun h188 s187 => ?_))))))
          have z190 := s187.1
          have z190y := s187.2.1
          have z190w := s187.2.2.2.2 z181w
          refine w_al (fun _ => rfl) (w_icI (x := (-1)) wn_1 (w_putf [.inr (.inl (some 1)), .inr (.inl (some 10)), .inl (w_i 0), .inr (.inl (some 11)), .inl (w_i (-1)), .inr (.inl (some (g_rw g))), .inl (w_i fnd9), .inr (.inl (some (g_stp g))), .inr (.inl (some (g_ahd g))), .inr (.inl (some (g_cst g))), .inr (.inl (some (g_chp g))), .inl (w_i kco9)] s187.2.2.1 rfl rfl rfl (fun _ => rfl) (fun h192 s191 => ?_)))
          have z194 := s191.1
          have z194y := s191.2.1
          have z194w := s191.2.2.2.2 z190w
          refine w_rv ⟨rfl, ?_⟩
          refine w_al (fun _ => rfl) ?_
          have m195 := st_fr s187 s178.2.2.1 (by decide)
          have m196 := st_fr s191 m195 (by decide)
          refine w_getf m196 rfl (fun _ => rfl) (w_icI (x := 1) rfl (w_op (c := w_i ((g_np g + 1) - 1)) (i_sub (g_np g + 1) 1) (w_ri ?_)))
          have F1 := F.1
          have F2 := F.2.1
          have m197 := st_fr s178 s171.2.2.1 (by decide)
          have m198 := st_fr s187 m197 (by decide)
          have m199 := st_fr s191 m198 (by decide)
          have m200 := st_fr s171 s164.2.2.1 (by omega)
          have m201 := st_fr s178 m200 (by omega)
          have m202 := st_fr s187 m201 (by omega)
          have m203 := st_fr s191 m202 (by omega)
          have ivn := pa_fin (kd := kd) (nu := nu) (e := _) iv (by omega) (by omega) (by omega) (by omega) z194w (by omega) (fun q hq n0 n9 n17 => (s191.2.2.2.1 q n9).trans ((s187.2.2.2.1 q n9).trans ((s178.2.2.2.1 q n0).trans ((s171.2.2.2.1 q n17).trans ((s164.2.2.2.1 q (by omega)).trans ((s160.2.2.2.1 q (by omega)).trans ((s158.2.2.2.1 q (by omega)).trans (rfl)))))))) m196 rfl s191.2.2.1 ⟨by omega, by omega, by omega, by omega, by omega, by omega⟩ m199 ll10 lp10 ln10 m203
          exact k0 _ (g_pa g kd nu) (o_nw o h.1 120 (g_np g).toNat) h192 ivn ch_gpa (onw_oe (g := g) iv.2.2.2.1 (Nat.le_refl _)) (by omega) (by omega) (by omega) (by omega) (by omega) ⟨rfl, if_pos rfl, if_pos rfl, fun j j0 j1 => ⟨if_neg (by omega), if_neg (by omega)⟩⟩
        by_cases c204 : kd = 5
        · rw [show (kd : Int) = 5 from c204]
          refine w_tsw (t := 520264) (fun _ => rfl) (w_run k_520264 (w_new z11w (fun h205 s206 => ?_)))
          have z207 := s206.1
          have z207y := s206.2.1
          have z207w := s206.2.2.2.2
          refine w_dup (fun _ => rfl) (w_il (fun _ => rfl) (w_rcv (fun _ => rfl) (w_cv (fun _ => rfl) rfl (w_run k_4096 (w_al (fun _ => rfl) (w_il (fun _ => rfl) (w_rcv (fun _ => rfl) (w_cv (fun _ => rfl) rfl (w_run k_266240 (w_al (fun _ => rfl) (w_il (fun _ => rfl) (w_rcv (fun _ => rfl) (w_cv (fun _ => rfl) rfl (w_run k_36864 (w_al (fun _ => rfl) (w_oi rfl (w_al (fun _ => rfl) (w_il (fun _ => rfl) (w_putf [.inl (w_i nu), .inl (w_i 0)] s206.2.2.1 rfl rfl rfl (fun _ => rfl) (fun h209 s208 => ?_))))))))))))))))))))
          have z211 := s208.1
          have z211y := s208.2.1
          have z211w := s208.2.2.2.2 z207w
          refine w_al (fun _ => rfl) (w_icI (x := 1) rfl (w_il (fun _ => rfl) (w_op (c := w_i (1 + nu)) (i_add 1 nu) (w_putf [.inl (w_i nu), .inl (w_i (1 + nu))] s208.2.2.1 rfl rfl rfl (fun _ => rfl) (fun h213 s212 => ?_)))))
          have z215 := s212.1
          have z215y := s212.2.1
          have z215w := s212.2.2.2.2 z211w
          refine w_rv ⟨rfl, ?_⟩
          refine w_rv ⟨rfl, ?_⟩
          refine w_rv ⟨rfl, ?_⟩
          refine w_ra ⟨_, rfl, ?_⟩
          have m216 := nw_fr s206 m10 (by omega)
          have m217 := st_fr s208 m216 (by omega)
          have m218 := st_fr s212 m217 (by omega)
          refine w_aastI m218 (by omega) (by omega) (by decide) (isC_of s212.2.2.1 rfl) (fun h220 s219 => ?_)
          have z221 := s219.1
          have z221y := s219.2.1
          have z221w := s219.2.2.2.2 z215w
          refine w_al (fun _ => rfl) (w_dup (fun _ => rfl) ?_)
          have m222 := nw_fr s206 m7 (by omega)
          have m223 := st_fr s208 m222 (by omega)
          have m224 := st_fr s212 m223 (by omega)
          have m225 := st_fr s219 m224 (by decide)
          refine w_getf m225 rfl (fun _ => rfl) (w_icI (x := 1) rfl (w_op (c := w_i (g_np g + 1)) (i_add (g_np g) 1) (w_putf [.inr (.inl (some 1)), .inr (.inl (some 5)), .inl (w_i (g_hi g)), .inr (.inl (some 9)), .inr (.inl (some 17)), .inl (w_i (g_np g + 1)), .inr (.inl (some 18)), .inr (.inl (some 23)), .inl (w_i (g_nt g)), .inr (.inl (some 24)), .inr (.inl (some 25)), .inr (.inl (some 26)), .inr (.inl (some 27))] m225 rfl rfl rfl (fun _ => rfl) (fun h227 s226 => ?_))))
          have z229 := s226.1
          have z229y := s226.2.1
          have z229w := s226.2.2.2.2 z221w
          refine w_al (fun _ => rfl) (w_getf s226.2.2.1 rfl (fun _ => rfl) ?_)
          have m230 := nw_fr s206 m9 (by omega)
          have m231 := st_fr s208 m230 (by omega)
          have m232 := st_fr s212 m231 (by omega)
          have m233 := st_fr s219 m232 (by decide)
          have m234 := st_fr s226 m233 (by decide)
          refine w_this (fun _ => rfl) m234 (w_cv (fun _ => rfl) rfl (w_run k_151552 (w_al (fun _ => rfl) (w_icI (x := 0) rfl (w_putf [.inr (.inl (some 1)), .inr (.inl (some 10)), .inl (w_i 0), .inr (.inl (some 11)), .inl (w_i sta9), .inr (.inl (some (g_rw g))), .inl (w_i fnd9), .inr (.inl (some (g_stp g))), .inr (.inl (some (g_ahd g))), .inr (.inl (some (g_cst g))), .inr (.inl (some (g_chp g))), .inl (w_i kco9)] m234 rfl rfl rfl (fun _ => rfl) (fun h236 s235 => ?_))))))
          have z238 := s235.1
          have z238y := s235.2.1
          have z238w := s235.2.2.2.2 z229w
          refine w_al (fun _ => rfl) (w_icI (x := (-1)) wn_1 (w_putf [.inr (.inl (some 1)), .inr (.inl (some 10)), .inl (w_i 0), .inr (.inl (some 11)), .inl (w_i (-1)), .inr (.inl (some (g_rw g))), .inl (w_i fnd9), .inr (.inl (some (g_stp g))), .inr (.inl (some (g_ahd g))), .inr (.inl (some (g_cst g))), .inr (.inl (some (g_chp g))), .inl (w_i kco9)] s235.2.2.1 rfl rfl rfl (fun _ => rfl) (fun h240 s239 => ?_)))
          have z242 := s239.1
          have z242y := s239.2.1
          have z242w := s239.2.2.2.2 z238w
          refine w_rv ⟨rfl, ?_⟩
          refine w_al (fun _ => rfl) ?_
          have m243 := st_fr s235 s226.2.2.1 (by decide)
          have m244 := st_fr s239 m243 (by decide)
          refine w_getf m244 rfl (fun _ => rfl) (w_icI (x := 1) rfl (w_op (c := w_i ((g_np g + 1) - 1)) (i_sub (g_np g + 1) 1) (w_ri ?_)))
          have F1 := F.1
          have F2 := F.2.1
          have m245 := st_fr s226 s219.2.2.1 (by decide)
          have m246 := st_fr s235 m245 (by decide)
          have m247 := st_fr s239 m246 (by decide)
          have m248 := st_fr s219 s212.2.2.1 (by omega)
          have m249 := st_fr s226 m248 (by omega)
          have m250 := st_fr s235 m249 (by omega)
          have m251 := st_fr s239 m250 (by omega)
          have ivn := pa_fin (kd := kd) (nu := nu) (e := _) iv (by omega) (by omega) (by omega) (by omega) z242w (by omega) (fun q hq n0 n9 n17 => (s239.2.2.2.1 q n9).trans ((s235.2.2.2.1 q n9).trans ((s226.2.2.2.1 q n0).trans ((s219.2.2.2.1 q n17).trans ((s212.2.2.2.1 q (by omega)).trans ((s208.2.2.2.1 q (by omega)).trans ((s206.2.2.2.1 q (by omega)).trans (rfl)))))))) m244 rfl s239.2.2.1 ⟨by omega, by omega, by omega, by omega, by omega, by omega⟩ m247 ll10 lp10 ln10 m251
          exact k0 _ (g_pa g kd nu) (o_nw o h.1 120 (g_np g).toNat) h240 ivn ch_gpa (onw_oe (g := g) iv.2.2.2.1 (Nat.le_refl _)) (by omega) (by omega) (by omega) (by omega) (by omega) ⟨rfl, if_pos rfl, if_pos rfl, fun j j0 j1 => ⟨if_neg (by omega), if_neg (by omega)⟩⟩
        refine w_tswL (by omega) (by omega) (by show _ < ((1 : Nat) : Int) ∨ ((6 : Nat) : Int) ≤ _; omega) (by decide) (w_run k_520273 (w_new z11w (fun h252 s253 => ?_)))
        have z254 := s253.1
        have z254y := s253.2.1
        have z254w := s253.2.2.2.2
        refine w_dup (fun _ => rfl) (w_il (fun _ => rfl) (w_rcv (fun _ => rfl) (w_cv (fun _ => rfl) rfl (w_run k_36864 (w_al (fun _ => rfl) (w_oi rfl (w_al (fun _ => rfl) (w_il (fun _ => rfl) (w_putf [.inl (w_i nu), .inl (w_i 0)] s253.2.2.1 rfl rfl rfl (fun _ => rfl) (fun h256 s255 => ?_))))))))))
        have z258 := s255.1
        have z258y := s255.2.1
        have z258w := s255.2.2.2.2 z254w
        refine w_al (fun _ => rfl) (w_icI (x := 1) rfl (w_il (fun _ => rfl) (w_op (c := w_i (1 + nu)) (i_add 1 nu) (w_putf [.inl (w_i nu), .inl (w_i (1 + nu))] s255.2.2.1 rfl rfl rfl (fun _ => rfl) (fun h260 s259 => ?_)))))
        have z262 := s259.1
        have z262y := s259.2.1
        have z262w := s259.2.2.2.2 z258w
        refine w_rv ⟨rfl, ?_⟩
        refine w_ra ⟨_, rfl, ?_⟩
        have m263 := nw_fr s253 m10 (by omega)
        have m264 := st_fr s255 m263 (by omega)
        have m265 := st_fr s259 m264 (by omega)
        refine w_aastI m265 (by omega) (by omega) (by decide) (isC_of s259.2.2.1 rfl) (fun h267 s266 => ?_)
        have z268 := s266.1
        have z268y := s266.2.1
        have z268w := s266.2.2.2.2 z262w
        refine w_al (fun _ => rfl) (w_dup (fun _ => rfl) ?_)
        have m269 := nw_fr s253 m7 (by omega)
        have m270 := st_fr s255 m269 (by omega)
        have m271 := st_fr s259 m270 (by omega)
        have m272 := st_fr s266 m271 (by decide)
        refine w_getf m272 rfl (fun _ => rfl) (w_icI (x := 1) rfl (w_op (c := w_i (g_np g + 1)) (i_add (g_np g) 1) (w_putf [.inr (.inl (some 1)), .inr (.inl (some 5)), .inl (w_i (g_hi g)), .inr (.inl (some 9)), .inr (.inl (some 17)), .inl (w_i (g_np g + 1)), .inr (.inl (some 18)), .inr (.inl (some 23)), .inl (w_i (g_nt g)), .inr (.inl (some 24)), .inr (.inl (some 25)), .inr (.inl (some 26)), .inr (.inl (some 27))] m272 rfl rfl rfl (fun _ => rfl) (fun h274 s273 => ?_))))
        have z276 := s273.1
        have z276y := s273.2.1
        have z276w := s273.2.2.2.2 z268w
        refine w_al (fun _ => rfl) (w_getf s273.2.2.1 rfl (fun _ => rfl) ?_)
        have m277 := nw_fr s253 m9 (by omega)
        have m278 := st_fr s255 m277 (by omega)
        have m279 := st_fr s259 m278 (by omega)
        have m280 := st_fr s266 m279 (by decide)
        have m281 := st_fr s273 m280 (by decide)
        refine w_this (fun _ => rfl) m281 (w_cv (fun _ => rfl) rfl (w_run k_151552 (w_al (fun _ => rfl) (w_icI (x := 0) rfl (w_putf [.inr (.inl (some 1)), .inr (.inl (some 10)), .inl (w_i 0), .inr (.inl (some 11)), .inl (w_i sta9), .inr (.inl (some (g_rw g))), .inl (w_i fnd9), .inr (.inl (some (g_stp g))), .inr (.inl (some (g_ahd g))), .inr (.inl (some (g_cst g))), .inr (.inl (some (g_chp g))), .inl (w_i kco9)] m281 rfl rfl rfl (fun _ => rfl) (fun h283 s282 => ?_))))))
        have z285 := s282.1
        have z285y := s282.2.1
        have z285w := s282.2.2.2.2 z276w
        refine w_al (fun _ => rfl) (w_icI (x := (-1)) wn_1 (w_putf [.inr (.inl (some 1)), .inr (.inl (some 10)), .inl (w_i 0), .inr (.inl (some 11)), .inl (w_i (-1)), .inr (.inl (some (g_rw g))), .inl (w_i fnd9), .inr (.inl (some (g_stp g))), .inr (.inl (some (g_ahd g))), .inr (.inl (some (g_cst g))), .inr (.inl (some (g_chp g))), .inl (w_i kco9)] s282.2.2.1 rfl rfl rfl (fun _ => rfl) (fun h287 s286 => ?_)))
        have z289 := s286.1
        have z289y := s286.2.1
        have z289w := s286.2.2.2.2 z285w
        refine w_rv ⟨rfl, ?_⟩
        refine w_al (fun _ => rfl) ?_
        have m290 := st_fr s282 s273.2.2.1 (by decide)
        have m291 := st_fr s286 m290 (by decide)
        refine w_getf m291 rfl (fun _ => rfl) (w_icI (x := 1) rfl (w_op (c := w_i ((g_np g + 1) - 1)) (i_sub (g_np g + 1) 1) (w_ri ?_)))
        have F1 := F.1
        have F2 := F.2.1
        have m292 := st_fr s273 s266.2.2.1 (by decide)
        have m293 := st_fr s282 m292 (by decide)
        have m294 := st_fr s286 m293 (by decide)
        have m295 := st_fr s266 s259.2.2.1 (by omega)
        have m296 := st_fr s273 m295 (by omega)
        have m297 := st_fr s282 m296 (by omega)
        have m298 := st_fr s286 m297 (by omega)
        have ivn := pa_fin (kd := kd) (nu := nu) (e := _) iv (by omega) (by omega) (by omega) (by omega) z289w (by omega) (fun q hq n0 n9 n17 => (s286.2.2.2.1 q n9).trans ((s282.2.2.2.1 q n9).trans ((s273.2.2.2.1 q n0).trans ((s266.2.2.2.1 q n17).trans ((s259.2.2.2.1 q (by omega)).trans ((s255.2.2.2.1 q (by omega)).trans ((s253.2.2.2.1 q (by omega)).trans (rfl)))))))) m291 rfl s286.2.2.1 ⟨by omega, by omega, by omega, by omega, by omega, by omega⟩ m294 ll10 lp10 ln10 m298
        exact k0 _ (g_pa g kd nu) (o_nw o h.1 120 (g_np g).toNat) h287 ivn ch_gpa (onw_oe (g := g) iv.2.2.2.1 (Nat.le_refl _)) (by omega) (by omega) (by omega) (by omega) (by omega) ⟨rfl, if_pos rfl, if_pos rfl, fun j j0 j1 => ⟨if_neg (by omega), if_neg (by omega)⟩⟩
      · refine w_icI (x := (-4)) wn_4 (w_ri ?_)
        exact k2 h iv F (by omega) (by omega) (by omega) (by omega) (by omega)
    · refine w_nezf (by omega) (by omega) (by omega)  (w_icI (x := (-2)) wn_2 (w_ri ?_))
      exact k1 h iv F (by omega)
  · refine w_eqzt (by omega) (by omega) (by omega)  (w_run k_380945 (w_icI (x := (-2)) wn_2 (w_ri ?_)))
    exact k1 h iv F (by omega)
theorem k_368640 : m_cg 368640 = g_90_0 := rfl
theorem k_368662 : m_cg 368662 = g_90_22 := rfl
theorem k_368692 : m_cg 368692 = g_90_52 := rfl
theorem k_323584 : m_cg 323584 = g_79_0 := rfl
theorem k_323611 : m_cg 323611 = g_79_27 := rfl
theorem k_323641 : m_cg 323641 = g_79_57 := rfl
theorem k_368693 : m_cg 368693 = g_90_53 := rfl
theorem k_323612 : m_cg 323612 = g_79_28 := rfl
theorem k_323642 : m_cg 323642 = g_79_58 := rfl
theorem k_368659 : m_cg 368659 = g_90_19 := rfl
theorem c_touch {g : w_G} {o : w_O} {h : m_H} {d : Nat} {Q : Option m_V → m_H → Prop} (iv : w_Inv g o h) {a : Int} {b : Int} {is_ : Int} (a_lo : -2147483648 ≤ a) (a_hi : a ≤ 2147483647) (b_lo : -2147483648 ≤ b) (b_hi : b ≤ 2147483647) (is__lo : -2147483648 ≤ is_) (is__hi : is_ ≤ 2147483647) (k0 : ∀ (x : Int) (g2 : w_G) (o2 : w_O) (h2 : m_H), w_Inv g2 o2 h2 → w_ch [] [0] g g2 → w_oe o o2 → h2.1 ≤ h.1 + 3 → h2.2.1 ≤ h.2.1 + 200 → Q (some (.inl (w_i x))) h2) (k1 : ∀ (x : Int), ∀ h2 : m_H, w_Inv g o h2 → w_fr o [9] h h2 → -2147483648 ≤ x → x ≤ 2147483647 → Q (some (.inl (w_i x))) h2) : wp (d + 2) 368640 [.inr (.inl (some 0)), .inl (w_i a), .inl (w_i b), .inl (w_i is_), .inr (.inr (.inl 0))] [] h Q := by
  have F := fr_rf (o := o) (h := h) (W := [9])
  have W := iv_wc iv
  refine w_run k_368640 (w_al (fun _ => rfl) ?_)
  obtain ⟨_, m1, rfl⟩ := iv_0 iv
  refine w_getf m1 rfl (fun _ => rfl) (w_il (fun _ => rfl) (w_il (fun _ => rfl) ?_))
  obtain ⟨_, m2, kp2, sp2, rl2, rfl, l2_kp, u2_kp, l2_sp, u2_sp, l2_rl, u2_rl, f2_0, f2_1⟩ := iv_1 iv
  refine w_this (fun _ => rfl) m2 ?_
  refine w_ca (fun _ => rfl) rfl (c_areTwo (d := d) iv (a := a) (b := b) (by omega) (by omega) (by omega) (by omega)   (fun b3 b4 b5 b6 b7 => ⟨_, rfl, ?_⟩) (fun b8 => ⟨_, rfl, ?_⟩))
  · refine w_eqzf (by omega) (by omega) (by omega)  (w_il (fun _ => rfl) ?_)
    refine w_ca (fun _ => rfl) rfl (c_isFlag (d := (d + 1)) iv (n := is_) (by omega) (by omega)   (fun b9 b10 => ⟨_, rfl, ?_⟩) (fun b11 => ⟨_, rfl, ?_⟩))
    · refine w_nezt (by omega) (by omega) (by omega)  (w_run k_368662 (w_al (fun _ => rfl) (w_getf m1 rfl (fun _ => rfl) (w_getf m2 rfl (fun _ => rfl) (w_il (fun _ => rfl) ?_)))))
      obtain ⟨_, m12, A12, rfl, e12⟩ := iv_2 iv
      refine w_aldI m12 (by omega) (by omega) (by omega) ?_
      obtain ⟨b13, b14⟩ := ag_rg A12 a
      have e15 := e12 a (by omega) (by omega)
      refine w_il (fun _ => rfl) (w_opR shr_lt (fun x16 x160 x161 x16e => ?_))
      refine w_icI (x := 1) rfl (w_op01 and_1 (fun x17 x170 x171 x17e => ?_))
      refine w_is (fun _ => rfl) ?_
      have z18 := iv.2.2.2.2.1
      have z18w := iv.1
      refine w_al (fun _ => rfl) (w_getf m1 rfl (fun _ => rfl) (w_il (fun _ => rfl) (w_il (fun _ => rfl) (w_il (fun _ => rfl) (w_icI (x := 1) rfl ?_)))))
      refine w_ne2 (by omega) (by omega) (by omega) (by omega)  (fun c19 => ?_) (fun c19 => ?_)
      · refine w_run k_368692 (w_icI (x := 0) rfl (w_this (fun _ => rfl) m2 (w_cv (fun _ => rfl) rfl (w_run k_323584 (w_al (fun _ => rfl) (w_getf m2 rfl (fun _ => rfl) (w_il (fun _ => rfl) (w_al (fun _ => rfl) (w_getf m2 rfl (fun _ => rfl) (w_il (fun _ => rfl) (w_aldI m12 (by omega) (by omega) (by decide) ?_)))))))))))
        obtain ⟨b20, b21⟩ := ag_rg A12 a
        have e22 := e12 a (by omega) (by omega)
        refine w_icI (x := 1) rfl (w_il (fun _ => rfl) (w_opR shl_lt (fun x23 x230 x231 x23e => ?_)))
        refine w_icI (x := (-1)) wn_1 (w_opR xor_lt (fun x24 x240 x241 x24e => ?_))
        refine w_opR and_lt (fun x25 x250 x251 x25e => ?_)
        refine w_il (fun _ => rfl) (w_eqzt (by decide) (by decide) (by decide)  (w_run k_323611 (w_icI (x := 0) rfl ?_)))
        refine w_opR or_lt (fun x26 x260 x261 x26e => ?_)
        have hTa := wf_T iv a (by omega) (by omega)
        have eTa := e12 a (by omega) (by omega)
        have hxa := lk_63 (T := (a_g A12 a)) (b := b) (by omega) (by omega) (by omega) (by omega) x23e x24e x25e (Or.inr rfl) x26e (by omega) (by omega)
        refine w_astI m12 (by omega) (by omega) (by decide) (by omega) (by omega) (fun A29 h28 w30 s27 => ?_)
        have z31 := s27.1
        have z31y := s27.2.1
        have z31w := s27.2.2.2.2 z18w
        refine w_al (fun _ => rfl) ?_
        have m32 := st_fr s27 m2 (by decide)
        refine w_getf m32 rfl (fun _ => rfl) (w_il (fun _ => rfl) (w_al (fun _ => rfl) (w_getf m32 rfl (fun _ => rfl) (w_il (fun _ => rfl) (w_aldI s27.2.2.1 (by omega) (by omega) (by decide) ?_)))))
        obtain ⟨b33, b34⟩ := ag_rg A29 b
        refine w_icI (x := 1) rfl (w_il (fun _ => rfl) (w_opR shl_lt (fun x35 x350 x351 x35e => ?_)))
        refine w_icI (x := (-1)) wn_1 (w_opR xor_lt (fun x36 x360 x361 x36e => ?_))
        refine w_opR and_lt (fun x37 x370 x371 x37e => ?_)
        refine w_il (fun _ => rfl) (w_eqzt (by decide) (by decide) (by decide)  (w_run k_323641 (w_icI (x := 0) rfl ?_)))
        refine w_opR or_lt (fun x38 x380 x381 x38e => ?_)
        have hTb := wf_T iv b (by omega) (by omega)
        have eTb := e12 b (by omega) (by omega)
        have eb2 : a_g A29 b = a_g A12 b := (w30 b (by omega) (by omega)).trans (if_neg (by omega))
        have hxb := lk_63 (T := (a_g A29 b)) (b := a) (by omega) (by omega) (by omega) (by omega) x35e x36e x37e (Or.inr rfl) x38e (by omega) (by omega)
        refine w_astI s27.2.2.1 (by omega) (by omega) (by decide) (by omega) (by omega) (fun A41 h40 w42 s39 => ?_)
        have z43 := s39.1
        have z43y := s39.2.1
        have z43w := s39.2.2.2.2 z31w
        refine w_rv ⟨rfl, ?_⟩
        have F1 := F.1
        have F2 := F.2.1
        have E1 : h40.1 = h.1 := by omega
        have E2 : h40.2.1 = h.2.1 := by omega
        have hA : ∀ j : Int, 0 ≤ j → j < 6 → 0 ≤ a_g A41 j ∧ a_g A41 j ≤ 63 := fun j j0 j1 => by
          rw [w42 j j0 (by omega)]
          by_cases hb : j = b
          · rw [if_pos hb]; exact hxb
          · rw [if_neg hb, w30 j j0 (by omega)]
            by_cases ha : j = a
            · rw [if_pos ha]; exact hxa
            · rw [if_neg ha, e12 j j0 (by omega)]; exact wf_T iv j j0 (by omega)
        have ivn := to_fin iv z43w (by omega) (fun q n2 => (s39.2.2.2.1 q n2).trans ((s27.2.2.2.1 q n2).trans (rfl))) s39.2.2.1 hA
        obtain ⟨g, ivq, chg⟩ : ∃ g2 : w_G, w_Inv g2 o h40 ∧ w_ch [] [0] g g2 := ⟨_, ivn, ch_gto⟩
        have W := iv_wc ivq
        have Fq := fr_rf (o := o) (h := h40) (W := [9])
        refine w_al (fun _ => rfl) ?_
        obtain ⟨_, m44, rfl⟩ := iv_0 ivq
        refine w_getf m44 rfl (fun _ => rfl) ?_
        obtain ⟨_, m45, kpr45, sta45, fnd45, kco45, rfl, l45_kpr, u45_kpr, l45_sta, u45_sta, l45_fnd, u45_fnd, l45_kco, u45_kco, f45_0, f45_1, f45_2, f45_3, f45_4, f45_5, f45_6⟩ := iv_9 ivq
        refine w_this (fun _ => rfl) m45 ?_
        refine w_cv (fun _ => rfl) rfl (c_forget (d := (d + 1)) ivq     (fun h46 iv47 F48 => ⟨rfl, ?_⟩))
        have F49 := fr_ca Fq F48 (fun t ht => by exact ht)
        refine w_il (fun _ => rfl) (w_ri ?_)
        exact k0 _ g o h46 iv47 chg oe_rf (by have := F49.1; omega) (by have := F49.2.1; omega)
      · refine w_icI (x := 1) rfl (w_go (w_run k_368693 (w_this (fun _ => rfl) m2 (w_cv (fun _ => rfl) rfl (w_run k_323584 (w_al (fun _ => rfl) (w_getf m2 rfl (fun _ => rfl) (w_il (fun _ => rfl) (w_al (fun _ => rfl) (w_getf m2 rfl (fun _ => rfl) (w_il (fun _ => rfl) (w_aldI m12 (by omega) (by omega) (by decide) ?_))))))))))))
        obtain ⟨b50, b51⟩ := ag_rg A12 a
        have e52 := e12 a (by omega) (by omega)
        refine w_icI (x := 1) rfl (w_il (fun _ => rfl) (w_opR shl_lt (fun x53 x530 x531 x53e => ?_)))
        refine w_icI (x := (-1)) wn_1 (w_opR xor_lt (fun x54 x540 x541 x54e => ?_))
        refine w_opR and_lt (fun x55 x550 x551 x55e => ?_)
        refine w_il (fun _ => rfl) (w_eqzf (by decide) (by decide) (by decide)  (w_icI (x := 1) rfl (w_il (fun _ => rfl) (w_opR shl_lt (fun x56 x560 x561 x56e => ?_)))))
        refine w_go (w_run k_323612 ?_)
        refine w_opR or_lt (fun x57 x570 x571 x57e => ?_)
        have hTa := wf_T iv a (by omega) (by omega)
        have eTa := e12 a (by omega) (by omega)
        have hxa := lk_63 (T := (a_g A12 a)) (b := b) (by omega) (by omega) (by omega) (by omega) x53e x54e x55e (Or.inl x56e.symm) x57e (by omega) (by omega)
        refine w_astI m12 (by omega) (by omega) (by decide) (by omega) (by omega) (fun A60 h59 w61 s58 => ?_)
        have z62 := s58.1
        have z62y := s58.2.1
        have z62w := s58.2.2.2.2 z18w
        refine w_al (fun _ => rfl) ?_
        have m63 := st_fr s58 m2 (by decide)
        refine w_getf m63 rfl (fun _ => rfl) (w_il (fun _ => rfl) (w_al (fun _ => rfl) (w_getf m63 rfl (fun _ => rfl) (w_il (fun _ => rfl) (w_aldI s58.2.2.1 (by omega) (by omega) (by decide) ?_)))))
        obtain ⟨b64, b65⟩ := ag_rg A60 b
        refine w_icI (x := 1) rfl (w_il (fun _ => rfl) (w_opR shl_lt (fun x66 x660 x661 x66e => ?_)))
        refine w_icI (x := (-1)) wn_1 (w_opR xor_lt (fun x67 x670 x671 x67e => ?_))
        refine w_opR and_lt (fun x68 x680 x681 x68e => ?_)
        refine w_il (fun _ => rfl) (w_eqzf (by decide) (by decide) (by decide)  (w_icI (x := 1) rfl (w_il (fun _ => rfl) (w_opR shl_lt (fun x69 x690 x691 x69e => ?_)))))
        refine w_go (w_run k_323642 ?_)
        refine w_opR or_lt (fun x70 x700 x701 x70e => ?_)
        have hTb := wf_T iv b (by omega) (by omega)
        have eTb := e12 b (by omega) (by omega)
        have eb2 : a_g A60 b = a_g A12 b := (w61 b (by omega) (by omega)).trans (if_neg (by omega))
        have hxb := lk_63 (T := (a_g A60 b)) (b := a) (by omega) (by omega) (by omega) (by omega) x66e x67e x68e (Or.inl x69e.symm) x70e (by omega) (by omega)
        refine w_astI s58.2.2.1 (by omega) (by omega) (by decide) (by omega) (by omega) (fun A73 h72 w74 s71 => ?_)
        have z75 := s71.1
        have z75y := s71.2.1
        have z75w := s71.2.2.2.2 z62w
        refine w_rv ⟨rfl, ?_⟩
        have F1 := F.1
        have F2 := F.2.1
        have E1 : h72.1 = h.1 := by omega
        have E2 : h72.2.1 = h.2.1 := by omega
        have hA : ∀ j : Int, 0 ≤ j → j < 6 → 0 ≤ a_g A73 j ∧ a_g A73 j ≤ 63 := fun j j0 j1 => by
          rw [w74 j j0 (by omega)]
          by_cases hb : j = b
          · rw [if_pos hb]; exact hxb
          · rw [if_neg hb, w61 j j0 (by omega)]
            by_cases ha : j = a
            · rw [if_pos ha]; exact hxa
            · rw [if_neg ha, e12 j j0 (by omega)]; exact wf_T iv j j0 (by omega)
        have ivn := to_fin iv z75w (by omega) (fun q n2 => (s71.2.2.2.1 q n2).trans ((s58.2.2.2.1 q n2).trans (rfl))) s71.2.2.1 hA
        obtain ⟨g, ivq, chg⟩ : ∃ g2 : w_G, w_Inv g2 o h72 ∧ w_ch [] [0] g g2 := ⟨_, ivn, ch_gto⟩
        have W := iv_wc ivq
        have Fq := fr_rf (o := o) (h := h72) (W := [9])
        refine w_al (fun _ => rfl) ?_
        obtain ⟨_, m76, rfl⟩ := iv_0 ivq
        refine w_getf m76 rfl (fun _ => rfl) ?_
        obtain ⟨_, m77, kpr77, sta77, fnd77, kco77, rfl, l77_kpr, u77_kpr, l77_sta, u77_sta, l77_fnd, u77_fnd, l77_kco, u77_kco, f77_0, f77_1, f77_2, f77_3, f77_4, f77_5, f77_6⟩ := iv_9 ivq
        refine w_this (fun _ => rfl) m77 ?_
        refine w_cv (fun _ => rfl) rfl (c_forget (d := (d + 1)) ivq     (fun h78 iv79 F80 => ⟨rfl, ?_⟩))
        have F81 := fr_ca Fq F80 (fun t ht => by exact ht)
        refine w_il (fun _ => rfl) (w_ri ?_)
        exact k0 _ g o h78 iv79 chg oe_rf (by have := F81.1; omega) (by have := F81.2.1; omega)
    · refine w_nezf (by omega) (by omega) (by omega)  (w_icI (x := (-2)) wn_2 (w_ri ?_))
      exact k1 (-2) h iv F (by omega) (by omega)
  · refine w_eqzt (by omega) (by omega) (by omega)  (w_run k_368659 (w_icI (x := (-2)) wn_2 (w_ri ?_)))
    exact k1 (-2) h iv F (by omega) (by omega)
theorem k_462848 : m_cg 462848 = g_113_0 := rfl
theorem k_319488 : m_cg 319488 = g_78_0 := rfl
theorem c_image {g : w_G} {o : w_O} {h : m_H} {d : Nat} {Q : Option m_V → m_H → Prop} (iv : w_Inv g o h) (k0 : ∀ (x : Int) (g2 : w_G) (o2 : w_O) (h2 : m_H), w_Inv g2 o2 h2 → w_ch [5] [] g g2 → w_oe o o2 → h2.1 ≤ h.1 + 3 → h2.2.1 ≤ h.2.1 + 200 → Q (some (.inl (w_i x))) h2) : wp (d + 2) 462848 [.inr (.inl (some 0))] [] h Q := by
  have F := fr_rf (o := o) (h := h) (W := [5, 7, 8])
  have W := iv_wc iv
  refine w_run k_462848 (w_al (fun _ => rfl) ?_)
  obtain ⟨_, m1, rfl⟩ := iv_0 iv
  refine w_getf m1 rfl (fun _ => rfl) (w_al (fun _ => rfl) (w_getf m1 rfl (fun _ => rfl) ?_))
  obtain ⟨_, m2, kp2, sp2, rl2, rfl, l2_kp, u2_kp, l2_sp, u2_sp, l2_rl, u2_rl, f2_0, f2_1⟩ := iv_5 iv
  refine w_this (fun _ => rfl) m2 (w_cv (fun _ => rfl) rfl (w_run k_319488 (w_al (fun _ => rfl) ?_)))
  obtain ⟨_, m3, kp3, sp3, rl3, rfl, l3_kp, u3_kp, l3_sp, u3_sp, l3_rl, u3_rl, f3_0, f3_1⟩ := iv_1 iv
  refine w_getf m3 rfl (fun _ => rfl) (w_icI (x := 0) rfl (w_al (fun _ => rfl) (w_getf m2 rfl (fun _ => rfl) (w_icI (x := 0) rfl (w_icI (x := 6) rfl ?_)))))
  obtain ⟨_, m4, A4, rfl, e4⟩ := iv_3 iv
  obtain ⟨_, m5, A5, rfl, e5⟩ := iv_7 iv
  refine w_cpyI m4 m5 (by omega) (by omega) (by omega) (by omega) (by omega) (by omega) (by omega) rfl (fun A9 h7 w10 s6 => ?_)
  have e11 : ∀ j : Int, 0 ≤ j → j < 6 → g_hi g = 1 → 0 ≤ a_g A9 j ∧ a_g A9 j < g_C g := fun j j0 j1 => by
    rw [w10 j j0 j1]
    split
    · intro _; exact e4 (0 + (j - 0)) (by omega) (by omega)
    · exact e5 j j0 j1
  have iv8 := is_7 iv s6 ⟨_, rfl, e11⟩
  have F12 := fr_st F s6 (by rw [(ow_7 iv)]; rfl)
  refine w_al (fun _ => rfl) ?_
  have m13 := st_fr s6 m3 (by decide)
  refine w_getf m13 rfl (fun _ => rfl) (w_icI (x := 0) rfl (w_al (fun _ => rfl) ?_))
  have m14 := st_fr s6 m2 (by decide)
  refine w_getf m14 rfl (fun _ => rfl) (w_icI (x := 0) rfl (w_icI (x := 6) rfl ?_))
  obtain ⟨_, m15, A15, rfl⟩ := iv_4 iv8
  obtain ⟨_, m16, A16, rfl⟩ := iv_8 iv8
  refine w_cpyI m15 m16 (by omega) (by omega) (by omega) (by omega) (by omega) (by omega) (by omega) rfl (fun A20 h18 w21 s17 => ?_)
  have iv19 := is_8 iv8 s17 ⟨_, rfl⟩
  have F22 := fr_st F12 s17 (by rw [(ow_8 iv8)]; rfl)
  refine w_al (fun _ => rfl) (w_al (fun _ => rfl) ?_)
  have m23 := st_fr s17 m13 (by decide)
  refine w_getf m23 rfl (fun _ => rfl) ?_
  have m24 := st_fr s17 m14 (by decide)
  refine w_putf [.inl (w_i 4), .inl (w_i 3), .inl (w_i 81), .inr (.inl (some 6)), .inr (.inl (some 7)), .inr (.inl (some 8)), .inl (w_i kp3), .inl (w_i sp2), .inl (w_i rl2)] m24 rfl rfl rfl (fun _ => rfl) (fun h26 s25 => ?_)
  have iv27 := is_5 iv19 s25 ⟨_, _, _, rfl, by omega, by omega, by omega, by omega, by omega, by omega, by omega, by omega⟩
  have F28 := fr_st F22 s25 (by rw [(ow_5 iv19)]; rfl)
  refine w_al (fun _ => rfl) (w_al (fun _ => rfl) ?_)
  have m29 := st_fr s25 m23 (by decide)
  refine w_getf m29 rfl (fun _ => rfl) (w_putf [.inl (w_i 4), .inl (w_i 3), .inl (w_i 81), .inr (.inl (some 6)), .inr (.inl (some 7)), .inr (.inl (some 8)), .inl (w_i kp3), .inl (w_i sp3), .inl (w_i rl2)] s25.2.2.1 rfl rfl rfl (fun _ => rfl) (fun h31 s30 => ?_))
  have iv32 := is_5 iv27 s30 ⟨_, _, _, rfl, by omega, by omega, by omega, by omega, by omega, by omega, by omega, by omega⟩
  have F33 := fr_st F28 s30 (by rw [(ow_5 iv27)]; rfl)
  refine w_al (fun _ => rfl) (w_al (fun _ => rfl) ?_)
  have m34 := st_fr s30 m29 (by decide)
  refine w_getf m34 rfl (fun _ => rfl) (w_putf [.inl (w_i 4), .inl (w_i 3), .inl (w_i 81), .inr (.inl (some 6)), .inr (.inl (some 7)), .inr (.inl (some 8)), .inl (w_i kp3), .inl (w_i sp3), .inl (w_i rl3)] s30.2.2.1 rfl rfl rfl (fun _ => rfl) (fun h36 s35 => ?_))
  have iv37 := is_5 iv32 s35 ⟨_, _, _, rfl, by omega, by omega, by omega, by omega, by omega, by omega, by omega, by omega⟩
  have F38 := fr_st F33 s35 (by rw [(ow_5 iv32)]; rfl)
  refine w_rv ⟨rfl, ?_⟩
  have F1 := F38.1
  have F2 := F38.2.1
  have hA7 : ∀ j : Int, 0 ≤ j → j < 6 → 0 ≤ a_g A9 j ∧ a_g A9 j < g_C g := fun j j0 j1 => by rw [w10 j j0 (by omega), if_pos (by omega)]; exact e4 _ (by omega) (by omega)
  have m39 := st_fr s17 s6.2.2.1 (by decide)
  have m40 := st_fr s25 m39 (by decide)
  have m41 := st_fr s30 m40 (by decide)
  have m42 := st_fr s35 m41 (by decide)
  have m43 := st_fr s6 m1 (by decide)
  have m44 := st_fr s17 m43 (by decide)
  have m45 := st_fr s25 m44 (by decide)
  have m46 := st_fr s30 m45 (by decide)
  have m47 := st_fr s35 m46 (by decide)
  have z48 := iv37.2.2.2.2.1
  have z48w := iv37.1
  refine w_al (fun _ => rfl) (w_icI (x := 1) rfl (w_putf [.inr (.inl (some 1)), .inr (.inl (some 5)), .inl (w_i 1), .inr (.inl (some 9)), .inr (.inl (some 17)), .inl (w_i (g_np g)), .inr (.inl (some 18)), .inr (.inl (some 23)), .inl (w_i (g_nt g)), .inr (.inl (some 24)), .inr (.inl (some 25)), .inr (.inl (some 26)), .inr (.inl (some 27))] m47 rfl rfl rfl (fun _ => rfl) (fun h50 s49 => ?_)))
  have z52 := s49.1
  have z52y := s49.2.1
  have z52w := s49.2.2.2.2 z48w
  have E1 : h50.1 = h.1 := by omega
  have E2 : h50.2.1 = h.2.1 := by omega
  have ivn := im_fin (e := _) iv37 m42 hA7 s49 rfl
  obtain ⟨g, ivq, chg⟩ : ∃ g2 : w_G, w_Inv g2 o h50 ∧ w_ch [5] [] g g2 := ⟨_, ivn, ch_gim⟩
  have W := iv_wc ivq
  have Fq := fr_rf (o := o) (h := h50) (W := [5, 7, 8])
  refine w_al (fun _ => rfl) ?_
  obtain ⟨_, m53, rfl⟩ := iv_0 ivq
  refine w_getf m53 rfl (fun _ => rfl) (w_al (fun _ => rfl) (w_getf m53 rfl (fun _ => rfl) ?_))
  obtain ⟨_, m54, kp54, sp54, rl54, rfl, l54_kp, u54_kp, l54_sp, u54_sp, l54_rl, u54_rl, f54_0, f54_1⟩ := iv_1 ivq
  refine w_getf m54 rfl (fun _ => rfl) (w_this (fun _ => rfl) m54 ?_)
  obtain ⟨_, m55, A55, rfl, e55⟩ := iv_3 ivq
  refine w_ca (fun _ => rfl) rfl (c_numberOf (d := (d + 1)) ivq (q := 3)  m55 (by omega)  (fun y56 b57 b58 b59 b60 => ⟨_, rfl, ?_⟩))
  refine w_ri ?_
  exact k0 _ g o h50 ivq chg oe_rf (by have := Fq.1; omega) (by have := Fq.2.1; omega)
theorem k_466944 : m_cg 466944 = g_114_0 := rfl
theorem k_466954 : m_cg 466954 = g_114_10 := rfl
theorem c_back {g : w_G} {o : w_O} {h : m_H} {d : Nat} {Q : Option m_V → m_H → Prop} (iv : w_Inv g o h) (k0 : ∀ (x : Int), ∀ h2 : m_H, w_Inv g o h2 → w_fr o [1, 3, 4, 9] h h2 → -2147483648 ≤ x → x ≤ 2147483647 → Q (some (.inl (w_i x))) h2) : wp (d + 2) 466944 [.inr (.inl (some 0))] [] h Q := by
  have F := fr_rf (o := o) (h := h) (W := [1, 3, 4, 9])
  have W := iv_wc iv
  refine w_run k_466944 (w_al (fun _ => rfl) ?_)
  obtain ⟨_, m1, rfl⟩ := iv_0 iv
  refine w_getf m1 rfl (fun _ => rfl) ?_
  refine w_nez2 (by omega) (by omega)  (fun c2 => ?_) (fun c2 => ?_)
  · refine w_run k_466954 (w_al (fun _ => rfl) (w_getf m1 rfl (fun _ => rfl) (w_al (fun _ => rfl) (w_getf m1 rfl (fun _ => rfl) ?_))))
    obtain ⟨_, m3, kp3, sp3, rl3, rfl, l3_kp, u3_kp, l3_sp, u3_sp, l3_rl, u3_rl, f3_0, f3_1⟩ := iv_1 iv
    refine w_this (fun _ => rfl) m3 (w_cv (fun _ => rfl) rfl (w_run k_319488 (w_al (fun _ => rfl) ?_)))
    obtain ⟨_, m4, kp4, sp4, rl4, rfl, l4_kp, u4_kp, l4_sp, u4_sp, l4_rl, u4_rl, f4_0, f4_1⟩ := iv_5 iv
    refine w_getf m4 rfl (fun _ => rfl) (w_icI (x := 0) rfl (w_al (fun _ => rfl) (w_getf m3 rfl (fun _ => rfl) (w_icI (x := 0) rfl (w_icI (x := 6) rfl ?_)))))
    obtain ⟨_, m5, A5, rfl, e5⟩ := iv_7 iv
    obtain ⟨_, m6, A6, rfl, e6⟩ := iv_3 iv
    refine w_cpyI m5 m6 (by omega) (by omega) (by omega) (by omega) (by omega) (by omega) (by omega) rfl (fun A10 h8 w11 s7 => ?_)
    have e12 : ∀ j : Int, 0 ≤ j → j < 6 → 0 ≤ a_g A10 j ∧ a_g A10 j < g_C g := fun j j0 j1 => by
      rw [w11 j j0 j1]
      split
      · exact e5 (0 + (j - 0)) (by omega) (by omega) (by omega)
      · exact e6 j j0 j1
    have iv9 := is_3 iv s7 ⟨_, rfl, e12⟩
    have F13 := fr_st F s7 (by rw [(ow_3 iv)]; rfl)
    refine w_al (fun _ => rfl) ?_
    have m14 := st_fr s7 m4 (by decide)
    refine w_getf m14 rfl (fun _ => rfl) (w_icI (x := 0) rfl (w_al (fun _ => rfl) ?_))
    have m15 := st_fr s7 m3 (by decide)
    refine w_getf m15 rfl (fun _ => rfl) (w_icI (x := 0) rfl (w_icI (x := 6) rfl ?_))
    obtain ⟨_, m16, A16, rfl⟩ := iv_8 iv9
    obtain ⟨_, m17, A17, rfl⟩ := iv_4 iv9
    refine w_cpyI m16 m17 (by omega) (by omega) (by omega) (by omega) (by omega) (by omega) (by omega) rfl (fun A21 h19 w22 s18 => ?_)
    have iv20 := is_4 iv9 s18 ⟨_, rfl⟩
    have F23 := fr_st F13 s18 (by rw [(ow_4 iv9)]; rfl)
    refine w_al (fun _ => rfl) (w_al (fun _ => rfl) ?_)
    have m24 := st_fr s18 m14 (by decide)
    refine w_getf m24 rfl (fun _ => rfl) ?_
    have m25 := st_fr s18 m15 (by decide)
    refine w_putf [.inl (w_i (g_H g)), .inl (w_i (g_C g)), .inl (w_i (g_N g)), .inr (.inl (some 2)), .inr (.inl (some 3)), .inr (.inl (some 4)), .inl (w_i kp4), .inl (w_i sp3), .inl (w_i rl3)] m25 rfl rfl rfl (fun _ => rfl) (fun h27 s26 => ?_)
    have iv28 := is_1 iv20 s26 ⟨_, _, _, rfl, by omega, by omega, by omega, by omega, by omega, by omega, by omega, by omega⟩
    have F29 := fr_st F23 s26 (by rw [(ow_1 iv20)]; rfl)
    refine w_al (fun _ => rfl) (w_al (fun _ => rfl) ?_)
    have m30 := st_fr s26 m24 (by decide)
    refine w_getf m30 rfl (fun _ => rfl) (w_putf [.inl (w_i (g_H g)), .inl (w_i (g_C g)), .inl (w_i (g_N g)), .inr (.inl (some 2)), .inr (.inl (some 3)), .inr (.inl (some 4)), .inl (w_i kp4), .inl (w_i sp4), .inl (w_i rl3)] s26.2.2.1 rfl rfl rfl (fun _ => rfl) (fun h32 s31 => ?_))
    have iv33 := is_1 iv28 s31 ⟨_, _, _, rfl, by omega, by omega, by omega, by omega, by omega, by omega, by omega, by omega⟩
    have F34 := fr_st F29 s31 (by rw [(ow_1 iv28)]; rfl)
    refine w_al (fun _ => rfl) (w_al (fun _ => rfl) ?_)
    have m35 := st_fr s31 m30 (by decide)
    refine w_getf m35 rfl (fun _ => rfl) (w_putf [.inl (w_i (g_H g)), .inl (w_i (g_C g)), .inl (w_i (g_N g)), .inr (.inl (some 2)), .inr (.inl (some 3)), .inr (.inl (some 4)), .inl (w_i kp4), .inl (w_i sp4), .inl (w_i rl4)] s31.2.2.1 rfl rfl rfl (fun _ => rfl) (fun h37 s36 => ?_))
    have iv38 := is_1 iv33 s36 ⟨_, _, _, rfl, by omega, by omega, by omega, by omega, by omega, by omega, by omega, by omega⟩
    have F39 := fr_st F34 s36 (by rw [(ow_1 iv33)]; rfl)
    refine w_rv ⟨rfl, ?_⟩
    refine w_al (fun _ => rfl) ?_
    have m40 := st_fr s7 m1 (by decide)
    have m41 := st_fr s18 m40 (by decide)
    have m42 := st_fr s26 m41 (by decide)
    have m43 := st_fr s31 m42 (by decide)
    have m44 := st_fr s36 m43 (by decide)
    refine w_getf m44 rfl (fun _ => rfl) ?_
    obtain ⟨_, m45, kpr45, sta45, fnd45, kco45, rfl, l45_kpr, u45_kpr, l45_sta, u45_sta, l45_fnd, u45_fnd, l45_kco, u45_kco, f45_0, f45_1, f45_2, f45_3, f45_4, f45_5, f45_6⟩ := iv_9 iv38
    refine w_this (fun _ => rfl) m45 ?_
    refine w_cv (fun _ => rfl) rfl (c_forget (d := (d + 1)) iv38     (fun h46 iv47 F48 => ⟨rfl, ?_⟩))
    have F49 := fr_ca F39 F48 (fun t ht => by simp at ht ⊢; omega)
    refine w_al (fun _ => rfl) ?_
    have m50 := fr_at F48 m44 iv38 (ow_0 iv38) rfl rfl
    refine w_getf m50 rfl (fun _ => rfl) (w_al (fun _ => rfl) (w_getf m50 rfl (fun _ => rfl) ?_))
    have m51 := fr_at F48 s36.2.2.1 iv38 (ow_1 iv38) rfl rfl
    refine w_getf m51 rfl (fun _ => rfl) (w_this (fun _ => rfl) m51 ?_)
    have m52 := st_fr s18 s7.2.2.1 (by decide)
    have m53 := st_fr s26 m52 (by decide)
    have m54 := st_fr s31 m53 (by decide)
    have m55 := st_fr s36 m54 (by decide)
    have m56 := fr_at F48 m55 iv38 (ow_3 iv38) rfl rfl
    refine w_ca (fun _ => rfl) rfl (c_numberOf (d := (d + 1)) iv47 (q := 3)  m56 (by omega)  (fun y57 b58 b59 b60 b61 => ⟨_, rfl, ?_⟩))
    refine w_ri ?_
    exact k0 y57 h46 iv47 F49 (by omega) (by omega)
  · refine w_icI (x := (-3)) wn_3 (w_ri ?_)
    exact k0 (-3) h iv F (by omega) (by omega)
theorem k_507908 : m_cg 507908 = g_124_4 := rfl
theorem k_507923 : m_cg 507923 = g_124_19 := rfl
theorem l_townsOf_4 {g : w_G} {o : w_O} {h : m_H} {d : Nat} {Q : Option m_V → m_H → Prop} (iv : w_Inv g o h) {ho : Int} {co : Int} (ho_lo : -2147483648 ≤ ho) (ho_hi : ho ≤ 2147483647) (co_lo : -2147483648 ≤ co) (co_hi : co ≤ 2147483647) (h0_ : 1 ≤ ho) (h1_ : ho ≤ 6) (c0_ : 2 ≤ co) (c1_ : co ≤ 5) (k0 : ∀ (x : Int), -2147483648 ≤ x → x ≤ 2147483647 → x = w_pw co ho → 1 ≤ x → x ≤ 15625 → Q (some (.inl (w_i x))) h) : ∀ (k : Nat) (num i : Int) (num_lo : -2147483648 ≤ num) (num_hi : num ≤ 2147483647) (i_lo : -2147483648 ≤ i) (i_hi : i ≤ 2147483647) (i0 : 0 ≤ i) (i1 : i ≤ ho) (n0 : 1 ≤ num) (n2 : num ≤ 15625) (n1 : num = w_pw co i), ho - i < (k : Int) → wp d 507908 [.inl (w_i ho), .inl (w_i co), .inl (w_i num), .inl (w_i i)] [] h Q := by
  intro k
  induction k with
  | zero => intro num i num_lo num_hi i_lo i_hi i0 i1 n0 n2 n1 hk; exact absurd hk (by omega)
  | succ k ih =>
    intro num i num_lo num_hi i_lo i_hi i0 i1 n0 n2 n1 hk
    have W := iv_wc iv
    refine w_run k_507908 (w_il (fun _ => rfl) (w_il (fun _ => rfl) ?_))
    refine w_ge2 (by omega) (by omega) (by omega) (by omega)  (fun c1 => ?_) (fun c1 => ?_)
    · refine w_run k_507923 (w_il (fun _ => rfl) (w_ri ?_))
      exact k0 num (by omega) (by omega) (by have e : i = ho := (by omega); rw [e] at n1; exact n1) (by omega) (by omega)
    · refine w_il (fun _ => rfl) (w_il (fun _ => rfl) ?_)
      have hP := pw_bd5 (c := co) (n := i) (by omega) (by omega) (by omega) (by omega)
      rw [← n1] at hP
      have hm := mul_rg (a := num) (b := co) (x := 3125) (y := 5) (by omega) (by omega) (by omega) (by omega)
      have hq := Int.mul_pos (show 0 < num by omega) (show 0 < co by omega)
      refine w_op (c := w_i (num * co)) (i_mul num co) (w_is (fun _ => rfl) (w_inc (c := w_i (i + 1)) (fun _ => rfl) (i_addL (y := 1) rfl i) (fun _ => rfl) (w_go ?_)))
      exact ih (num * co) (i + 1) (by omega) (by omega) (by omega) (by omega)  (by omega) (by omega) (by omega) (by omega) (by rw [pw_s (by omega), ← n1]) (by omega)
theorem k_507904 : m_cg 507904 = g_124_0 := rfl
theorem c_townsOf {g : w_G} {o : w_O} {h : m_H} {d : Nat} {Q : Option m_V → m_H → Prop} (iv : w_Inv g o h) {ho : Int} {co : Int} (ho_lo : -2147483648 ≤ ho) (ho_hi : ho ≤ 2147483647) (co_lo : -2147483648 ≤ co) (co_hi : co ≤ 2147483647) (h0_ : 1 ≤ ho) (h1_ : ho ≤ 6) (c0_ : 2 ≤ co) (c1_ : co ≤ 5) (k0 : ∀ (x : Int), -2147483648 ≤ x → x ≤ 2147483647 → x = w_pw co ho → 1 ≤ x → x ≤ 15625 → Q (some (.inl (w_i x))) h) : wp d 507904 [.inl (w_i ho), .inl (w_i co), .inr (.inr (.inl 0)), .inr (.inr (.inl 0))] [] h Q := by
  have W := iv_wc iv
  refine w_run k_507904 (w_icI (x := 1) rfl (w_is (fun _ => rfl) (w_icI (x := 0) rfl (w_is (fun _ => rfl) (w_nur k_507908 ?_)))))
  exact l_townsOf_4 iv    ho_lo ho_hi co_lo co_hi h0_ h1_ c0_ c1_    k0 (ho - 0 + 1 : Int).toNat 1 0 (by omega) (by omega) (by omega) (by omega)  (by omega) (by omega) (by omega) (by omega) (pw_00.symm) (by omega)
theorem k_364579 : m_cg 364579 = g_89_35 := rfl
theorem k_315392 : m_cg 315392 = g_77_0 := rfl
theorem k_315413 : m_cg 315413 = g_77_21 := rfl
theorem k_315448 : m_cg 315448 = g_77_56 := rfl
theorem k_315472 : m_cg 315472 = g_77_80 := rfl
theorem k_364611 : m_cg 364611 = g_89_67 := rfl
theorem k_364631 : m_cg 364631 = g_89_87 := rfl
theorem k_315450 : m_cg 315450 = g_77_58 := rfl
theorem k_364544 : m_cg 364544 = g_89_0 := rfl
theorem k_364576 : m_cg 364576 = g_89_32 := rfl
theorem k_61440 : m_cg 61440 = g_15_0 := rfl
theorem k_61510 : m_cg 61510 = g_15_70 := rfl
theorem k_61524 : m_cg 61524 = g_15_84 := rfl
theorem k_286720 : m_cg 286720 = g_70_0 := rfl
theorem k_393216 : m_cg 393216 = g_96_0 := rfl
theorem k_393228 : m_cg 393228 = g_96_12 := rfl
theorem k_393251 : m_cg 393251 = g_96_35 := rfl
theorem k_385024 : m_cg 385024 = g_94_0 := rfl
theorem k_385047 : m_cg 385047 = g_94_23 := rfl
theorem k_385050 : m_cg 385050 = g_94_26 := rfl
theorem k_385117 : m_cg 385117 = g_94_93 := rfl
theorem k_385142 : m_cg 385142 = g_94_118 := rfl
theorem k_385141 : m_cg 385141 = g_94_117 := rfl
theorem k_385140 : m_cg 385140 = g_94_116 := rfl
theorem k_385114 : m_cg 385114 = g_94_90 := rfl
theorem k_491520 : m_cg 491520 = g_120_0 := rfl
theorem k_491531 : m_cg 491531 = g_120_11 := rfl
theorem k_491544 : m_cg 491544 = g_120_24 := rfl
theorem k_524288 : m_cg 524288 = g_128_0 := rfl
theorem k_524324 : m_cg 524324 = g_128_36 := rfl
theorem k_491559 : m_cg 491559 = g_120_39 := rfl
theorem k_491561 : m_cg 491561 = g_120_41 := rfl
theorem k_524329 : m_cg 524329 = g_128_41 := rfl
theorem k_524334 : m_cg 524334 = g_128_46 := rfl
theorem k_524339 : m_cg 524339 = g_128_51 := rfl
theorem k_524344 : m_cg 524344 = g_128_56 := rfl
theorem k_524349 : m_cg 524349 = g_128_61 := rfl
