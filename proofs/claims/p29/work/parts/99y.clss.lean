theorem k_475136 : m_cg 475136 = g_116_0 := rfl
theorem k_475153 : m_cg 475153 = g_116_17 := rfl
theorem k_475156 : m_cg 475156 = g_116_20 := rfl
theorem k_475170 : m_cg 475170 = g_116_34 := rfl
theorem k_475179 : m_cg 475179 = g_116_43 := rfl
theorem k_475186 : m_cg 475186 = g_116_50 := rfl
theorem k_249856 : m_cg 249856 = g_61_0 := rfl
theorem c_sheet {g : w_G} {o : w_O} {h : m_H} {d : Nat} {Q : Option m_V → m_H → Prop} (iv : w_Inv g o h) {sh : Int} {so : Int} {n : Int} (sh_lo : -2147483648 ≤ sh) (sh_hi : sh ≤ 2147483647) (so_lo : -2147483648 ≤ so) (so_hi : so ≤ 2147483647) (n_lo : -2147483648 ≤ n) (n_hi : n ≤ 2147483647) (k0 : ∀ (g2 : w_G) (o2 : w_O) (h2 : m_H), w_Inv g2 o2 h2 → w_ch [] [] g g2 → w_oe o o2 → h2.1 ≤ h.1 + 3 → h2.2.1 ≤ h.2.1 + 200 → (0 ≤ sh ∧ sh ≤ 3) → (0 ≤ so ∧ so ≤ 2) → (0 ≤ n ∧ n ≤ 40) → Q (some (.inl (w_i 1))) h2) (k1 : ∀ h2 : m_H, w_Inv g o h2 → w_fr o [24] h h2 → (sh < 0 ∨ 3 < sh ∨ so < -1 ∨ 2 < so ∨ (0 ≤ so ∧ 40 < n)) → Q (some (.inl (w_i (-2)))) h2) (k2 : ∀ h2 : m_H, w_Inv g o h2 → w_fr o [24] h h2 → 0 ≤ sh → sh ≤ 3 → 0 ≤ so → so ≤ 2 → n < 0 → Q (some (.inl (w_i (-14)))) h2) (k3 : ∀ h2 : m_H, w_Inv g o h2 → w_fr o [24] h h2 → 0 ≤ sh → sh ≤ 3 → so = -1 → Q (some (.inl (w_i 1))) h2) : wp (d + 2) 475136 [.inr (.inl (some 0)), .inl (w_i sh), .inl (w_i so), .inl (w_i n)] [] h Q := by
  have F := fr_rf (o := o) (h := h) (W := [24])
  have W := iv_wc iv
  refine w_run k_475136 (w_il (fun _ => rfl) ?_)
  refine w_ca (fun _ => rfl) rfl (c_isSheet (d := d) iv (n := sh) (by omega) (by omega)   (fun b1 b2 => ⟨_, rfl, ?_⟩) (fun b3 => ⟨_, rfl, ?_⟩))
  · refine w_eqzf (by omega) (by omega) (by omega)  (w_il (fun _ => rfl) (w_icI (x := (-1)) wn_1 ?_))
    refine w_lt2 (by omega) (by omega) (by omega) (by omega)  (fun c4 => ?_) (fun c4 => ?_)
    · refine w_run k_475153 (w_icI (x := (-2)) wn_2 (w_ri ?_))
      exact k1 h iv F (by omega)
    · refine w_il (fun _ => rfl) (w_icI (x := 3) rfl ?_)
      refine w_lt2 (by omega) (by omega) (by omega) (by omega)  (fun c5 => ?_) (fun c5 => ?_)
      · refine w_run k_475156 (w_il (fun _ => rfl) (w_icI (x := (-1)) wn_1 ?_))
        refine w_ne2 (by omega) (by omega) (by omega) (by omega)  (fun c6 => ?_) (fun c6 => ?_)
        · refine w_run k_475170 (w_il (fun _ => rfl) (w_icI (x := 40) rfl ?_))
          refine w_le2 (by omega) (by omega) (by omega) (by omega)  (fun c7 => ?_) (fun c7 => ?_)
          · refine w_run k_475179 (w_il (fun _ => rfl) ?_)
            refine w_gez2 (by omega) (by omega)  (fun c8 => ?_) (fun c8 => ?_)
            · refine w_run k_475186 ?_
              obtain ⟨_, m9, rfl⟩ := iv_0 iv
              obtain ⟨_, m10, l10, rfl, ll10, lp10⟩ := iv_24 iv
              have z11 := iv.2.2.2.2.1
              have z11w := iv.1
              refine w_al (fun _ => rfl) (w_getf m9 rfl (fun _ => rfl) (w_il (fun _ => rfl) (w_new z11w (fun h12 s13 => ?_))))
              have z14 := s13.1
              have z14y := s13.2.1
              have z14w := s13.2.2.2.2
              refine w_dup (fun _ => rfl) (w_il (fun _ => rfl) (w_il (fun _ => rfl) (w_rcv (fun _ => rfl) (w_cv (fun _ => rfl) rfl (w_run k_249856 (w_al (fun _ => rfl) (w_oi rfl (w_al (fun _ => rfl) (w_il (fun _ => rfl) (w_putf [.inl (w_i so), .inr (.inl none)] s13.2.2.1 rfl rfl rfl (fun _ => rfl) (fun h16 s15 => ?_)))))))))))
              have z18 := s15.1
              have z18y := s15.2.1
              have z18w := s15.2.2.2.2 z14w
              refine w_al (fun _ => rfl) (w_il (fun _ => rfl) (w_newa z18w (wi_le (by omega) (by omega)) (fun h19 s20 => ?_)))
              have z21 := s20.1
              have z21y := s20.2.1
              have z21w := s20.2.2.2.2
              have z21a : h16.1 = (h.1 + 1) := by omega
              rw [z21a]
              have z21m : m_at h19.2.2 (h.1 + 1) = some (.inl (false, (w_i n), 0)) := by rw [← z21a]; exact s20.2.2.1
              have m22 := nw_fr s20 s15.2.2.1 (by omega)
              refine w_putf [.inl (w_i so), .inr (.inl (some (h.1 + 1)))] m22 rfl rfl rfl (fun _ => rfl) (fun h24 s23 => ?_)
              have z26 := s23.1
              have z26y := s23.2.1
              have z26w := s23.2.2.2.2 z21w
              refine w_rv ⟨rfl, ?_⟩
              have m27 := nw_fr s13 m10 (by omega)
              have m28 := st_fr s15 m27 (by omega)
              have m29 := nw_fr s20 m28 (by omega)
              have m30 := st_fr s23 m29 (by omega)
              refine w_aastI m30 (by omega) (by omega) (by decide) (isC_of s23.2.2.1 rfl) (fun h32 s31 => ?_)
              have z33 := s31.1
              have z33y := s31.2.1
              have z33w := s31.2.2.2.2 z26w
              refine w_icI (x := 1) rfl (w_ri ?_)
              have F1 := F.1
              have F2 := F.2.1
              have m34 := st_fr s31 s23.2.2.1 (by omega)
              have m35 := st_fr s23 z21m (by omega)
              have m36 := st_fr s31 m35 (by omega)
              have ivn := sh_fin (so := so) (n := w_i n) (j := sh.toNat) iv (by omega) (by omega) (by omega) z33w (by omega) (fun q hq n24 => (s31.2.2.2.1 q n24).trans ((s23.2.2.2.1 q (by omega)).trans ((s20.2.2.2.1 q (by omega)).trans ((s15.2.2.2.1 q (by omega)).trans ((s13.2.2.2.1 q (by omega)).trans (rfl)))))) s31.2.2.1 ll10 lp10 m34 m36
              exact k0 g (o_sh o h.1 (w_i n)) h32 ivn ch_rf (fun q hq => by have : ¬ h.1 ≤ q := (fun z => hq (iv.2.2.2.1 q z)); unfold o_sh; rw [if_neg (by omega), if_neg (by omega)]) (by omega) (by omega) (by omega) (by omega) (by omega)
            · refine w_icI (x := (-14)) wn_14 (w_ri ?_)
              exact k2 h iv F (by omega) (by omega) (by omega) (by omega) (by omega)
          · refine w_icI (x := (-2)) wn_2 (w_ri ?_)
            exact k1 h iv F (by omega)
        · refine w_al (fun _ => rfl) ?_
          obtain ⟨_, m37, rfl⟩ := iv_0 iv
          refine w_getf m37 rfl (fun _ => rfl) (w_il (fun _ => rfl) (w_nul ?_))
          obtain ⟨_, m38, l38, rfl, ll38, lp38⟩ := iv_24 iv
          refine w_aastI m38 (by omega) (by omega) (by decide) isC_no (fun h40 s39 => ?_)
          have z42 := set_no (j := (sh).toNat) lp38 ll38 (Or.inl rfl)
          have iv41 := is_24 iv s39 ⟨_, rfl, z42.1, z42.2⟩
          have F43 := fr_st F s39 (by rw [(ow_24 iv)]; rfl)
          refine w_icI (x := 1) rfl (w_ri ?_)
          exact k3 h40 iv41 F43 (by omega) (by omega) (by omega)
      · refine w_icI (x := (-2)) wn_2 (w_ri ?_)
        exact k1 h iv F (by omega)
  · refine w_eqzt (by omega) (by omega) (by omega)  (w_run k_475153 (w_icI (x := (-2)) wn_2 (w_ri ?_)))
    exact k1 h iv F (by omega)
theorem k_380928 : m_cg 380928 = g_93_0 := rfl
theorem k_380948 : m_cg 380948 = g_93_20 := rfl
theorem k_380959 : m_cg 380959 = g_93_31 := rfl
theorem k_520192 : m_cg 520192 = g_127_0 := rfl
theorem k_520228 : m_cg 520228 = g_127_36 := rfl
theorem k_278528 : m_cg 278528 = g_68_0 := rfl
theorem k_36864 : m_cg 36864 = g_9_0 := rfl
theorem k_520237 : m_cg 520237 = g_127_45 := rfl
theorem k_266240 : m_cg 266240 = g_65_0 := rfl
theorem k_520246 : m_cg 520246 = g_127_54 := rfl
theorem k_16384 : m_cg 16384 = g_4_0 := rfl
theorem k_520255 : m_cg 520255 = g_127_63 := rfl
theorem k_28672 : m_cg 28672 = g_7_0 := rfl
theorem k_520264 : m_cg 520264 = g_127_72 := rfl
theorem k_4096 : m_cg 4096 = g_1_0 := rfl
theorem k_520273 : m_cg 520273 = g_127_81 := rfl
theorem k_380945 : m_cg 380945 = g_93_17 := rfl
theorem c_painter {g : w_G} {o : w_O} {h : m_H} {d : Nat} {Q : Option m_V → m_H → Prop} (iv : w_Inv g o h) {kd : Int} {nu : Int} (kd_lo : -2147483648 ≤ kd) (kd_hi : kd ≤ 2147483647) (nu_lo : -2147483648 ≤ nu) (nu_hi : nu ≤ 2147483647) (k0 : ∀ (x : Int) (g2 : w_G) (o2 : w_O) (h2 : m_H), w_Inv g2 o2 h2 → w_ch [3] [1, 2] g g2 → w_oe o o2 → h2.1 ≤ h.1 + 3 → h2.2.1 ≤ h.2.1 + 200 → Q (some (.inl (w_i x))) h2) (k1 : ∀ (x : Int), ∀ h2 : m_H, w_Inv g o h2 → w_fr o [0] h h2 → -2147483648 ≤ x → x ≤ 2147483647 → Q (some (.inl (w_i x))) h2) : wp (d + 4) 380928 [.inr (.inl (some 0)), .inl (w_i kd), .inl (w_i nu)] [] h Q := by
  have F := fr_rf (o := o) (h := h) (W := [0])
  have W := iv_wc iv
  have Wo := iv_wo iv
  refine w_run k_380928 (w_il (fun _ => rfl) (w_icI (x := 5) rfl ?_))
  refine w_ca (fun _ => rfl) rfl (c_isWithin (d := (d + 3)) iv (n := kd) (most := 5) (by omega) (by omega) (by omega) (by omega)   (fun b1 b2 => ⟨_, rfl, ?_⟩) (fun b3 => ⟨_, rfl, ?_⟩))
  · refine w_eqzf (by omega) (by omega) (by omega)  (w_il (fun _ => rfl) (w_icI (x := 9) rfl ?_))
    refine w_ca (fun _ => rfl) rfl (c_isWithin (d := (d + 3)) iv (n := nu) (most := 9) (by omega) (by omega) (by omega) (by omega)   (fun b4 b5 => ⟨_, rfl, ?_⟩) (fun b6 => ⟨_, rfl, ?_⟩))
    · refine w_nezt (by omega) (by omega) (by omega)  (w_run k_380948 (w_al (fun _ => rfl) ?_))
      obtain ⟨_, m7, rfl⟩ := iv_0 iv
      refine w_getf m7 rfl (fun _ => rfl) (w_icI (x := 5) rfl ?_)
      refine w_lt2 (by omega) (by omega) (by omega) (by omega)  (fun c8 => ?_) (fun c8 => ?_)
      · refine w_run k_380959 ?_
        obtain ⟨_, m9, kpr9, sta9, fnd9, kco9, rfl, l9_kpr, u9_kpr, l9_sta, u9_sta, l9_fnd, u9_fnd, l9_kco, u9_kco, f9_0, f9_1, f9_2, f9_3, f9_4, f9_5, f9_6⟩ := iv_9 iv
        obtain ⟨_, m10, l10, rfl, ll10, lp10, ln10⟩ := iv_17 iv
        have z11 := iv.2.2.2.2.1
        have z11w := iv.1
        refine w_al (fun _ => rfl) (w_getf m7 rfl (fun _ => rfl) (w_al (fun _ => rfl) (w_getf m7 rfl (fun _ => rfl) (w_il (fun _ => rfl) (w_il (fun _ => rfl) (w_ca (fun _ => rfl) rfl (w_run k_520192 (w_il (fun _ => rfl) ?_))))))))
        by_cases c12 : kd = 1
        · rw [show (kd : Int) = 1 from c12]
          refine w_tsw (t := 520228) (fun _ => rfl) (w_run k_520228 (w_new z11w (fun h13 s14 => ?_)))
          have z15 := s14.1
          have z15y := s14.2.1
          have z15w := s14.2.2.2.2
          refine w_dup (fun _ => rfl) (w_il (fun _ => rfl) (w_rcv (fun _ => rfl) (w_cv (fun _ => rfl) rfl (w_run k_278528 (w_al (fun _ => rfl) (w_il (fun _ => rfl) (w_rcv (fun _ => rfl) (w_cv (fun _ => rfl) rfl (w_run k_36864 (w_al (fun _ => rfl) (w_oi rfl (w_al (fun _ => rfl) (w_il (fun _ => rfl) (w_putf [.inl (w_i nu), .inl (w_i 0)] s14.2.2.1 rfl rfl rfl (fun _ => rfl) (fun h17 s16 => ?_)))))))))))))))
          have z19 := s16.1
          have z19y := s16.2.1
          have z19w := s16.2.2.2.2 z15w
          refine w_al (fun _ => rfl) (w_icI (x := 1) rfl (w_il (fun _ => rfl) (w_op (c := w_i (1 + nu)) (i_add 1 nu) (w_putf [.inl (w_i nu), .inl (w_i (1 + nu))] s16.2.2.1 rfl rfl rfl (fun _ => rfl) (fun h21 s20 => ?_)))))
          have z23 := s20.1
          have z23y := s20.2.1
          have z23w := s20.2.2.2.2 z19w
          refine w_rv ⟨rfl, ?_⟩
          refine w_rv ⟨rfl, ?_⟩
          refine w_ra ⟨_, rfl, ?_⟩
          have m24 := nw_fr s14 m10 (by omega)
          have m25 := st_fr s16 m24 (by omega)
          have m26 := st_fr s20 m25 (by omega)
          refine w_aastI m26 (by omega) (by omega) (by decide) (isC_of s20.2.2.1 rfl) (fun h28 s27 => ?_)
          have z29 := s27.1
          have z29y := s27.2.1
          have z29w := s27.2.2.2.2 z23w
          refine w_al (fun _ => rfl) (w_dup (fun _ => rfl) ?_)
          have m30 := nw_fr s14 m7 (by omega)
          have m31 := st_fr s16 m30 (by omega)
          have m32 := st_fr s20 m31 (by omega)
          have m33 := st_fr s27 m32 (by decide)
          refine w_getf m33 rfl (fun _ => rfl) (w_icI (x := 1) rfl (w_op (c := w_i (g_np g + 1)) (i_add (g_np g) 1) (w_putf [.inr (.inl (some 1)), .inr (.inl (some 5)), .inl (w_i (g_hi g)), .inr (.inl (some 9)), .inr (.inl (some 17)), .inl (w_i (g_np g + 1)), .inr (.inl (some 18)), .inr (.inl (some 23)), .inl (w_i (g_nt g)), .inr (.inl (some 24)), .inr (.inl (some 25)), .inr (.inl (some 26)), .inr (.inl (some 27))] m33 rfl rfl rfl (fun _ => rfl) (fun h35 s34 => ?_))))
          have z37 := s34.1
          have z37y := s34.2.1
          have z37w := s34.2.2.2.2 z29w
          refine w_al (fun _ => rfl) (w_getf s34.2.2.1 rfl (fun _ => rfl) ?_)
          have m38 := nw_fr s14 m9 (by omega)
          have m39 := st_fr s16 m38 (by omega)
          have m40 := st_fr s20 m39 (by omega)
          have m41 := st_fr s27 m40 (by decide)
          have m42 := st_fr s34 m41 (by decide)
          refine w_this (fun _ => rfl) m42 (w_cv (fun _ => rfl) rfl (w_run k_151552 (w_al (fun _ => rfl) (w_icI (x := 0) rfl (w_putf [.inr (.inl (some 1)), .inr (.inl (some 10)), .inl (w_i 0), .inr (.inl (some 11)), .inl (w_i sta9), .inr (.inl (some (g_rw g))), .inl (w_i fnd9), .inr (.inl (some (g_stp g))), .inr (.inl (some (g_ahd g))), .inr (.inl (some (g_cst g))), .inr (.inl (some (g_chp g))), .inl (w_i kco9)] m42 rfl rfl rfl (fun _ => rfl) (fun h44 s43 => ?_))))))
          have z46 := s43.1
          have z46y := s43.2.1
          have z46w := s43.2.2.2.2 z37w
          refine w_al (fun _ => rfl) (w_icI (x := (-1)) wn_1 (w_putf [.inr (.inl (some 1)), .inr (.inl (some 10)), .inl (w_i 0), .inr (.inl (some 11)), .inl (w_i (-1)), .inr (.inl (some (g_rw g))), .inl (w_i fnd9), .inr (.inl (some (g_stp g))), .inr (.inl (some (g_ahd g))), .inr (.inl (some (g_cst g))), .inr (.inl (some (g_chp g))), .inl (w_i kco9)] s43.2.2.1 rfl rfl rfl (fun _ => rfl) (fun h48 s47 => ?_)))
          have z50 := s47.1
          have z50y := s47.2.1
          have z50w := s47.2.2.2.2 z46w
          refine w_rv ⟨rfl, ?_⟩
          refine w_al (fun _ => rfl) ?_
          have m51 := st_fr s43 s34.2.2.1 (by decide)
          have m52 := st_fr s47 m51 (by decide)
          refine w_getf m52 rfl (fun _ => rfl) (w_icI (x := 1) rfl (w_op (c := w_i ((g_np g + 1) - 1)) (i_sub (g_np g + 1) 1) (w_ri ?_)))
          have F1 := F.1
          have F2 := F.2.1
          have m53 := st_fr s34 s27.2.2.1 (by decide)
          have m54 := st_fr s43 m53 (by decide)
          have m55 := st_fr s47 m54 (by decide)
          have m56 := st_fr s27 s20.2.2.1 (by omega)
          have m57 := st_fr s34 m56 (by omega)
          have m58 := st_fr s43 m57 (by omega)
          have m59 := st_fr s47 m58 (by omega)
          have ivn := pa_fin (kd := kd) (nu := nu) (e := _) iv (by omega) (by omega) (by omega) (by omega) z50w (by omega) (fun q hq n0 n9 n17 => (s47.2.2.2.1 q n9).trans ((s43.2.2.2.1 q n9).trans ((s34.2.2.2.1 q n0).trans ((s27.2.2.2.1 q n17).trans ((s20.2.2.2.1 q (by omega)).trans ((s16.2.2.2.1 q (by omega)).trans ((s14.2.2.2.1 q (by omega)).trans (rfl)))))))) m52 rfl s47.2.2.1 ⟨by omega, by omega, by omega, by omega, by omega, by omega⟩ m55 ll10 lp10 ln10 m59
          exact k0 _ (g_pa g kd nu) (o_nw o h.1 120 (g_np g).toNat) h48 ivn ch_gpa (onw_oe iv.2.2.2.1 (Nat.le_refl _)) (by omega) (by omega)
        by_cases c60 : kd = 2
        · rw [show (kd : Int) = 2 from c60]
          refine w_tsw (t := 520237) (fun _ => rfl) (w_run k_520237 (w_new z11w (fun h61 s62 => ?_)))
          have z63 := s62.1
          have z63y := s62.2.1
          have z63w := s62.2.2.2.2
          refine w_dup (fun _ => rfl) (w_il (fun _ => rfl) (w_rcv (fun _ => rfl) (w_cv (fun _ => rfl) rfl (w_run k_266240 (w_al (fun _ => rfl) (w_il (fun _ => rfl) (w_rcv (fun _ => rfl) (w_cv (fun _ => rfl) rfl (w_run k_36864 (w_al (fun _ => rfl) (w_oi rfl (w_al (fun _ => rfl) (w_il (fun _ => rfl) (w_putf [.inl (w_i nu), .inl (w_i 0)] s62.2.2.1 rfl rfl rfl (fun _ => rfl) (fun h65 s64 => ?_)))))))))))))))
          have z67 := s64.1
          have z67y := s64.2.1
          have z67w := s64.2.2.2.2 z63w
          refine w_al (fun _ => rfl) (w_icI (x := 1) rfl (w_il (fun _ => rfl) (w_op (c := w_i (1 + nu)) (i_add 1 nu) (w_putf [.inl (w_i nu), .inl (w_i (1 + nu))] s64.2.2.1 rfl rfl rfl (fun _ => rfl) (fun h69 s68 => ?_)))))
          have z71 := s68.1
          have z71y := s68.2.1
          have z71w := s68.2.2.2.2 z67w
          refine w_rv ⟨rfl, ?_⟩
          refine w_rv ⟨rfl, ?_⟩
          refine w_ra ⟨_, rfl, ?_⟩
          have m72 := nw_fr s62 m10 (by omega)
          have m73 := st_fr s64 m72 (by omega)
          have m74 := st_fr s68 m73 (by omega)
          refine w_aastI m74 (by omega) (by omega) (by decide) (isC_of s68.2.2.1 rfl) (fun h76 s75 => ?_)
          have z77 := s75.1
          have z77y := s75.2.1
          have z77w := s75.2.2.2.2 z71w
          refine w_al (fun _ => rfl) (w_dup (fun _ => rfl) ?_)
          have m78 := nw_fr s62 m7 (by omega)
          have m79 := st_fr s64 m78 (by omega)
          have m80 := st_fr s68 m79 (by omega)
          have m81 := st_fr s75 m80 (by decide)
          refine w_getf m81 rfl (fun _ => rfl) (w_icI (x := 1) rfl (w_op (c := w_i (g_np g + 1)) (i_add (g_np g) 1) (w_putf [.inr (.inl (some 1)), .inr (.inl (some 5)), .inl (w_i (g_hi g)), .inr (.inl (some 9)), .inr (.inl (some 17)), .inl (w_i (g_np g + 1)), .inr (.inl (some 18)), .inr (.inl (some 23)), .inl (w_i (g_nt g)), .inr (.inl (some 24)), .inr (.inl (some 25)), .inr (.inl (some 26)), .inr (.inl (some 27))] m81 rfl rfl rfl (fun _ => rfl) (fun h83 s82 => ?_))))
          have z85 := s82.1
          have z85y := s82.2.1
          have z85w := s82.2.2.2.2 z77w
          refine w_al (fun _ => rfl) (w_getf s82.2.2.1 rfl (fun _ => rfl) ?_)
          have m86 := nw_fr s62 m9 (by omega)
          have m87 := st_fr s64 m86 (by omega)
          have m88 := st_fr s68 m87 (by omega)
          have m89 := st_fr s75 m88 (by decide)
          have m90 := st_fr s82 m89 (by decide)
          refine w_this (fun _ => rfl) m90 (w_cv (fun _ => rfl) rfl (w_run k_151552 (w_al (fun _ => rfl) (w_icI (x := 0) rfl (w_putf [.inr (.inl (some 1)), .inr (.inl (some 10)), .inl (w_i 0), .inr (.inl (some 11)), .inl (w_i sta9), .inr (.inl (some (g_rw g))), .inl (w_i fnd9), .inr (.inl (some (g_stp g))), .inr (.inl (some (g_ahd g))), .inr (.inl (some (g_cst g))), .inr (.inl (some (g_chp g))), .inl (w_i kco9)] m90 rfl rfl rfl (fun _ => rfl) (fun h92 s91 => ?_))))))
          have z94 := s91.1
          have z94y := s91.2.1
          have z94w := s91.2.2.2.2 z85w
          refine w_al (fun _ => rfl) (w_icI (x := (-1)) wn_1 (w_putf [.inr (.inl (some 1)), .inr (.inl (some 10)), .inl (w_i 0), .inr (.inl (some 11)), .inl (w_i (-1)), .inr (.inl (some (g_rw g))), .inl (w_i fnd9), .inr (.inl (some (g_stp g))), .inr (.inl (some (g_ahd g))), .inr (.inl (some (g_cst g))), .inr (.inl (some (g_chp g))), .inl (w_i kco9)] s91.2.2.1 rfl rfl rfl (fun _ => rfl) (fun h96 s95 => ?_)))
          have z98 := s95.1
          have z98y := s95.2.1
          have z98w := s95.2.2.2.2 z94w
          refine w_rv ⟨rfl, ?_⟩
          refine w_al (fun _ => rfl) ?_
          have m99 := st_fr s91 s82.2.2.1 (by decide)
          have m100 := st_fr s95 m99 (by decide)
          refine w_getf m100 rfl (fun _ => rfl) (w_icI (x := 1) rfl (w_op (c := w_i ((g_np g + 1) - 1)) (i_sub (g_np g + 1) 1) (w_ri ?_)))
          have F1 := F.1
          have F2 := F.2.1
          have m101 := st_fr s82 s75.2.2.1 (by decide)
          have m102 := st_fr s91 m101 (by decide)
          have m103 := st_fr s95 m102 (by decide)
          have m104 := st_fr s75 s68.2.2.1 (by omega)
          have m105 := st_fr s82 m104 (by omega)
          have m106 := st_fr s91 m105 (by omega)
          have m107 := st_fr s95 m106 (by omega)
          have ivn := pa_fin (kd := kd) (nu := nu) (e := _) iv (by omega) (by omega) (by omega) (by omega) z98w (by omega) (fun q hq n0 n9 n17 => (s95.2.2.2.1 q n9).trans ((s91.2.2.2.1 q n9).trans ((s82.2.2.2.1 q n0).trans ((s75.2.2.2.1 q n17).trans ((s68.2.2.2.1 q (by omega)).trans ((s64.2.2.2.1 q (by omega)).trans ((s62.2.2.2.1 q (by omega)).trans (rfl)))))))) m100 rfl s95.2.2.1 ⟨by omega, by omega, by omega, by omega, by omega, by omega⟩ m103 ll10 lp10 ln10 m107
          exact k0 _ (g_pa g kd nu) (o_nw o h.1 120 (g_np g).toNat) h96 ivn ch_gpa (onw_oe iv.2.2.2.1 (Nat.le_refl _)) (by omega) (by omega)
        by_cases c108 : kd = 3
        · rw [show (kd : Int) = 3 from c108]
          refine w_tsw (t := 520246) (fun _ => rfl) (w_run k_520246 (w_new z11w (fun h109 s110 => ?_)))
          have z111 := s110.1
          have z111y := s110.2.1
          have z111w := s110.2.2.2.2
          refine w_dup (fun _ => rfl) (w_il (fun _ => rfl) (w_rcv (fun _ => rfl) (w_cv (fun _ => rfl) rfl (w_run k_16384 (w_al (fun _ => rfl) (w_il (fun _ => rfl) (w_rcv (fun _ => rfl) (w_cv (fun _ => rfl) rfl (w_run k_278528 (w_al (fun _ => rfl) (w_il (fun _ => rfl) (w_rcv (fun _ => rfl) (w_cv (fun _ => rfl) rfl (w_run k_36864 (w_al (fun _ => rfl) (w_oi rfl (w_al (fun _ => rfl) (w_il (fun _ => rfl) (w_putf [.inl (w_i nu), .inl (w_i 0)] s110.2.2.1 rfl rfl rfl (fun _ => rfl) (fun h113 s112 => ?_))))))))))))))))))))
          have z115 := s112.1
          have z115y := s112.2.1
          have z115w := s112.2.2.2.2 z111w
          refine w_al (fun _ => rfl) (w_icI (x := 1) rfl (w_il (fun _ => rfl) (w_op (c := w_i (1 + nu)) (i_add 1 nu) (w_putf [.inl (w_i nu), .inl (w_i (1 + nu))] s112.2.2.1 rfl rfl rfl (fun _ => rfl) (fun h117 s116 => ?_)))))
          have z119 := s116.1
          have z119y := s116.2.1
          have z119w := s116.2.2.2.2 z115w
          refine w_rv ⟨rfl, ?_⟩
          refine w_rv ⟨rfl, ?_⟩
          refine w_rv ⟨rfl, ?_⟩
          refine w_ra ⟨_, rfl, ?_⟩
          have m120 := nw_fr s110 m10 (by omega)
          have m121 := st_fr s112 m120 (by omega)
          have m122 := st_fr s116 m121 (by omega)
          refine w_aastI m122 (by omega) (by omega) (by decide) (isC_of s116.2.2.1 rfl) (fun h124 s123 => ?_)
          have z125 := s123.1
          have z125y := s123.2.1
          have z125w := s123.2.2.2.2 z119w
          refine w_al (fun _ => rfl) (w_dup (fun _ => rfl) ?_)
          have m126 := nw_fr s110 m7 (by omega)
          have m127 := st_fr s112 m126 (by omega)
          have m128 := st_fr s116 m127 (by omega)
          have m129 := st_fr s123 m128 (by decide)
          refine w_getf m129 rfl (fun _ => rfl) (w_icI (x := 1) rfl (w_op (c := w_i (g_np g + 1)) (i_add (g_np g) 1) (w_putf [.inr (.inl (some 1)), .inr (.inl (some 5)), .inl (w_i (g_hi g)), .inr (.inl (some 9)), .inr (.inl (some 17)), .inl (w_i (g_np g + 1)), .inr (.inl (some 18)), .inr (.inl (some 23)), .inl (w_i (g_nt g)), .inr (.inl (some 24)), .inr (.inl (some 25)), .inr (.inl (some 26)), .inr (.inl (some 27))] m129 rfl rfl rfl (fun _ => rfl) (fun h131 s130 => ?_))))
          have z133 := s130.1
          have z133y := s130.2.1
          have z133w := s130.2.2.2.2 z125w
          refine w_al (fun _ => rfl) (w_getf s130.2.2.1 rfl (fun _ => rfl) ?_)
          have m134 := nw_fr s110 m9 (by omega)
          have m135 := st_fr s112 m134 (by omega)
          have m136 := st_fr s116 m135 (by omega)
          have m137 := st_fr s123 m136 (by decide)
          have m138 := st_fr s130 m137 (by decide)
          refine w_this (fun _ => rfl) m138 (w_cv (fun _ => rfl) rfl (w_run k_151552 (w_al (fun _ => rfl) (w_icI (x := 0) rfl (w_putf [.inr (.inl (some 1)), .inr (.inl (some 10)), .inl (w_i 0), .inr (.inl (some 11)), .inl (w_i sta9), .inr (.inl (some (g_rw g))), .inl (w_i fnd9), .inr (.inl (some (g_stp g))), .inr (.inl (some (g_ahd g))), .inr (.inl (some (g_cst g))), .inr (.inl (some (g_chp g))), .inl (w_i kco9)] m138 rfl rfl rfl (fun _ => rfl) (fun h140 s139 => ?_))))))
          have z142 := s139.1
          have z142y := s139.2.1
          have z142w := s139.2.2.2.2 z133w
          refine w_al (fun _ => rfl) (w_icI (x := (-1)) wn_1 (w_putf [.inr (.inl (some 1)), .inr (.inl (some 10)), .inl (w_i 0), .inr (.inl (some 11)), .inl (w_i (-1)), .inr (.inl (some (g_rw g))), .inl (w_i fnd9), .inr (.inl (some (g_stp g))), .inr (.inl (some (g_ahd g))), .inr (.inl (some (g_cst g))), .inr (.inl (some (g_chp g))), .inl (w_i kco9)] s139.2.2.1 rfl rfl rfl (fun _ => rfl) (fun h144 s143 => ?_)))
          have z146 := s143.1
          have z146y := s143.2.1
          have z146w := s143.2.2.2.2 z142w
          refine w_rv ⟨rfl, ?_⟩
          refine w_al (fun _ => rfl) ?_
          have m147 := st_fr s139 s130.2.2.1 (by decide)
          have m148 := st_fr s143 m147 (by decide)
          refine w_getf m148 rfl (fun _ => rfl) (w_icI (x := 1) rfl (w_op (c := w_i ((g_np g + 1) - 1)) (i_sub (g_np g + 1) 1) (w_ri ?_)))
          have F1 := F.1
          have F2 := F.2.1
          have m149 := st_fr s130 s123.2.2.1 (by decide)
          have m150 := st_fr s139 m149 (by decide)
          have m151 := st_fr s143 m150 (by decide)
          have m152 := st_fr s123 s116.2.2.1 (by omega)
          have m153 := st_fr s130 m152 (by omega)
          have m154 := st_fr s139 m153 (by omega)
          have m155 := st_fr s143 m154 (by omega)
          have ivn := pa_fin (kd := kd) (nu := nu) (e := _) iv (by omega) (by omega) (by omega) (by omega) z146w (by omega) (fun q hq n0 n9 n17 => (s143.2.2.2.1 q n9).trans ((s139.2.2.2.1 q n9).trans ((s130.2.2.2.1 q n0).trans ((s123.2.2.2.1 q n17).trans ((s116.2.2.2.1 q (by omega)).trans ((s112.2.2.2.1 q (by omega)).trans ((s110.2.2.2.1 q (by omega)).trans (rfl)))))))) m148 rfl s143.2.2.1 ⟨by omega, by omega, by omega, by omega, by omega, by omega⟩ m151 ll10 lp10 ln10 m155
          exact k0 _ (g_pa g kd nu) (o_nw o h.1 120 (g_np g).toNat) h144 ivn ch_gpa (onw_oe iv.2.2.2.1 (Nat.le_refl _)) (by omega) (by omega)
        by_cases c156 : kd = 4
        · rw [show (kd : Int) = 4 from c156]
          refine w_tsw (t := 520255) (fun _ => rfl) (w_run k_520255 (w_new z11w (fun h157 s158 => ?_)))
          have z159 := s158.1
          have z159y := s158.2.1
          have z159w := s158.2.2.2.2
          refine w_dup (fun _ => rfl) (w_il (fun _ => rfl) (w_rcv (fun _ => rfl) (w_cv (fun _ => rfl) rfl (w_run k_28672 (w_al (fun _ => rfl) (w_il (fun _ => rfl) (w_rcv (fun _ => rfl) (w_cv (fun _ => rfl) rfl (w_run k_266240 (w_al (fun _ => rfl) (w_il (fun _ => rfl) (w_rcv (fun _ => rfl) (w_cv (fun _ => rfl) rfl (w_run k_36864 (w_al (fun _ => rfl) (w_oi rfl (w_al (fun _ => rfl) (w_il (fun _ => rfl) (w_putf [.inl (w_i nu), .inl (w_i 0)] s158.2.2.1 rfl rfl rfl (fun _ => rfl) (fun h161 s160 => ?_))))))))))))))))))))
          have z163 := s160.1
          have z163y := s160.2.1
          have z163w := s160.2.2.2.2 z159w
          refine w_al (fun _ => rfl) (w_icI (x := 1) rfl (w_il (fun _ => rfl) (w_op (c := w_i (1 + nu)) (i_add 1 nu) (w_putf [.inl (w_i nu), .inl (w_i (1 + nu))] s160.2.2.1 rfl rfl rfl (fun _ => rfl) (fun h165 s164 => ?_)))))
          have z167 := s164.1
          have z167y := s164.2.1
          have z167w := s164.2.2.2.2 z163w
          refine w_rv ⟨rfl, ?_⟩
          refine w_rv ⟨rfl, ?_⟩
          refine w_rv ⟨rfl, ?_⟩
          refine w_ra ⟨_, rfl, ?_⟩
          have m168 := nw_fr s158 m10 (by omega)
          have m169 := st_fr s160 m168 (by omega)
          have m170 := st_fr s164 m169 (by omega)
          refine w_aastI m170 (by omega) (by omega) (by decide) (isC_of s164.2.2.1 rfl) (fun h172 s171 => ?_)
          have z173 := s171.1
          have z173y := s171.2.1
          have z173w := s171.2.2.2.2 z167w
          refine w_al (fun _ => rfl) (w_dup (fun _ => rfl) ?_)
          have m174 := nw_fr s158 m7 (by omega)
          have m175 := st_fr s160 m174 (by omega)
          have m176 := st_fr s164 m175 (by omega)
          have m177 := st_fr s171 m176 (by decide)
          refine w_getf m177 rfl (fun _ => rfl) (w_icI (x := 1) rfl (w_op (c := w_i (g_np g + 1)) (i_add (g_np g) 1) (w_putf [.inr (.inl (some 1)), .inr (.inl (some 5)), .inl (w_i (g_hi g)), .inr (.inl (some 9)), .inr (.inl (some 17)), .inl (w_i (g_np g + 1)), .inr (.inl (some 18)), .inr (.inl (some 23)), .inl (w_i (g_nt g)), .inr (.inl (some 24)), .inr (.inl (some 25)), .inr (.inl (some 26)), .inr (.inl (some 27))] m177 rfl rfl rfl (fun _ => rfl) (fun h179 s178 => ?_))))
          have z181 := s178.1
          have z181y := s178.2.1
          have z181w := s178.2.2.2.2 z173w
          refine w_al (fun _ => rfl) (w_getf s178.2.2.1 rfl (fun _ => rfl) ?_)
          have m182 := nw_fr s158 m9 (by omega)
          have m183 := st_fr s160 m182 (by omega)
          have m184 := st_fr s164 m183 (by omega)
          have m185 := st_fr s171 m184 (by decide)
          have m186 := st_fr s178 m185 (by decide)
          refine w_this (fun _ => rfl) m186 (w_cv (fun _ => rfl) rfl (w_run k_151552 (w_al (fun _ => rfl) (w_icI (x := 0) rfl (w_putf [.inr (.inl (some 1)), .inr (.inl (some 10)), .inl (w_i 0), .inr (.inl (some 11)), .inl (w_i sta9), .inr (.inl (some (g_rw g))), .inl (w_i fnd9), .inr (.inl (some (g_stp g))), .inr (.inl (some (g_ahd g))), .inr (.inl (some (g_cst g))), .inr (.inl (some (g_chp g))), .inl (w_i kco9)] m186 rfl rfl rfl (fun _ => rfl) (fun h188 s187 => ?_))))))
          have z190 := s187.1
          have z190y := s187.2.1
          have z190w := s187.2.2.2.2 z181w
          refine w_al (fun _ => rfl) (w_icI (x := (-1)) wn_1 (w_putf [.inr (.inl (some 1)), .inr (.inl (some 10)), .inl (w_i 0), .inr (.inl (some 11)), .inl (w_i (-1)), .inr (.inl (some (g_rw g))), .inl (w_i fnd9), .inr (.inl (some (g_stp g))), .inr (.inl (some (g_ahd g))), .inr (.inl (some (g_cst g))), .inr (.inl (some (g_chp g))), .inl (w_i kco9)] s187.2.2.1 rfl rfl rfl (fun _ => rfl) (fun h192 s191 => ?_)))
          have z194 := s191.1
          have z194y := s191.2.1
          have z194w := s191.2.2.2.2 z190w
          refine w_rv ⟨rfl, ?_⟩
          refine w_al (fun _ => rfl) ?_
          have m195 := st_fr s187 s178.2.2.1 (by decide)
          have m196 := st_fr s191 m195 (by decide)
          refine w_getf m196 rfl (fun _ => rfl) (w_icI (x := 1) rfl (w_op (c := w_i ((g_np g + 1) - 1)) (i_sub (g_np g + 1) 1) (w_ri ?_)))
          have F1 := F.1
          have F2 := F.2.1
          have m197 := st_fr s178 s171.2.2.1 (by decide)
          have m198 := st_fr s187 m197 (by decide)
          have m199 := st_fr s191 m198 (by decide)
          have m200 := st_fr s171 s164.2.2.1 (by omega)
          have m201 := st_fr s178 m200 (by omega)
          have m202 := st_fr s187 m201 (by omega)
          have m203 := st_fr s191 m202 (by omega)
          have ivn := pa_fin (kd := kd) (nu := nu) (e := _) iv (by omega) (by omega) (by omega) (by omega) z194w (by omega) (fun q hq n0 n9 n17 => (s191.2.2.2.1 q n9).trans ((s187.2.2.2.1 q n9).trans ((s178.2.2.2.1 q n0).trans ((s171.2.2.2.1 q n17).trans ((s164.2.2.2.1 q (by omega)).trans ((s160.2.2.2.1 q (by omega)).trans ((s158.2.2.2.1 q (by omega)).trans (rfl)))))))) m196 rfl s191.2.2.1 ⟨by omega, by omega, by omega, by omega, by omega, by omega⟩ m199 ll10 lp10 ln10 m203
          exact k0 _ (g_pa g kd nu) (o_nw o h.1 120 (g_np g).toNat) h192 ivn ch_gpa (onw_oe iv.2.2.2.1 (Nat.le_refl _)) (by omega) (by omega)
        by_cases c204 : kd = 5
        · rw [show (kd : Int) = 5 from c204]
          refine w_tsw (t := 520264) (fun _ => rfl) (w_run k_520264 (w_new z11w (fun h205 s206 => ?_)))
          have z207 := s206.1
          have z207y := s206.2.1
          have z207w := s206.2.2.2.2
          refine w_dup (fun _ => rfl) (w_il (fun _ => rfl) (w_rcv (fun _ => rfl) (w_cv (fun _ => rfl) rfl (w_run k_4096 (w_al (fun _ => rfl) (w_il (fun _ => rfl) (w_rcv (fun _ => rfl) (w_cv (fun _ => rfl) rfl (w_run k_266240 (w_al (fun _ => rfl) (w_il (fun _ => rfl) (w_rcv (fun _ => rfl) (w_cv (fun _ => rfl) rfl (w_run k_36864 (w_al (fun _ => rfl) (w_oi rfl (w_al (fun _ => rfl) (w_il (fun _ => rfl) (w_putf [.inl (w_i nu), .inl (w_i 0)] s206.2.2.1 rfl rfl rfl (fun _ => rfl) (fun h209 s208 => ?_))))))))))))))))))))
          have z211 := s208.1
          have z211y := s208.2.1
          have z211w := s208.2.2.2.2 z207w
          refine w_al (fun _ => rfl) (w_icI (x := 1) rfl (w_il (fun _ => rfl) (w_op (c := w_i (1 + nu)) (i_add 1 nu) (w_putf [.inl (w_i nu), .inl (w_i (1 + nu))] s208.2.2.1 rfl rfl rfl (fun _ => rfl) (fun h213 s212 => ?_)))))
          have z215 := s212.1
          have z215y := s212.2.1
          have z215w := s212.2.2.2.2 z211w
          refine w_rv ⟨rfl, ?_⟩
          refine w_rv ⟨rfl, ?_⟩
          refine w_rv ⟨rfl, ?_⟩
          refine w_ra ⟨_, rfl, ?_⟩
          have m216 := nw_fr s206 m10 (by omega)
          have m217 := st_fr s208 m216 (by omega)
          have m218 := st_fr s212 m217 (by omega)
          refine w_aastI m218 (by omega) (by omega) (by decide) (isC_of s212.2.2.1 rfl) (fun h220 s219 => ?_)
          have z221 := s219.1
          have z221y := s219.2.1
          have z221w := s219.2.2.2.2 z215w
          refine w_al (fun _ => rfl) (w_dup (fun _ => rfl) ?_)
          have m222 := nw_fr s206 m7 (by omega)
          have m223 := st_fr s208 m222 (by omega)
          have m224 := st_fr s212 m223 (by omega)
          have m225 := st_fr s219 m224 (by decide)
          refine w_getf m225 rfl (fun _ => rfl) (w_icI (x := 1) rfl (w_op (c := w_i (g_np g + 1)) (i_add (g_np g) 1) (w_putf [.inr (.inl (some 1)), .inr (.inl (some 5)), .inl (w_i (g_hi g)), .inr (.inl (some 9)), .inr (.inl (some 17)), .inl (w_i (g_np g + 1)), .inr (.inl (some 18)), .inr (.inl (some 23)), .inl (w_i (g_nt g)), .inr (.inl (some 24)), .inr (.inl (some 25)), .inr (.inl (some 26)), .inr (.inl (some 27))] m225 rfl rfl rfl (fun _ => rfl) (fun h227 s226 => ?_))))
          have z229 := s226.1
          have z229y := s226.2.1
          have z229w := s226.2.2.2.2 z221w
          refine w_al (fun _ => rfl) (w_getf s226.2.2.1 rfl (fun _ => rfl) ?_)
          have m230 := nw_fr s206 m9 (by omega)
          have m231 := st_fr s208 m230 (by omega)
          have m232 := st_fr s212 m231 (by omega)
          have m233 := st_fr s219 m232 (by decide)
          have m234 := st_fr s226 m233 (by decide)
          refine w_this (fun _ => rfl) m234 (w_cv (fun _ => rfl) rfl (w_run k_151552 (w_al (fun _ => rfl) (w_icI (x := 0) rfl (w_putf [.inr (.inl (some 1)), .inr (.inl (some 10)), .inl (w_i 0), .inr (.inl (some 11)), .inl (w_i sta9), .inr (.inl (some (g_rw g))), .inl (w_i fnd9), .inr (.inl (some (g_stp g))), .inr (.inl (some (g_ahd g))), .inr (.inl (some (g_cst g))), .inr (.inl (some (g_chp g))), .inl (w_i kco9)] m234 rfl rfl rfl (fun _ => rfl) (fun h236 s235 => ?_))))))
          have z238 := s235.1
          have z238y := s235.2.1
          have z238w := s235.2.2.2.2 z229w
          refine w_al (fun _ => rfl) (w_icI (x := (-1)) wn_1 (w_putf [.inr (.inl (some 1)), .inr (.inl (some 10)), .inl (w_i 0), .inr (.inl (some 11)), .inl (w_i (-1)), .inr (.inl (some (g_rw g))), .inl (w_i fnd9), .inr (.inl (some (g_stp g))), .inr (.inl (some (g_ahd g))), .inr (.inl (some (g_cst g))), .inr (.inl (some (g_chp g))), .inl (w_i kco9)] s235.2.2.1 rfl rfl rfl (fun _ => rfl) (fun h240 s239 => ?_)))
          have z242 := s239.1
          have z242y := s239.2.1
          have z242w := s239.2.2.2.2 z238w
          refine w_rv ⟨rfl, ?_⟩
          refine w_al (fun _ => rfl) ?_
          have m243 := st_fr s235 s226.2.2.1 (by decide)
          have m244 := st_fr s239 m243 (by decide)
          refine w_getf m244 rfl (fun _ => rfl) (w_icI (x := 1) rfl (w_op (c := w_i ((g_np g + 1) - 1)) (i_sub (g_np g + 1) 1) (w_ri ?_)))
          have F1 := F.1
          have F2 := F.2.1
          have m245 := st_fr s226 s219.2.2.1 (by decide)
          have m246 := st_fr s235 m245 (by decide)
          have m247 := st_fr s239 m246 (by decide)
          have m248 := st_fr s219 s212.2.2.1 (by omega)
          have m249 := st_fr s226 m248 (by omega)
          have m250 := st_fr s235 m249 (by omega)
          have m251 := st_fr s239 m250 (by omega)
          have ivn := pa_fin (kd := kd) (nu := nu) (e := _) iv (by omega) (by omega) (by omega) (by omega) z242w (by omega) (fun q hq n0 n9 n17 => (s239.2.2.2.1 q n9).trans ((s235.2.2.2.1 q n9).trans ((s226.2.2.2.1 q n0).trans ((s219.2.2.2.1 q n17).trans ((s212.2.2.2.1 q (by omega)).trans ((s208.2.2.2.1 q (by omega)).trans ((s206.2.2.2.1 q (by omega)).trans (rfl)))))))) m244 rfl s239.2.2.1 ⟨by omega, by omega, by omega, by omega, by omega, by omega⟩ m247 ll10 lp10 ln10 m251
          exact k0 _ (g_pa g kd nu) (o_nw o h.1 120 (g_np g).toNat) h240 ivn ch_gpa (onw_oe iv.2.2.2.1 (Nat.le_refl _)) (by omega) (by omega)
        refine w_tswL (by omega) (by omega) (by show _ < ((1 : Nat) : Int) ∨ ((6 : Nat) : Int) ≤ _; omega) (by decide) (w_run k_520273 (w_new z11w (fun h252 s253 => ?_)))
        have z254 := s253.1
        have z254y := s253.2.1
        have z254w := s253.2.2.2.2
        refine w_dup (fun _ => rfl) (w_il (fun _ => rfl) (w_rcv (fun _ => rfl) (w_cv (fun _ => rfl) rfl (w_run k_36864 (w_al (fun _ => rfl) (w_oi rfl (w_al (fun _ => rfl) (w_il (fun _ => rfl) (w_putf [.inl (w_i nu), .inl (w_i 0)] s253.2.2.1 rfl rfl rfl (fun _ => rfl) (fun h256 s255 => ?_))))))))))
        have z258 := s255.1
        have z258y := s255.2.1
        have z258w := s255.2.2.2.2 z254w
        refine w_al (fun _ => rfl) (w_icI (x := 1) rfl (w_il (fun _ => rfl) (w_op (c := w_i (1 + nu)) (i_add 1 nu) (w_putf [.inl (w_i nu), .inl (w_i (1 + nu))] s255.2.2.1 rfl rfl rfl (fun _ => rfl) (fun h260 s259 => ?_)))))
        have z262 := s259.1
        have z262y := s259.2.1
        have z262w := s259.2.2.2.2 z258w
        refine w_rv ⟨rfl, ?_⟩
        refine w_ra ⟨_, rfl, ?_⟩
        have m263 := nw_fr s253 m10 (by omega)
        have m264 := st_fr s255 m263 (by omega)
        have m265 := st_fr s259 m264 (by omega)
        refine w_aastI m265 (by omega) (by omega) (by decide) (isC_of s259.2.2.1 rfl) (fun h267 s266 => ?_)
        have z268 := s266.1
        have z268y := s266.2.1
        have z268w := s266.2.2.2.2 z262w
        refine w_al (fun _ => rfl) (w_dup (fun _ => rfl) ?_)
        have m269 := nw_fr s253 m7 (by omega)
        have m270 := st_fr s255 m269 (by omega)
        have m271 := st_fr s259 m270 (by omega)
        have m272 := st_fr s266 m271 (by decide)
        refine w_getf m272 rfl (fun _ => rfl) (w_icI (x := 1) rfl (w_op (c := w_i (g_np g + 1)) (i_add (g_np g) 1) (w_putf [.inr (.inl (some 1)), .inr (.inl (some 5)), .inl (w_i (g_hi g)), .inr (.inl (some 9)), .inr (.inl (some 17)), .inl (w_i (g_np g + 1)), .inr (.inl (some 18)), .inr (.inl (some 23)), .inl (w_i (g_nt g)), .inr (.inl (some 24)), .inr (.inl (some 25)), .inr (.inl (some 26)), .inr (.inl (some 27))] m272 rfl rfl rfl (fun _ => rfl) (fun h274 s273 => ?_))))
        have z276 := s273.1
        have z276y := s273.2.1
        have z276w := s273.2.2.2.2 z268w
        refine w_al (fun _ => rfl) (w_getf s273.2.2.1 rfl (fun _ => rfl) ?_)
        have m277 := nw_fr s253 m9 (by omega)
        have m278 := st_fr s255 m277 (by omega)
        have m279 := st_fr s259 m278 (by omega)
        have m280 := st_fr s266 m279 (by decide)
        have m281 := st_fr s273 m280 (by decide)
        refine w_this (fun _ => rfl) m281 (w_cv (fun _ => rfl) rfl (w_run k_151552 (w_al (fun _ => rfl) (w_icI (x := 0) rfl (w_putf [.inr (.inl (some 1)), .inr (.inl (some 10)), .inl (w_i 0), .inr (.inl (some 11)), .inl (w_i sta9), .inr (.inl (some (g_rw g))), .inl (w_i fnd9), .inr (.inl (some (g_stp g))), .inr (.inl (some (g_ahd g))), .inr (.inl (some (g_cst g))), .inr (.inl (some (g_chp g))), .inl (w_i kco9)] m281 rfl rfl rfl (fun _ => rfl) (fun h283 s282 => ?_))))))
        have z285 := s282.1
        have z285y := s282.2.1
        have z285w := s282.2.2.2.2 z276w
        refine w_al (fun _ => rfl) (w_icI (x := (-1)) wn_1 (w_putf [.inr (.inl (some 1)), .inr (.inl (some 10)), .inl (w_i 0), .inr (.inl (some 11)), .inl (w_i (-1)), .inr (.inl (some (g_rw g))), .inl (w_i fnd9), .inr (.inl (some (g_stp g))), .inr (.inl (some (g_ahd g))), .inr (.inl (some (g_cst g))), .inr (.inl (some (g_chp g))), .inl (w_i kco9)] s282.2.2.1 rfl rfl rfl (fun _ => rfl) (fun h287 s286 => ?_)))
        have z289 := s286.1
        have z289y := s286.2.1
        have z289w := s286.2.2.2.2 z285w
        refine w_rv ⟨rfl, ?_⟩
        refine w_al (fun _ => rfl) ?_
        have m290 := st_fr s282 s273.2.2.1 (by decide)
        have m291 := st_fr s286 m290 (by decide)
        refine w_getf m291 rfl (fun _ => rfl) (w_icI (x := 1) rfl (w_op (c := w_i ((g_np g + 1) - 1)) (i_sub (g_np g + 1) 1) (w_ri ?_)))
        have F1 := F.1
        have F2 := F.2.1
        have m292 := st_fr s273 s266.2.2.1 (by decide)
        have m293 := st_fr s282 m292 (by decide)
        have m294 := st_fr s286 m293 (by decide)
        have m295 := st_fr s266 s259.2.2.1 (by omega)
        have m296 := st_fr s273 m295 (by omega)
        have m297 := st_fr s282 m296 (by omega)
        have m298 := st_fr s286 m297 (by omega)
        have ivn := pa_fin (kd := kd) (nu := nu) (e := _) iv (by omega) (by omega) (by omega) (by omega) z289w (by omega) (fun q hq n0 n9 n17 => (s286.2.2.2.1 q n9).trans ((s282.2.2.2.1 q n9).trans ((s273.2.2.2.1 q n0).trans ((s266.2.2.2.1 q n17).trans ((s259.2.2.2.1 q (by omega)).trans ((s255.2.2.2.1 q (by omega)).trans ((s253.2.2.2.1 q (by omega)).trans (rfl)))))))) m291 rfl s286.2.2.1 ⟨by omega, by omega, by omega, by omega, by omega, by omega⟩ m294 ll10 lp10 ln10 m298
        exact k0 _ (g_pa g kd nu) (o_nw o h.1 120 (g_np g).toNat) h287 ivn ch_gpa (onw_oe iv.2.2.2.1 (Nat.le_refl _)) (by omega) (by omega)
      · refine w_icI (x := (-4)) wn_4 (w_ri ?_)
        exact k1 (-4) h iv F (by omega) (by omega)
    · refine w_nezf (by omega) (by omega) (by omega)  (w_icI (x := (-2)) wn_2 (w_ri ?_))
      exact k1 (-2) h iv F (by omega) (by omega)
  · refine w_eqzt (by omega) (by omega) (by omega)  (w_run k_380945 (w_icI (x := (-2)) wn_2 (w_ri ?_)))
    exact k1 (-2) h iv F (by omega) (by omega)
theorem k_368640 : m_cg 368640 = g_90_0 := rfl
theorem k_368662 : m_cg 368662 = g_90_22 := rfl
theorem k_368692 : m_cg 368692 = g_90_52 := rfl
theorem k_323584 : m_cg 323584 = g_79_0 := rfl
theorem k_323611 : m_cg 323611 = g_79_27 := rfl
theorem k_323641 : m_cg 323641 = g_79_57 := rfl
theorem k_368693 : m_cg 368693 = g_90_53 := rfl
theorem k_323612 : m_cg 323612 = g_79_28 := rfl
theorem k_323642 : m_cg 323642 = g_79_58 := rfl
theorem k_368659 : m_cg 368659 = g_90_19 := rfl
theorem c_touch {g : w_G} {o : w_O} {h : m_H} {d : Nat} {Q : Option m_V → m_H → Prop} (iv : w_Inv g o h) {a : Int} {b : Int} {is_ : Int} (a_lo : -2147483648 ≤ a) (a_hi : a ≤ 2147483647) (b_lo : -2147483648 ≤ b) (b_hi : b ≤ 2147483647) (is__lo : -2147483648 ≤ is_) (is__hi : is_ ≤ 2147483647) (k0 : ∀ (x : Int) (g2 : w_G) (o2 : w_O) (h2 : m_H), w_Inv g2 o2 h2 → w_ch [] [0] g g2 → w_oe o o2 → h2.1 ≤ h.1 + 3 → h2.2.1 ≤ h.2.1 + 200 → Q (some (.inl (w_i x))) h2) (k1 : ∀ (x : Int), ∀ h2 : m_H, w_Inv g o h2 → w_fr o [9] h h2 → -2147483648 ≤ x → x ≤ 2147483647 → Q (some (.inl (w_i x))) h2) : wp (d + 2) 368640 [.inr (.inl (some 0)), .inl (w_i a), .inl (w_i b), .inl (w_i is_), .inr (.inr (.inl 0))] [] h Q := by
  have F := fr_rf (o := o) (h := h) (W := [9])
  have W := iv_wc iv
  refine w_run k_368640 (w_al (fun _ => rfl) ?_)
  obtain ⟨_, m1, rfl⟩ := iv_0 iv
  refine w_getf m1 rfl (fun _ => rfl) (w_il (fun _ => rfl) (w_il (fun _ => rfl) ?_))
  obtain ⟨_, m2, kp2, sp2, rl2, rfl, l2_kp, u2_kp, l2_sp, u2_sp, l2_rl, u2_rl, f2_0, f2_1⟩ := iv_1 iv
  refine w_this (fun _ => rfl) m2 ?_
  refine w_ca (fun _ => rfl) rfl (c_areTwo (d := d) iv (a := a) (b := b) (by omega) (by omega) (by omega) (by omega)   (fun b3 b4 b5 b6 b7 => ⟨_, rfl, ?_⟩) (fun b8 => ⟨_, rfl, ?_⟩))
  · refine w_eqzf (by omega) (by omega) (by omega)  (w_il (fun _ => rfl) ?_)
    refine w_ca (fun _ => rfl) rfl (c_isFlag (d := (d + 1)) iv (n := is_) (by omega) (by omega)   (fun b9 b10 => ⟨_, rfl, ?_⟩) (fun b11 => ⟨_, rfl, ?_⟩))
    · refine w_nezt (by omega) (by omega) (by omega)  (w_run k_368662 (w_al (fun _ => rfl) (w_getf m1 rfl (fun _ => rfl) (w_getf m2 rfl (fun _ => rfl) (w_il (fun _ => rfl) ?_)))))
      obtain ⟨_, m12, A12, rfl, e12⟩ := iv_2 iv
      refine w_aldI m12 (by omega) (by omega) (by omega) ?_
      obtain ⟨b13, b14⟩ := ag_rg A12 a
      have e15 := e12 a (by omega) (by omega)
      refine w_il (fun _ => rfl) (w_opR shr_lt (fun x16 x160 x161 x16e => ?_))
      refine w_icI (x := 1) rfl (w_op01 and_1 (fun x17 x170 x171 x17e => ?_))
      refine w_is (fun _ => rfl) ?_
      have z18 := iv.2.2.2.2.1
      have z18w := iv.1
      refine w_al (fun _ => rfl) (w_getf m1 rfl (fun _ => rfl) (w_il (fun _ => rfl) (w_il (fun _ => rfl) (w_il (fun _ => rfl) (w_icI (x := 1) rfl ?_)))))
      refine w_ne2 (by omega) (by omega) (by omega) (by omega)  (fun c19 => ?_) (fun c19 => ?_)
      · refine w_run k_368692 (w_icI (x := 0) rfl (w_this (fun _ => rfl) m2 (w_cv (fun _ => rfl) rfl (w_run k_323584 (w_al (fun _ => rfl) (w_getf m2 rfl (fun _ => rfl) (w_il (fun _ => rfl) (w_al (fun _ => rfl) (w_getf m2 rfl (fun _ => rfl) (w_il (fun _ => rfl) (w_aldI m12 (by omega) (by omega) (by omega) ?_)))))))))))
        obtain ⟨b20, b21⟩ := ag_rg A12 a
        have e22 := e12 a (by omega) (by omega)
        refine w_icI (x := 1) rfl (w_il (fun _ => rfl) (w_opR shl_lt (fun x23 x230 x231 x23e => ?_)))
        refine w_icI (x := (-1)) wn_1 (w_opR xor_lt (fun x24 x240 x241 x24e => ?_))
        refine w_opR and_lt (fun x25 x250 x251 x25e => ?_)
        refine w_il (fun _ => rfl) (w_eqzt (by omega) (by omega) (by omega)  (w_run k_323611 (w_icI (x := 0) rfl ?_)))
        refine w_opR or_lt (fun x26 x260 x261 x26e => ?_)
        have hTa := wf_T iv a (by omega) (by omega)
        have eTa := e12 a (by omega) (by omega)
        have hxa := lk_63 (T := (a_g A12 a)) (b := b) (by omega) (by omega) (by omega) (by omega) x23e x24e x25e (Or.inr rfl) x26e (by omega) (by omega)
        refine w_astI m12 (by omega) (by omega) (by omega) (by omega) (by omega) (fun A29 h28 w30 s27 => ?_)
        have z31 := s27.1
        have z31y := s27.2.1
        have z31w := s27.2.2.2.2 z18w
        refine w_al (fun _ => rfl) ?_
        have m32 := st_fr s27 m2 (by decide)
        refine w_getf m32 rfl (fun _ => rfl) (w_il (fun _ => rfl) (w_al (fun _ => rfl) (w_getf m32 rfl (fun _ => rfl) (w_il (fun _ => rfl) (w_aldI s27.2.2.1 (by omega) (by omega) (by omega) ?_)))))
        obtain ⟨b33, b34⟩ := ag_rg A29 b
        refine w_icI (x := 1) rfl (w_il (fun _ => rfl) (w_opR shl_lt (fun x35 x350 x351 x35e => ?_)))
        refine w_icI (x := (-1)) wn_1 (w_opR xor_lt (fun x36 x360 x361 x36e => ?_))
        refine w_opR and_lt (fun x37 x370 x371 x37e => ?_)
        refine w_il (fun _ => rfl) (w_eqzt (by omega) (by omega) (by omega)  (w_run k_323641 (w_icI (x := 0) rfl ?_)))
        refine w_opR or_lt (fun x38 x380 x381 x38e => ?_)
        have hTb := wf_T iv b (by omega) (by omega)
        have eTb := e12 b (by omega) (by omega)
        have eb2 : a_g A29 b = a_g A12 b := (w30 b (by omega) (by omega)).trans (if_neg (by omega))
        have hxb := lk_63 (T := (a_g A29 b)) (b := a) (by omega) (by omega) (by omega) (by omega) x35e x36e x37e (Or.inr rfl) x38e (by omega) (by omega)
        refine w_astI s27.2.2.1 (by omega) (by omega) (by omega) (by omega) (by omega) (fun A41 h40 w42 s39 => ?_)
        have z43 := s39.1
        have z43y := s39.2.1
        have z43w := s39.2.2.2.2 z31w
        refine w_rv ⟨rfl, ?_⟩
        have F1 := F.1
        have F2 := F.2.1
        have E1 : h40.1 = h.1 := by omega
        have E2 : h40.2.1 = h.2.1 := by omega
        have hA : ∀ j : Int, 0 ≤ j → j < 6 → 0 ≤ a_g A41 j ∧ a_g A41 j ≤ 63 := fun j j0 j1 => by
          rw [w42 j j0 (by omega)]
          by_cases hb : j = b
          · rw [if_pos hb]; exact hxb
          · rw [if_neg hb, w30 j j0 (by omega)]
            by_cases ha : j = a
            · rw [if_pos ha]; exact hxa
            · rw [if_neg ha, e12 j j0 (by omega)]; exact wf_T iv j j0 (by omega)
        have ivn := to_fin iv z43w (by omega) (fun q n2 => (s39.2.2.2.1 q n2).trans ((s27.2.2.2.1 q n2).trans (rfl))) s39.2.2.1 hA
        obtain ⟨g, ivq, chg⟩ : ∃ g2 : w_G, w_Inv g2 o h40 ∧ w_ch [] [0] g g2 := ⟨_, ivn, ch_gto⟩
        have W := iv_wc ivq
        have Fq := fr_rf (o := o) (h := h40) (W := [9])
        refine w_al (fun _ => rfl) ?_
        obtain ⟨_, m44, rfl⟩ := iv_0 ivq
        refine w_getf m44 rfl (fun _ => rfl) ?_
        obtain ⟨_, m45, kpr45, sta45, fnd45, kco45, rfl, l45_kpr, u45_kpr, l45_sta, u45_sta, l45_fnd, u45_fnd, l45_kco, u45_kco, f45_0, f45_1, f45_2, f45_3, f45_4, f45_5, f45_6⟩ := iv_9 ivq
        refine w_this (fun _ => rfl) m45 ?_
        refine w_cv (fun _ => rfl) rfl (c_forget (d := (d + 1)) ivq     (fun h46 iv47 F48 => ⟨rfl, ?_⟩))
        have F49 := fr_ca Fq F48 (fun t ht => by exact ht)
        refine w_il (fun _ => rfl) (w_ri ?_)
        exact k0 _ g o h46 iv47 chg oe_rf (by have := F49.1; omega) (by have := F49.2.1; omega)
      · refine w_icI (x := 1) rfl (w_go (w_run k_368693 (w_this (fun _ => rfl) m2 (w_cv (fun _ => rfl) rfl (w_run k_323584 (w_al (fun _ => rfl) (w_getf m2 rfl (fun _ => rfl) (w_il (fun _ => rfl) (w_al (fun _ => rfl) (w_getf m2 rfl (fun _ => rfl) (w_il (fun _ => rfl) (w_aldI m12 (by omega) (by omega) (by omega) ?_))))))))))))
        obtain ⟨b50, b51⟩ := ag_rg A12 a
        have e52 := e12 a (by omega) (by omega)
        refine w_icI (x := 1) rfl (w_il (fun _ => rfl) (w_opR shl_lt (fun x53 x530 x531 x53e => ?_)))
        refine w_icI (x := (-1)) wn_1 (w_opR xor_lt (fun x54 x540 x541 x54e => ?_))
        refine w_opR and_lt (fun x55 x550 x551 x55e => ?_)
        refine w_il (fun _ => rfl) (w_eqzf (by omega) (by omega) (by omega)  (w_icI (x := 1) rfl (w_il (fun _ => rfl) (w_opR shl_lt (fun x56 x560 x561 x56e => ?_)))))
        refine w_go (w_run k_323612 ?_)
        refine w_opR or_lt (fun x57 x570 x571 x57e => ?_)
        have hTa := wf_T iv a (by omega) (by omega)
        have eTa := e12 a (by omega) (by omega)
        have hxa := lk_63 (T := (a_g A12 a)) (b := b) (by omega) (by omega) (by omega) (by omega) x53e x54e x55e (Or.inl x56e.symm) x57e (by omega) (by omega)
        refine w_astI m12 (by omega) (by omega) (by omega) (by omega) (by omega) (fun A60 h59 w61 s58 => ?_)
        have z62 := s58.1
        have z62y := s58.2.1
        have z62w := s58.2.2.2.2 z18w
        refine w_al (fun _ => rfl) ?_
        have m63 := st_fr s58 m2 (by decide)
        refine w_getf m63 rfl (fun _ => rfl) (w_il (fun _ => rfl) (w_al (fun _ => rfl) (w_getf m63 rfl (fun _ => rfl) (w_il (fun _ => rfl) (w_aldI s58.2.2.1 (by omega) (by omega) (by omega) ?_)))))
        obtain ⟨b64, b65⟩ := ag_rg A60 b
        refine w_icI (x := 1) rfl (w_il (fun _ => rfl) (w_opR shl_lt (fun x66 x660 x661 x66e => ?_)))
        refine w_icI (x := (-1)) wn_1 (w_opR xor_lt (fun x67 x670 x671 x67e => ?_))
        refine w_opR and_lt (fun x68 x680 x681 x68e => ?_)
        refine w_il (fun _ => rfl) (w_eqzf (by omega) (by omega) (by omega)  (w_icI (x := 1) rfl (w_il (fun _ => rfl) (w_opR shl_lt (fun x69 x690 x691 x69e => ?_)))))
        refine w_go (w_run k_323642 ?_)
        refine w_opR or_lt (fun x70 x700 x701 x70e => ?_)
        have hTb := wf_T iv b (by omega) (by omega)
        have eTb := e12 b (by omega) (by omega)
        have eb2 : a_g A60 b = a_g A12 b := (w61 b (by omega) (by omega)).trans (if_neg (by omega))
        have hxb := lk_63 (T := (a_g A60 b)) (b := a) (by omega) (by omega) (by omega) (by omega) x66e x67e x68e (Or.inl x69e.symm) x70e (by omega) (by omega)
        refine w_astI s58.2.2.1 (by omega) (by omega) (by omega) (by omega) (by omega) (fun A73 h72 w74 s71 => ?_)
        have z75 := s71.1
        have z75y := s71.2.1
        have z75w := s71.2.2.2.2 z62w
        refine w_rv ⟨rfl, ?_⟩
        have F1 := F.1
        have F2 := F.2.1
        have E1 : h72.1 = h.1 := by omega
        have E2 : h72.2.1 = h.2.1 := by omega
        have hA : ∀ j : Int, 0 ≤ j → j < 6 → 0 ≤ a_g A73 j ∧ a_g A73 j ≤ 63 := fun j j0 j1 => by
          rw [w74 j j0 (by omega)]
          by_cases hb : j = b
          · rw [if_pos hb]; exact hxb
          · rw [if_neg hb, w61 j j0 (by omega)]
            by_cases ha : j = a
            · rw [if_pos ha]; exact hxa
            · rw [if_neg ha, e12 j j0 (by omega)]; exact wf_T iv j j0 (by omega)
        have ivn := to_fin iv z75w (by omega) (fun q n2 => (s71.2.2.2.1 q n2).trans ((s58.2.2.2.1 q n2).trans (rfl))) s71.2.2.1 hA
        obtain ⟨g, ivq, chg⟩ : ∃ g2 : w_G, w_Inv g2 o h72 ∧ w_ch [] [0] g g2 := ⟨_, ivn, ch_gto⟩
        have W := iv_wc ivq
        have Fq := fr_rf (o := o) (h := h72) (W := [9])
        refine w_al (fun _ => rfl) ?_
        obtain ⟨_, m76, rfl⟩ := iv_0 ivq
        refine w_getf m76 rfl (fun _ => rfl) ?_
        obtain ⟨_, m77, kpr77, sta77, fnd77, kco77, rfl, l77_kpr, u77_kpr, l77_sta, u77_sta, l77_fnd, u77_fnd, l77_kco, u77_kco, f77_0, f77_1, f77_2, f77_3, f77_4, f77_5, f77_6⟩ := iv_9 ivq
        refine w_this (fun _ => rfl) m77 ?_
        refine w_cv (fun _ => rfl) rfl (c_forget (d := (d + 1)) ivq     (fun h78 iv79 F80 => ⟨rfl, ?_⟩))
        have F81 := fr_ca Fq F80 (fun t ht => by exact ht)
        refine w_il (fun _ => rfl) (w_ri ?_)
        exact k0 _ g o h78 iv79 chg oe_rf (by have := F81.1; omega) (by have := F81.2.1; omega)
    · refine w_nezf (by omega) (by omega) (by omega)  (w_icI (x := (-2)) wn_2 (w_ri ?_))
      exact k1 (-2) h iv F (by omega) (by omega)
  · refine w_eqzt (by omega) (by omega) (by omega)  (w_run k_368659 (w_icI (x := (-2)) wn_2 (w_ri ?_)))
    exact k1 (-2) h iv F (by omega) (by omega)
theorem k_462848 : m_cg 462848 = g_113_0 := rfl
theorem k_319488 : m_cg 319488 = g_78_0 := rfl
theorem c_image {g : w_G} {o : w_O} {h : m_H} {d : Nat} {Q : Option m_V → m_H → Prop} (iv : w_Inv g o h) (k0 : ∀ (x : Int) (g2 : w_G) (o2 : w_O) (h2 : m_H), w_Inv g2 o2 h2 → w_ch [5] [] g g2 → w_oe o o2 → h2.1 ≤ h.1 + 3 → h2.2.1 ≤ h.2.1 + 200 → Q (some (.inl (w_i x))) h2) : wp (d + 2) 462848 [.inr (.inl (some 0))] [] h Q := by
  have F := fr_rf (o := o) (h := h) (W := [5, 7, 8])
  have W := iv_wc iv
  refine w_run k_462848 (w_al (fun _ => rfl) ?_)
  obtain ⟨_, m1, rfl⟩ := iv_0 iv
  refine w_getf m1 rfl (fun _ => rfl) (w_al (fun _ => rfl) (w_getf m1 rfl (fun _ => rfl) ?_))
  obtain ⟨_, m2, kp2, sp2, rl2, rfl, l2_kp, u2_kp, l2_sp, u2_sp, l2_rl, u2_rl, f2_0, f2_1⟩ := iv_5 iv
  refine w_this (fun _ => rfl) m2 (w_cv (fun _ => rfl) rfl (w_run k_319488 (w_al (fun _ => rfl) ?_)))
  obtain ⟨_, m3, kp3, sp3, rl3, rfl, l3_kp, u3_kp, l3_sp, u3_sp, l3_rl, u3_rl, f3_0, f3_1⟩ := iv_1 iv
  refine w_getf m3 rfl (fun _ => rfl) (w_icI (x := 0) rfl (w_al (fun _ => rfl) (w_getf m2 rfl (fun _ => rfl) (w_icI (x := 0) rfl (w_icI (x := 6) rfl ?_)))))
  obtain ⟨_, m4, A4, rfl, e4⟩ := iv_3 iv
  obtain ⟨_, m5, A5, rfl, e5⟩ := iv_7 iv
  refine w_cpyI m4 m5 (by omega) (by omega) (by omega) (by omega) (by omega) (by omega) (by omega) rfl (fun A9 h7 w10 s6 => ?_)
  have e11 : ∀ j : Int, 0 ≤ j → j < 6 → g_hi g = 1 → 0 ≤ a_g A9 j ∧ a_g A9 j < g_C g := fun j j0 j1 => by
    rw [w10 j j0 j1]
    split
    · intro _; exact e4 (0 + (j - 0)) (by omega) (by omega)
    · exact e5 j j0 j1
  have iv8 := is_7 iv s6 ⟨_, rfl, e11⟩
  have F12 := fr_st F s6 (by rw [(ow_7 iv)]; rfl)
  refine w_al (fun _ => rfl) ?_
  have m13 := st_fr s6 m3 (by decide)
  refine w_getf m13 rfl (fun _ => rfl) (w_icI (x := 0) rfl (w_al (fun _ => rfl) ?_))
  have m14 := st_fr s6 m2 (by decide)
  refine w_getf m14 rfl (fun _ => rfl) (w_icI (x := 0) rfl (w_icI (x := 6) rfl ?_))
  obtain ⟨_, m15, A15, rfl⟩ := iv_4 iv8
  obtain ⟨_, m16, A16, rfl⟩ := iv_8 iv8
  refine w_cpyI m15 m16 (by omega) (by omega) (by omega) (by omega) (by omega) (by omega) (by omega) rfl (fun A20 h18 w21 s17 => ?_)
  have iv19 := is_8 iv8 s17 ⟨_, rfl⟩
  have F22 := fr_st F12 s17 (by rw [(ow_8 iv8)]; rfl)
  refine w_al (fun _ => rfl) (w_al (fun _ => rfl) ?_)
  have m23 := st_fr s17 m13 (by decide)
  refine w_getf m23 rfl (fun _ => rfl) ?_
  have m24 := st_fr s17 m14 (by decide)
  refine w_putf [.inl (w_i 4), .inl (w_i 3), .inl (w_i 81), .inr (.inl (some 6)), .inr (.inl (some 7)), .inr (.inl (some 8)), .inl (w_i kp3), .inl (w_i sp2), .inl (w_i rl2)] m24 rfl rfl rfl (fun _ => rfl) (fun h26 s25 => ?_)
  have iv27 := is_5 iv19 s25 ⟨_, _, _, rfl, by omega, by omega, by omega, by omega, by omega, by omega, by omega, by omega⟩
  have F28 := fr_st F22 s25 (by rw [(ow_5 iv19)]; rfl)
  refine w_al (fun _ => rfl) (w_al (fun _ => rfl) ?_)
  have m29 := st_fr s25 m23 (by decide)
  refine w_getf m29 rfl (fun _ => rfl) (w_putf [.inl (w_i 4), .inl (w_i 3), .inl (w_i 81), .inr (.inl (some 6)), .inr (.inl (some 7)), .inr (.inl (some 8)), .inl (w_i kp3), .inl (w_i sp3), .inl (w_i rl2)] s25.2.2.1 rfl rfl rfl (fun _ => rfl) (fun h31 s30 => ?_))
  have iv32 := is_5 iv27 s30 ⟨_, _, _, rfl, by omega, by omega, by omega, by omega, by omega, by omega, by omega, by omega⟩
  have F33 := fr_st F28 s30 (by rw [(ow_5 iv27)]; rfl)
  refine w_al (fun _ => rfl) (w_al (fun _ => rfl) ?_)
  have m34 := st_fr s30 m29 (by decide)
  refine w_getf m34 rfl (fun _ => rfl) (w_putf [.inl (w_i 4), .inl (w_i 3), .inl (w_i 81), .inr (.inl (some 6)), .inr (.inl (some 7)), .inr (.inl (some 8)), .inl (w_i kp3), .inl (w_i sp3), .inl (w_i rl3)] s30.2.2.1 rfl rfl rfl (fun _ => rfl) (fun h36 s35 => ?_))
  have iv37 := is_5 iv32 s35 ⟨_, _, _, rfl, by omega, by omega, by omega, by omega, by omega, by omega, by omega, by omega⟩
  have F38 := fr_st F33 s35 (by rw [(ow_5 iv32)]; rfl)
  refine w_rv ⟨rfl, ?_⟩
  have F1 := F38.1
  have F2 := F38.2.1
  have hA7 : ∀ j : Int, 0 ≤ j → j < 6 → 0 ≤ a_g A9 j ∧ a_g A9 j < g_C g := fun j j0 j1 => by rw [w10 j j0 (by omega), if_pos (by omega)]; exact e4 _ (by omega) (by omega)
  have m39 := st_fr s17 s6.2.2.1 (by decide)
  have m40 := st_fr s25 m39 (by decide)
  have m41 := st_fr s30 m40 (by decide)
  have m42 := st_fr s35 m41 (by decide)
  have m43 := st_fr s6 m1 (by decide)
  have m44 := st_fr s17 m43 (by decide)
  have m45 := st_fr s25 m44 (by decide)
  have m46 := st_fr s30 m45 (by decide)
  have m47 := st_fr s35 m46 (by decide)
  have z48 := iv37.2.2.2.2.1
  have z48w := iv37.1
  refine w_al (fun _ => rfl) (w_icI (x := 1) rfl (w_putf [.inr (.inl (some 1)), .inr (.inl (some 5)), .inl (w_i 1), .inr (.inl (some 9)), .inr (.inl (some 17)), .inl (w_i (g_np g)), .inr (.inl (some 18)), .inr (.inl (some 23)), .inl (w_i (g_nt g)), .inr (.inl (some 24)), .inr (.inl (some 25)), .inr (.inl (some 26)), .inr (.inl (some 27))] m47 rfl rfl rfl (fun _ => rfl) (fun h50 s49 => ?_)))
  have z52 := s49.1
  have z52y := s49.2.1
  have z52w := s49.2.2.2.2 z48w
  have E1 : h50.1 = h.1 := by omega
  have E2 : h50.2.1 = h.2.1 := by omega
  have ivn := im_fin (e := _) iv37 m42 hA7 s49 rfl
  obtain ⟨g, ivq, chg⟩ : ∃ g2 : w_G, w_Inv g2 o h50 ∧ w_ch [5] [] g g2 := ⟨_, ivn, ch_gim⟩
  have W := iv_wc ivq
  have Fq := fr_rf (o := o) (h := h50) (W := [5, 7, 8])
  refine w_al (fun _ => rfl) ?_
  obtain ⟨_, m53, rfl⟩ := iv_0 ivq
  refine w_getf m53 rfl (fun _ => rfl) (w_al (fun _ => rfl) (w_getf m53 rfl (fun _ => rfl) ?_))
  obtain ⟨_, m54, kp54, sp54, rl54, rfl, l54_kp, u54_kp, l54_sp, u54_sp, l54_rl, u54_rl, f54_0, f54_1⟩ := iv_1 ivq
  refine w_getf m54 rfl (fun _ => rfl) (w_this (fun _ => rfl) m54 ?_)
  obtain ⟨_, m55, A55, rfl, e55⟩ := iv_3 ivq
  refine w_ca (fun _ => rfl) rfl (c_numberOf (d := (d + 1)) ivq (q := 3)  m55 (by omega)  (fun y56 b57 b58 b59 b60 => ⟨_, rfl, ?_⟩))
  refine w_ri ?_
  exact k0 _ g o h50 ivq chg oe_rf (by have := Fq.1; omega) (by have := Fq.2.1; omega)
theorem k_466944 : m_cg 466944 = g_114_0 := rfl
theorem k_466954 : m_cg 466954 = g_114_10 := rfl
theorem c_back {g : w_G} {o : w_O} {h : m_H} {d : Nat} {Q : Option m_V → m_H → Prop} (iv : w_Inv g o h) (k0 : ∀ (x : Int), ∀ h2 : m_H, w_Inv g o h2 → w_fr o [1, 3, 4, 9] h h2 → -2147483648 ≤ x → x ≤ 2147483647 → Q (some (.inl (w_i x))) h2) : wp (d + 2) 466944 [.inr (.inl (some 0))] [] h Q := by
  have F := fr_rf (o := o) (h := h) (W := [1, 3, 4, 9])
  have W := iv_wc iv
  refine w_run k_466944 (w_al (fun _ => rfl) ?_)
  obtain ⟨_, m1, rfl⟩ := iv_0 iv
  refine w_getf m1 rfl (fun _ => rfl) ?_
  refine w_nez2 (by omega) (by omega)  (fun c2 => ?_) (fun c2 => ?_)
  · refine w_run k_466954 (w_al (fun _ => rfl) (w_getf m1 rfl (fun _ => rfl) (w_al (fun _ => rfl) (w_getf m1 rfl (fun _ => rfl) ?_))))
    obtain ⟨_, m3, kp3, sp3, rl3, rfl, l3_kp, u3_kp, l3_sp, u3_sp, l3_rl, u3_rl, f3_0, f3_1⟩ := iv_1 iv
    refine w_this (fun _ => rfl) m3 (w_cv (fun _ => rfl) rfl (w_run k_319488 (w_al (fun _ => rfl) ?_)))
    obtain ⟨_, m4, kp4, sp4, rl4, rfl, l4_kp, u4_kp, l4_sp, u4_sp, l4_rl, u4_rl, f4_0, f4_1⟩ := iv_5 iv
    refine w_getf m4 rfl (fun _ => rfl) (w_icI (x := 0) rfl (w_al (fun _ => rfl) (w_getf m3 rfl (fun _ => rfl) (w_icI (x := 0) rfl (w_icI (x := 6) rfl ?_)))))
    obtain ⟨_, m5, A5, rfl, e5⟩ := iv_7 iv
    obtain ⟨_, m6, A6, rfl, e6⟩ := iv_3 iv
    refine w_cpyI m5 m6 (by omega) (by omega) (by omega) (by omega) (by omega) (by omega) (by omega) rfl (fun A10 h8 w11 s7 => ?_)
    have e12 : ∀ j : Int, 0 ≤ j → j < 6 → 0 ≤ a_g A10 j ∧ a_g A10 j < g_C g := fun j j0 j1 => by
      rw [w11 j j0 j1]
      split
      · exact e5 (0 + (j - 0)) (by omega) (by omega) (by omega)
      · exact e6 j j0 j1
    have iv9 := is_3 iv s7 ⟨_, rfl, e12⟩
    have F13 := fr_st F s7 (by rw [(ow_3 iv)]; rfl)
    refine w_al (fun _ => rfl) ?_
    have m14 := st_fr s7 m4 (by decide)
    refine w_getf m14 rfl (fun _ => rfl) (w_icI (x := 0) rfl (w_al (fun _ => rfl) ?_))
    have m15 := st_fr s7 m3 (by decide)
    refine w_getf m15 rfl (fun _ => rfl) (w_icI (x := 0) rfl (w_icI (x := 6) rfl ?_))
    obtain ⟨_, m16, A16, rfl⟩ := iv_8 iv9
    obtain ⟨_, m17, A17, rfl⟩ := iv_4 iv9
    refine w_cpyI m16 m17 (by omega) (by omega) (by omega) (by omega) (by omega) (by omega) (by omega) rfl (fun A21 h19 w22 s18 => ?_)
    have iv20 := is_4 iv9 s18 ⟨_, rfl⟩
    have F23 := fr_st F13 s18 (by rw [(ow_4 iv9)]; rfl)
    refine w_al (fun _ => rfl) (w_al (fun _ => rfl) ?_)
    have m24 := st_fr s18 m14 (by decide)
    refine w_getf m24 rfl (fun _ => rfl) ?_
    have m25 := st_fr s18 m15 (by decide)
    refine w_putf [.inl (w_i (g_H g)), .inl (w_i (g_C g)), .inl (w_i (g_N g)), .inr (.inl (some 2)), .inr (.inl (some 3)), .inr (.inl (some 4)), .inl (w_i kp4), .inl (w_i sp3), .inl (w_i rl3)] m25 rfl rfl rfl (fun _ => rfl) (fun h27 s26 => ?_)
    have iv28 := is_1 iv20 s26 ⟨_, _, _, rfl, by omega, by omega, by omega, by omega, by omega, by omega, by omega, by omega⟩
    have F29 := fr_st F23 s26 (by rw [(ow_1 iv20)]; rfl)
    refine w_al (fun _ => rfl) (w_al (fun _ => rfl) ?_)
    have m30 := st_fr s26 m24 (by decide)
    refine w_getf m30 rfl (fun _ => rfl) (w_putf [.inl (w_i (g_H g)), .inl (w_i (g_C g)), .inl (w_i (g_N g)), .inr (.inl (some 2)), .inr (.inl (some 3)), .inr (.inl (some 4)), .inl (w_i kp4), .inl (w_i sp4), .inl (w_i rl3)] s26.2.2.1 rfl rfl rfl (fun _ => rfl) (fun h32 s31 => ?_))
    have iv33 := is_1 iv28 s31 ⟨_, _, _, rfl, by omega, by omega, by omega, by omega, by omega, by omega, by omega, by omega⟩
    have F34 := fr_st F29 s31 (by rw [(ow_1 iv28)]; rfl)
    refine w_al (fun _ => rfl) (w_al (fun _ => rfl) ?_)
    have m35 := st_fr s31 m30 (by decide)
    refine w_getf m35 rfl (fun _ => rfl) (w_putf [.inl (w_i (g_H g)), .inl (w_i (g_C g)), .inl (w_i (g_N g)), .inr (.inl (some 2)), .inr (.inl (some 3)), .inr (.inl (some 4)), .inl (w_i kp4), .inl (w_i sp4), .inl (w_i rl4)] s31.2.2.1 rfl rfl rfl (fun _ => rfl) (fun h37 s36 => ?_))
    have iv38 := is_1 iv33 s36 ⟨_, _, _, rfl, by omega, by omega, by omega, by omega, by omega, by omega, by omega, by omega⟩
    have F39 := fr_st F34 s36 (by rw [(ow_1 iv33)]; rfl)
    refine w_rv ⟨rfl, ?_⟩
    refine w_al (fun _ => rfl) ?_
    have m40 := st_fr s7 m1 (by decide)
    have m41 := st_fr s18 m40 (by decide)
    have m42 := st_fr s26 m41 (by decide)
    have m43 := st_fr s31 m42 (by decide)
    have m44 := st_fr s36 m43 (by decide)
    refine w_getf m44 rfl (fun _ => rfl) ?_
    obtain ⟨_, m45, kpr45, sta45, fnd45, kco45, rfl, l45_kpr, u45_kpr, l45_sta, u45_sta, l45_fnd, u45_fnd, l45_kco, u45_kco, f45_0, f45_1, f45_2, f45_3, f45_4, f45_5, f45_6⟩ := iv_9 iv38
    refine w_this (fun _ => rfl) m45 ?_
    refine w_cv (fun _ => rfl) rfl (c_forget (d := (d + 1)) iv38     (fun h46 iv47 F48 => ⟨rfl, ?_⟩))
    have F49 := fr_ca F39 F48 (fun t ht => by simp at ht ⊢; omega)
    refine w_al (fun _ => rfl) ?_
    have m50 := fr_at F48 m44 iv38 (ow_0 iv38) rfl rfl
    refine w_getf m50 rfl (fun _ => rfl) (w_al (fun _ => rfl) (w_getf m50 rfl (fun _ => rfl) ?_))
    have m51 := fr_at F48 s36.2.2.1 iv38 (ow_1 iv38) rfl rfl
    refine w_getf m51 rfl (fun _ => rfl) (w_this (fun _ => rfl) m51 ?_)
    have m52 := st_fr s18 s7.2.2.1 (by decide)
    have m53 := st_fr s26 m52 (by decide)
    have m54 := st_fr s31 m53 (by decide)
    have m55 := st_fr s36 m54 (by decide)
    have m56 := fr_at F48 m55 iv38 (ow_3 iv38) rfl rfl
    refine w_ca (fun _ => rfl) rfl (c_numberOf (d := (d + 1)) iv47 (q := 3)  m56 (by omega)  (fun y57 b58 b59 b60 b61 => ⟨_, rfl, ?_⟩))
    refine w_ri ?_
    exact k0 y57 h46 iv47 F49 (by omega) (by omega)
  · refine w_icI (x := (-3)) wn_3 (w_ri ?_)
    exact k0 (-3) h iv F (by omega) (by omega)
theorem k_507908 : m_cg 507908 = g_124_4 := rfl
theorem k_507923 : m_cg 507923 = g_124_19 := rfl
theorem l_townsOf_4 {g : w_G} {o : w_O} {h : m_H} {d : Nat} {Q : Option m_V → m_H → Prop} (iv : w_Inv g o h) {ho : Int} {co : Int} (ho_lo : -2147483648 ≤ ho) (ho_hi : ho ≤ 2147483647) (co_lo : -2147483648 ≤ co) (co_hi : co ≤ 2147483647) (h0_ : 1 ≤ ho) (h1_ : ho ≤ 6) (c0_ : 2 ≤ co) (c1_ : co ≤ 5) (k0 : ∀ (x : Int), -2147483648 ≤ x → x ≤ 2147483647 → x = w_pw co ho → 1 ≤ x → x ≤ 15625 → Q (some (.inl (w_i x))) h) : ∀ (k : Nat) (num i : Int) (num_lo : -2147483648 ≤ num) (num_hi : num ≤ 2147483647) (i_lo : -2147483648 ≤ i) (i_hi : i ≤ 2147483647) (i0 : 0 ≤ i) (i1 : i ≤ ho) (n0 : 1 ≤ num) (n2 : num ≤ 15625) (n1 : num = w_pw co i), ho - i < (k : Int) → wp d 507908 [.inl (w_i ho), .inl (w_i co), .inl (w_i num), .inl (w_i i)] [] h Q := by
  intro k
  induction k with
  | zero => intro num i num_lo num_hi i_lo i_hi i0 i1 n0 n2 n1 hk; exact absurd hk (by omega)
  | succ k ih =>
    intro num i num_lo num_hi i_lo i_hi i0 i1 n0 n2 n1 hk
    have W := iv_wc iv
    refine w_run k_507908 (w_il (fun _ => rfl) (w_il (fun _ => rfl) ?_))
    refine w_ge2 (by omega) (by omega) (by omega) (by omega)  (fun c1 => ?_) (fun c1 => ?_)
    · refine w_run k_507923 (w_il (fun _ => rfl) (w_ri ?_))
      exact k0 num (by omega) (by omega) (by have e : i = ho := (by omega); rw [e] at n1; exact n1) (by omega) (by omega)
    · refine w_il (fun _ => rfl) (w_il (fun _ => rfl) ?_)
      have hP := pw_bd5 (c := co) (n := i) (by omega) (by omega) (by omega) (by omega)
      rw [← n1] at hP
      have hm := mul_rg (a := num) (b := co) (x := 3125) (y := 5) (by omega) (by omega) (by omega) (by omega)
      have hq := Int.mul_pos (show 0 < num by omega) (show 0 < co by omega)
      refine w_op (c := w_i (num * co)) (i_mul num co) (w_is (fun _ => rfl) (w_inc (c := w_i (i + 1)) (fun _ => rfl) (i_addL (y := 1) rfl i) (fun _ => rfl) (w_go ?_)))
      exact ih (num * co) (i + 1) (by omega) (by omega) (by omega) (by omega)  (by omega) (by omega) (by omega) (by omega) (by rw [pw_s (by omega), ← n1]) (by omega)
theorem k_507904 : m_cg 507904 = g_124_0 := rfl
theorem c_townsOf {g : w_G} {o : w_O} {h : m_H} {d : Nat} {Q : Option m_V → m_H → Prop} (iv : w_Inv g o h) {ho : Int} {co : Int} (ho_lo : -2147483648 ≤ ho) (ho_hi : ho ≤ 2147483647) (co_lo : -2147483648 ≤ co) (co_hi : co ≤ 2147483647) (h0_ : 1 ≤ ho) (h1_ : ho ≤ 6) (c0_ : 2 ≤ co) (c1_ : co ≤ 5) (k0 : ∀ (x : Int), -2147483648 ≤ x → x ≤ 2147483647 → x = w_pw co ho → 1 ≤ x → x ≤ 15625 → Q (some (.inl (w_i x))) h) : wp d 507904 [.inl (w_i ho), .inl (w_i co), .inr (.inr (.inl 0)), .inr (.inr (.inl 0))] [] h Q := by
  have W := iv_wc iv
  refine w_run k_507904 (w_icI (x := 1) rfl (w_is (fun _ => rfl) (w_icI (x := 0) rfl (w_is (fun _ => rfl) (w_nur k_507908 ?_)))))
  exact l_townsOf_4 iv    ho_lo ho_hi co_lo co_hi h0_ h1_ c0_ c1_    k0 (ho - 0 + 1 : Int).toNat 1 0 (by omega) (by omega) (by omega) (by omega)  (by omega) (by omega) (by omega) (by omega) (pw_00.symm) (by omega)
theorem k_364544 : m_cg 364544 = g_89_0 := rfl
theorem k_364576 : m_cg 364576 = g_89_32 := rfl
theorem k_364579 : m_cg 364579 = g_89_35 := rfl
theorem k_315392 : m_cg 315392 = g_77_0 := rfl
theorem k_315413 : m_cg 315413 = g_77_21 := rfl
theorem k_315448 : m_cg 315448 = g_77_56 := rfl
theorem k_315472 : m_cg 315472 = g_77_80 := rfl
theorem k_364611 : m_cg 364611 = g_89_67 := rfl
theorem k_364631 : m_cg 364631 = g_89_87 := rfl
theorem k_315450 : m_cg 315450 = g_77_58 := rfl
set_option maxHeartbeats 40000000 in
theorem c_build {g : w_G} {o : w_O} {h : m_H} {d : Nat} {Q : Option m_V → m_H → Prop} (iv : w_Inv g o h) {hh : Int} {c : Int} (hh_lo : -2147483648 ≤ hh) (hh_hi : hh ≤ 2147483647) (c_lo : -2147483648 ≤ c) (c_hi : c ≤ 2147483647) (k0 : ∀ (x : Int) (g2 : w_G) (o2 : w_O) (h2 : m_H), w_Inv g2 o2 h2 → w_ch [0, 1, 2, 5] [0] g g2 → w_oe o o2 → h2.1 ≤ h.1 + 3 → h2.2.1 ≤ h.2.1 + 200 → Q (some (.inl (w_i x))) h2) (k1 : ∀ (x : Int), ∀ h2 : m_H, w_Inv g o h2 → w_fr o [0] h h2 → -2147483648 ≤ x → x ≤ 2147483647 → Q (some (.inl (w_i x))) h2) : wp (d + 3) 364544 [.inr (.inl (some 0)), .inl (w_i hh), .inl (w_i c), .inr (.inr (.inl 0)), .inr (.inr (.inl 0))] [] h Q := by
  have F := fr_rf (o := o) (h := h) (W := [0])
  have W := iv_wc iv
  have Wo := iv_wo iv
  refine w_run k_364544 (w_il (fun _ => rfl) (w_icI (x := 1) rfl ?_))
  refine w_lt2 (by omega) (by omega) (by omega) (by omega)  (fun c1 => ?_) (fun c1 => ?_)
  · refine w_run k_364576 (w_icI (x := (-2)) wn_2 (w_ri ?_))
    exact k1 (-2) h iv F (by omega) (by omega)
  · refine w_il (fun _ => rfl) (w_icI (x := 6) rfl ?_)
    refine w_gt2 (by omega) (by omega) (by omega) (by omega)  (fun c2 => ?_) (fun c2 => ?_)
    · refine w_run k_364576 (w_icI (x := (-2)) wn_2 (w_ri ?_))
      exact k1 (-2) h iv F (by omega) (by omega)
    · refine w_il (fun _ => rfl) (w_icI (x := 2) rfl ?_)
      refine w_lt2 (by omega) (by omega) (by omega) (by omega)  (fun c3 => ?_) (fun c3 => ?_)
      · refine w_run k_364576 (w_icI (x := (-2)) wn_2 (w_ri ?_))
        exact k1 (-2) h iv F (by omega) (by omega)
      · refine w_il (fun _ => rfl) (w_icI (x := 5) rfl ?_)
        refine w_gt2 (by omega) (by omega) (by omega) (by omega)  (fun c4 => ?_) (fun c4 => ?_)
        · refine w_run k_364576 (w_icI (x := (-2)) wn_2 (w_ri ?_))
          exact k1 (-2) h iv F (by omega) (by omega)
        · refine w_il (fun _ => rfl) (w_il (fun _ => rfl) ?_)
          refine w_ca (fun _ => rfl) rfl (c_townsOf (d := (d + 2)) iv (ho := hh) (co := c) (by omega) (by omega) (by omega) (by omega) (by omega) (by omega) (by omega) (by omega)  (fun y5 b6 b7 b8 b9 b10 => ⟨_, rfl, ?_⟩))
          refine w_icI (x := 4096) rfl ?_
          refine w_le2 (by omega) (by omega) (by omega) (by omega)  (fun c11 => ?_) (fun c11 => ?_)
          · refine w_run k_364579 (w_al (fun _ => rfl) ?_)
            obtain ⟨_, m12, rfl⟩ := iv_0 iv
            refine w_getf m12 rfl (fun _ => rfl) ?_
            obtain ⟨_, m13, kp13, sp13, rl13, rfl, l13_kp, u13_kp, l13_sp, u13_sp, l13_rl, u13_rl, f13_0, f13_1⟩ := iv_1 iv
            refine w_getf m13 rfl (fun _ => rfl) (w_is (fun _ => rfl) ?_)
            obtain ⟨_, m14, A14, rfl, e14⟩ := iv_2 iv
            obtain ⟨_, m15, A15, rfl, e15⟩ := iv_3 iv
            obtain ⟨_, m16, A16, rfl⟩ := iv_4 iv
            obtain ⟨_, m17, kpr17, sta17, fnd17, kco17, rfl, l17_kpr, u17_kpr, l17_sta, u17_sta, l17_fnd, u17_fnd, l17_kco, u17_kco, f17_0, f17_1, f17_2, f17_3, f17_4, f17_5, f17_6⟩ := iv_9 iv
            obtain ⟨_, m18, siz18, atp18, tok18, flt18, wri18, rfl, l18_siz, u18_siz, l18_atp, u18_atp, l18_tok, u18_tok, l18_flt, u18_flt, l18_wri, u18_wri, f18_0, f18_1, f18_2, f18_3, f18_4, f18_5, f18_6⟩ := iv_18 iv
            obtain ⟨_, m19, l19, rfl, ll19, lp19⟩ := iv_24 iv
            have z20 := iv.2.2.2.2.1
            have z20w := iv.1
            rcases (show hh = 1 ∨ hh = 2 ∨ hh = 3 ∨ hh = 4 ∨ hh = 5 ∨ hh = 6 from by omega) with hk | hk | hk | hk | hk | hk
            · refine w_al (fun _ => rfl) (w_getf m12 rfl (fun _ => rfl) (w_il (fun _ => rfl) (w_il (fun _ => rfl) (w_this (fun _ => rfl) m13 (w_cv (fun _ => rfl) rfl (w_run k_315392 (w_al (fun _ => rfl) (w_il (fun _ => rfl) (w_putf [.inl (w_i hh), .inl (w_i (g_C g)), .inl (w_i (g_N g)), .inr (.inl (some 2)), .inr (.inl (some 3)), .inr (.inl (some 4)), .inl (w_i kp13), .inl (w_i sp13), .inl (w_i rl13)] m13 rfl rfl rfl (fun _ => rfl) (fun h22 s21 => ?_))))))))))
              have z24 := s21.1
              have z24y := s21.2.1
              have z24w := s21.2.2.2.2 z20w
              refine w_al (fun _ => rfl) (w_il (fun _ => rfl) (w_putf [.inl (w_i hh), .inl (w_i c), .inl (w_i (g_N g)), .inr (.inl (some 2)), .inr (.inl (some 3)), .inr (.inl (some 4)), .inl (w_i kp13), .inl (w_i sp13), .inl (w_i rl13)] s21.2.2.1 rfl rfl rfl (fun _ => rfl) (fun h26 s25 => ?_)))
              have z28 := s25.1
              have z28y := s25.2.1
              have z28w := s25.2.2.2.2 z24w
              refine w_al (fun _ => rfl) (w_il (fun _ => rfl) (w_il (fun _ => rfl) (w_ca (fun _ => rfl) rfl (w_run k_507904 (w_icI (x := 1) rfl (w_is (fun _ => rfl) (w_icI (x := 0) rfl (w_is (fun _ => rfl) (w_il (fun _ => rfl) (w_il (fun _ => rfl) (w_gef (by omega) (by omega) (by omega) (by omega) (by omega)  (w_il (fun _ => rfl) (w_il (fun _ => rfl) (w_op (c := w_i (1 * c)) (i_mul 1 c) (w_is (fun _ => rfl) (w_inc (c := w_i 1) (fun _ => rfl) (by decide +kernel) (fun _ => rfl) (w_go (w_run k_507908 (w_il (fun _ => rfl) (w_il (fun _ => rfl) (w_get (by omega) (by omega) (by omega) (by omega) (by omega)  (w_run k_507923 (w_il (fun _ => rfl) (w_ri ⟨_, rfl, ?_⟩))))))))))))))))))))))))
              refine w_putf [.inl (w_i hh), .inl (w_i c), .inl (w_i (1 * c)), .inr (.inl (some 2)), .inr (.inl (some 3)), .inr (.inl (some 4)), .inl (w_i kp13), .inl (w_i sp13), .inl (w_i rl13)] s25.2.2.1 rfl rfl rfl (fun _ => rfl) (fun h30 s29 => ?_)
              have z32 := s29.1
              have z32y := s29.2.1
              have z32w := s29.2.2.2.2 z28w
              refine w_icI (x := 0) rfl (w_is (fun _ => rfl) (w_il (fun _ => rfl) (w_icI (x := 6) rfl (w_gef (by omega) (by omega) (by omega) (by omega) (by omega)  (w_al (fun _ => rfl) (w_getf s29.2.2.1 rfl (fun _ => rfl) (w_il (fun _ => rfl) (w_icI (x := 0) rfl ?_))))))))
              have m33 := st_fr s21 m14 (by decide)
              have m34 := st_fr s25 m33 (by decide)
              have m35 := st_fr s29 m34 (by decide)
              refine w_astI m35 (by omega) (by omega) (by omega) (by omega) (by omega) (fun A38 h37 w39 s36 => ?_)
              have q40 : a_g A38 0 = 0 := (w39 0 (by omega) (by omega)).trans (if_pos rfl)
              have z41 := s36.1
              have z41y := s36.2.1
              have z41w := s36.2.2.2.2 z32w
              refine w_al (fun _ => rfl) ?_
              have m42 := st_fr s36 s29.2.2.1 (by decide)
              refine w_getf m42 rfl (fun _ => rfl) (w_il (fun _ => rfl) (w_il (fun _ => rfl) (w_icI (x := 2) rfl (w_opz (c := w_i 0) (by decide +kernel) (by decide +kernel) ?_))))
              have m43 := st_fr s21 m15 (by decide)
              have m44 := st_fr s25 m43 (by decide)
              have m45 := st_fr s29 m44 (by decide)
              have m46 := st_fr s36 m45 (by decide)
              refine w_astI m46 (by omega) (by omega) (by omega) (by omega) (by omega) (fun A49 h48 w50 s47 => ?_)
              have q51 : a_g A49 0 = 0 := (w50 0 (by omega) (by omega)).trans (if_pos rfl)
              have z52 := s47.1
              have z52y := s47.2.1
              have z52w := s47.2.2.2.2 z41w
              refine w_al (fun _ => rfl) ?_
              have m53 := st_fr s47 m42 (by decide)
              refine w_getf m53 rfl (fun _ => rfl) (w_il (fun _ => rfl) (w_icI (x := (-1)) wn_1 ?_))
              have m54 := st_fr s21 m16 (by decide)
              have m55 := st_fr s25 m54 (by decide)
              have m56 := st_fr s29 m55 (by decide)
              have m57 := st_fr s36 m56 (by decide)
              have m58 := st_fr s47 m57 (by decide)
              refine w_astI m58 (by omega) (by omega) (by omega) (by omega) (by omega) (fun A61 h60 w62 s59 => ?_)
              have q63 : a_g A61 0 = (-1) := (w62 0 (by omega) (by omega)).trans (if_pos rfl)
              have z64 := s59.1
              have z64y := s59.2.1
              have z64w := s59.2.2.2.2 z52w
              refine w_inc (c := w_i 1) (fun _ => rfl) (by decide +kernel) (fun _ => rfl) (w_go (w_run k_315413 (w_il (fun _ => rfl) (w_icI (x := 6) rfl (w_gef (by omega) (by omega) (by omega) (by omega) (by omega)  (w_al (fun _ => rfl) ?_))))))
              have m65 := st_fr s59 m53 (by decide)
              refine w_getf m65 rfl (fun _ => rfl) (w_il (fun _ => rfl) (w_icI (x := 0) rfl ?_))
              have m66 := st_fr s47 s36.2.2.1 (by decide)
              have m67 := st_fr s59 m66 (by decide)
              refine w_astI m67 (by omega) (by omega) (by omega) (by omega) (by omega) (fun A70 h69 w71 s68 => ?_)
              have q72 : a_g A70 0 = 0 := ((w71 0 (by omega) (by omega)).trans (if_neg (by omega))).trans q40
              have q73 : a_g A70 1 = 0 := (w71 1 (by omega) (by omega)).trans (if_pos rfl)
              have z74 := s68.1
              have z74y := s68.2.1
              have z74w := s68.2.2.2.2 z64w
              refine w_al (fun _ => rfl) ?_
              have m75 := st_fr s68 m65 (by decide)
              refine w_getf m75 rfl (fun _ => rfl) (w_il (fun _ => rfl) (w_il (fun _ => rfl) (w_icI (x := 2) rfl (w_opz (c := w_i 1) (by decide +kernel) (by decide +kernel) ?_))))
              have m76 := st_fr s59 s47.2.2.1 (by decide)
              have m77 := st_fr s68 m76 (by decide)
              refine w_astI m77 (by omega) (by omega) (by omega) (by omega) (by omega) (fun A80 h79 w81 s78 => ?_)
              have q82 : a_g A80 0 = 0 := ((w81 0 (by omega) (by omega)).trans (if_neg (by omega))).trans q51
              have q83 : a_g A80 1 = 1 := (w81 1 (by omega) (by omega)).trans (if_pos rfl)
              have z84 := s78.1
              have z84y := s78.2.1
              have z84w := s78.2.2.2.2 z74w
              refine w_al (fun _ => rfl) ?_
              have m85 := st_fr s78 m75 (by decide)
              refine w_getf m85 rfl (fun _ => rfl) (w_il (fun _ => rfl) (w_icI (x := (-1)) wn_1 ?_))
              have m86 := st_fr s68 s59.2.2.1 (by decide)
              have m87 := st_fr s78 m86 (by decide)
              refine w_astI m87 (by omega) (by omega) (by omega) (by omega) (by omega) (fun A90 h89 w91 s88 => ?_)
              have q92 : a_g A90 0 = (-1) := ((w91 0 (by omega) (by omega)).trans (if_neg (by omega))).trans q63
              have q93 : a_g A90 1 = (-1) := (w91 1 (by omega) (by omega)).trans (if_pos rfl)
              have z94 := s88.1
              have z94y := s88.2.1
              have z94w := s88.2.2.2.2 z84w
              refine w_inc (c := w_i 2) (fun _ => rfl) (by decide +kernel) (fun _ => rfl) (w_go (w_run k_315413 (w_il (fun _ => rfl) (w_icI (x := 6) rfl (w_gef (by omega) (by omega) (by omega) (by omega) (by omega)  (w_al (fun _ => rfl) ?_))))))
              have m95 := st_fr s88 m85 (by decide)
              refine w_getf m95 rfl (fun _ => rfl) (w_il (fun _ => rfl) (w_icI (x := 0) rfl ?_))
              have m96 := st_fr s78 s68.2.2.1 (by decide)
              have m97 := st_fr s88 m96 (by decide)
              refine w_astI m97 (by omega) (by omega) (by omega) (by omega) (by omega) (fun A100 h99 w101 s98 => ?_)
              have q102 : a_g A100 0 = 0 := ((w101 0 (by omega) (by omega)).trans (if_neg (by omega))).trans q72
              have q103 : a_g A100 1 = 0 := ((w101 1 (by omega) (by omega)).trans (if_neg (by omega))).trans q73
              have q104 : a_g A100 2 = 0 := (w101 2 (by omega) (by omega)).trans (if_pos rfl)
              have z105 := s98.1
              have z105y := s98.2.1
              have z105w := s98.2.2.2.2 z94w
              refine w_al (fun _ => rfl) ?_
              have m106 := st_fr s98 m95 (by decide)
              refine w_getf m106 rfl (fun _ => rfl) (w_il (fun _ => rfl) (w_il (fun _ => rfl) (w_icI (x := 2) rfl (w_opz (c := w_i 0) (by decide +kernel) (by decide +kernel) ?_))))
              have m107 := st_fr s88 s78.2.2.1 (by decide)
              have m108 := st_fr s98 m107 (by decide)
              refine w_astI m108 (by omega) (by omega) (by omega) (by omega) (by omega) (fun A111 h110 w112 s109 => ?_)
              have q113 : a_g A111 0 = 0 := ((w112 0 (by omega) (by omega)).trans (if_neg (by omega))).trans q82
              have q114 : a_g A111 1 = 1 := ((w112 1 (by omega) (by omega)).trans (if_neg (by omega))).trans q83
              have q115 : a_g A111 2 = 0 := (w112 2 (by omega) (by omega)).trans (if_pos rfl)
              have z116 := s109.1
              have z116y := s109.2.1
              have z116w := s109.2.2.2.2 z105w
              refine w_al (fun _ => rfl) ?_
              have m117 := st_fr s109 m106 (by decide)
              refine w_getf m117 rfl (fun _ => rfl) (w_il (fun _ => rfl) (w_icI (x := (-1)) wn_1 ?_))
              have m118 := st_fr s98 s88.2.2.1 (by decide)
              have m119 := st_fr s109 m118 (by decide)
              refine w_astI m119 (by omega) (by omega) (by omega) (by omega) (by omega) (fun A122 h121 w123 s120 => ?_)
              have q124 : a_g A122 0 = (-1) := ((w123 0 (by omega) (by omega)).trans (if_neg (by omega))).trans q92
              have q125 : a_g A122 1 = (-1) := ((w123 1 (by omega) (by omega)).trans (if_neg (by omega))).trans q93
              have q126 : a_g A122 2 = (-1) := (w123 2 (by omega) (by omega)).trans (if_pos rfl)
              have z127 := s120.1
              have z127y := s120.2.1
              have z127w := s120.2.2.2.2 z116w
              refine w_inc (c := w_i 3) (fun _ => rfl) (by decide +kernel) (fun _ => rfl) (w_go (w_run k_315413 (w_il (fun _ => rfl) (w_icI (x := 6) rfl (w_gef (by omega) (by omega) (by omega) (by omega) (by omega)  (w_al (fun _ => rfl) ?_))))))
              have m128 := st_fr s120 m117 (by decide)
              refine w_getf m128 rfl (fun _ => rfl) (w_il (fun _ => rfl) (w_icI (x := 0) rfl ?_))
              have m129 := st_fr s109 s98.2.2.1 (by decide)
              have m130 := st_fr s120 m129 (by decide)
              refine w_astI m130 (by omega) (by omega) (by omega) (by omega) (by omega) (fun A133 h132 w134 s131 => ?_)
              have q135 : a_g A133 0 = 0 := ((w134 0 (by omega) (by omega)).trans (if_neg (by omega))).trans q102
              have q136 : a_g A133 1 = 0 := ((w134 1 (by omega) (by omega)).trans (if_neg (by omega))).trans q103
              have q137 : a_g A133 2 = 0 := ((w134 2 (by omega) (by omega)).trans (if_neg (by omega))).trans q104
              have q138 : a_g A133 3 = 0 := (w134 3 (by omega) (by omega)).trans (if_pos rfl)
              have z139 := s131.1
              have z139y := s131.2.1
              have z139w := s131.2.2.2.2 z127w
              refine w_al (fun _ => rfl) ?_
              have m140 := st_fr s131 m128 (by decide)
              refine w_getf m140 rfl (fun _ => rfl) (w_il (fun _ => rfl) (w_il (fun _ => rfl) (w_icI (x := 2) rfl (w_opz (c := w_i 1) (by decide +kernel) (by decide +kernel) ?_))))
              have m141 := st_fr s120 s109.2.2.1 (by decide)
              have m142 := st_fr s131 m141 (by decide)
              refine w_astI m142 (by omega) (by omega) (by omega) (by omega) (by omega) (fun A145 h144 w146 s143 => ?_)
              have q147 : a_g A145 0 = 0 := ((w146 0 (by omega) (by omega)).trans (if_neg (by omega))).trans q113
              have q148 : a_g A145 1 = 1 := ((w146 1 (by omega) (by omega)).trans (if_neg (by omega))).trans q114
              have q149 : a_g A145 2 = 0 := ((w146 2 (by omega) (by omega)).trans (if_neg (by omega))).trans q115
              have q150 : a_g A145 3 = 1 := (w146 3 (by omega) (by omega)).trans (if_pos rfl)
              have z151 := s143.1
              have z151y := s143.2.1
              have z151w := s143.2.2.2.2 z139w
              refine w_al (fun _ => rfl) ?_
              have m152 := st_fr s143 m140 (by decide)
              refine w_getf m152 rfl (fun _ => rfl) (w_il (fun _ => rfl) (w_icI (x := (-1)) wn_1 ?_))
              have m153 := st_fr s131 s120.2.2.1 (by decide)
              have m154 := st_fr s143 m153 (by decide)
              refine w_astI m154 (by omega) (by omega) (by omega) (by omega) (by omega) (fun A157 h156 w158 s155 => ?_)
              have q159 : a_g A157 0 = (-1) := ((w158 0 (by omega) (by omega)).trans (if_neg (by omega))).trans q124
              have q160 : a_g A157 1 = (-1) := ((w158 1 (by omega) (by omega)).trans (if_neg (by omega))).trans q125
              have q161 : a_g A157 2 = (-1) := ((w158 2 (by omega) (by omega)).trans (if_neg (by omega))).trans q126
              have q162 : a_g A157 3 = (-1) := (w158 3 (by omega) (by omega)).trans (if_pos rfl)
              have z163 := s155.1
              have z163y := s155.2.1
              have z163w := s155.2.2.2.2 z151w
              refine w_inc (c := w_i 4) (fun _ => rfl) (by decide +kernel) (fun _ => rfl) (w_go (w_run k_315413 (w_il (fun _ => rfl) (w_icI (x := 6) rfl (w_gef (by omega) (by omega) (by omega) (by omega) (by omega)  (w_al (fun _ => rfl) ?_))))))
              have m164 := st_fr s155 m152 (by decide)
              refine w_getf m164 rfl (fun _ => rfl) (w_il (fun _ => rfl) (w_icI (x := 0) rfl ?_))
              have m165 := st_fr s143 s131.2.2.1 (by decide)
              have m166 := st_fr s155 m165 (by decide)
              refine w_astI m166 (by omega) (by omega) (by omega) (by omega) (by omega) (fun A169 h168 w170 s167 => ?_)
              have q171 : a_g A169 0 = 0 := ((w170 0 (by omega) (by omega)).trans (if_neg (by omega))).trans q135
              have q172 : a_g A169 1 = 0 := ((w170 1 (by omega) (by omega)).trans (if_neg (by omega))).trans q136
              have q173 : a_g A169 2 = 0 := ((w170 2 (by omega) (by omega)).trans (if_neg (by omega))).trans q137
              have q174 : a_g A169 3 = 0 := ((w170 3 (by omega) (by omega)).trans (if_neg (by omega))).trans q138
              have q175 : a_g A169 4 = 0 := (w170 4 (by omega) (by omega)).trans (if_pos rfl)
              have z176 := s167.1
              have z176y := s167.2.1
              have z176w := s167.2.2.2.2 z163w
              refine w_al (fun _ => rfl) ?_
              have m177 := st_fr s167 m164 (by decide)
              refine w_getf m177 rfl (fun _ => rfl) (w_il (fun _ => rfl) (w_il (fun _ => rfl) (w_icI (x := 2) rfl (w_opz (c := w_i 0) (by decide +kernel) (by decide +kernel) ?_))))
              have m178 := st_fr s155 s143.2.2.1 (by decide)
              have m179 := st_fr s167 m178 (by decide)
              refine w_astI m179 (by omega) (by omega) (by omega) (by omega) (by omega) (fun A182 h181 w183 s180 => ?_)
              have q184 : a_g A182 0 = 0 := ((w183 0 (by omega) (by omega)).trans (if_neg (by omega))).trans q147
              have q185 : a_g A182 1 = 1 := ((w183 1 (by omega) (by omega)).trans (if_neg (by omega))).trans q148
              have q186 : a_g A182 2 = 0 := ((w183 2 (by omega) (by omega)).trans (if_neg (by omega))).trans q149
              have q187 : a_g A182 3 = 1 := ((w183 3 (by omega) (by omega)).trans (if_neg (by omega))).trans q150
              have q188 : a_g A182 4 = 0 := (w183 4 (by omega) (by omega)).trans (if_pos rfl)
              have z189 := s180.1
              have z189y := s180.2.1
              have z189w := s180.2.2.2.2 z176w
              refine w_al (fun _ => rfl) ?_
              have m190 := st_fr s180 m177 (by decide)
              refine w_getf m190 rfl (fun _ => rfl) (w_il (fun _ => rfl) (w_icI (x := (-1)) wn_1 ?_))
              have m191 := st_fr s167 s155.2.2.1 (by decide)
              have m192 := st_fr s180 m191 (by decide)
              refine w_astI m192 (by omega) (by omega) (by omega) (by omega) (by omega) (fun A195 h194 w196 s193 => ?_)
              have q197 : a_g A195 0 = (-1) := ((w196 0 (by omega) (by omega)).trans (if_neg (by omega))).trans q159
              have q198 : a_g A195 1 = (-1) := ((w196 1 (by omega) (by omega)).trans (if_neg (by omega))).trans q160
              have q199 : a_g A195 2 = (-1) := ((w196 2 (by omega) (by omega)).trans (if_neg (by omega))).trans q161
              have q200 : a_g A195 3 = (-1) := ((w196 3 (by omega) (by omega)).trans (if_neg (by omega))).trans q162
              have q201 : a_g A195 4 = (-1) := (w196 4 (by omega) (by omega)).trans (if_pos rfl)
              have z202 := s193.1
              have z202y := s193.2.1
              have z202w := s193.2.2.2.2 z189w
              refine w_inc (c := w_i 5) (fun _ => rfl) (by decide +kernel) (fun _ => rfl) (w_go (w_run k_315413 (w_il (fun _ => rfl) (w_icI (x := 6) rfl (w_gef (by omega) (by omega) (by omega) (by omega) (by omega)  (w_al (fun _ => rfl) ?_))))))
              have m203 := st_fr s193 m190 (by decide)
              refine w_getf m203 rfl (fun _ => rfl) (w_il (fun _ => rfl) (w_icI (x := 0) rfl ?_))
              have m204 := st_fr s180 s167.2.2.1 (by decide)
              have m205 := st_fr s193 m204 (by decide)
              refine w_astI m205 (by omega) (by omega) (by omega) (by omega) (by omega) (fun A208 h207 w209 s206 => ?_)
              have q210 : a_g A208 0 = 0 := ((w209 0 (by omega) (by omega)).trans (if_neg (by omega))).trans q171
              have q211 : a_g A208 1 = 0 := ((w209 1 (by omega) (by omega)).trans (if_neg (by omega))).trans q172
              have q212 : a_g A208 2 = 0 := ((w209 2 (by omega) (by omega)).trans (if_neg (by omega))).trans q173
              have q213 : a_g A208 3 = 0 := ((w209 3 (by omega) (by omega)).trans (if_neg (by omega))).trans q174
              have q214 : a_g A208 4 = 0 := ((w209 4 (by omega) (by omega)).trans (if_neg (by omega))).trans q175
              have q215 : a_g A208 5 = 0 := (w209 5 (by omega) (by omega)).trans (if_pos rfl)
              have z216 := s206.1
              have z216y := s206.2.1
              have z216w := s206.2.2.2.2 z202w
              refine w_al (fun _ => rfl) ?_
              have m217 := st_fr s206 m203 (by decide)
              refine w_getf m217 rfl (fun _ => rfl) (w_il (fun _ => rfl) (w_il (fun _ => rfl) (w_icI (x := 2) rfl (w_opz (c := w_i 1) (by decide +kernel) (by decide +kernel) ?_))))
              have m218 := st_fr s193 s180.2.2.1 (by decide)
              have m219 := st_fr s206 m218 (by decide)
              refine w_astI m219 (by omega) (by omega) (by omega) (by omega) (by omega) (fun A222 h221 w223 s220 => ?_)
              have q224 : a_g A222 0 = 0 := ((w223 0 (by omega) (by omega)).trans (if_neg (by omega))).trans q184
              have q225 : a_g A222 1 = 1 := ((w223 1 (by omega) (by omega)).trans (if_neg (by omega))).trans q185
              have q226 : a_g A222 2 = 0 := ((w223 2 (by omega) (by omega)).trans (if_neg (by omega))).trans q186
              have q227 : a_g A222 3 = 1 := ((w223 3 (by omega) (by omega)).trans (if_neg (by omega))).trans q187
              have q228 : a_g A222 4 = 0 := ((w223 4 (by omega) (by omega)).trans (if_neg (by omega))).trans q188
              have q229 : a_g A222 5 = 1 := (w223 5 (by omega) (by omega)).trans (if_pos rfl)
              have z230 := s220.1
              have z230y := s220.2.1
              have z230w := s220.2.2.2.2 z216w
              refine w_al (fun _ => rfl) ?_
              have m231 := st_fr s220 m217 (by decide)
              refine w_getf m231 rfl (fun _ => rfl) (w_il (fun _ => rfl) (w_icI (x := (-1)) wn_1 ?_))
              have m232 := st_fr s206 s193.2.2.1 (by decide)
              have m233 := st_fr s220 m232 (by decide)
              refine w_astI m233 (by omega) (by omega) (by omega) (by omega) (by omega) (fun A236 h235 w237 s234 => ?_)
              have q238 : a_g A236 0 = (-1) := ((w237 0 (by omega) (by omega)).trans (if_neg (by omega))).trans q197
              have q239 : a_g A236 1 = (-1) := ((w237 1 (by omega) (by omega)).trans (if_neg (by omega))).trans q198
              have q240 : a_g A236 2 = (-1) := ((w237 2 (by omega) (by omega)).trans (if_neg (by omega))).trans q199
              have q241 : a_g A236 3 = (-1) := ((w237 3 (by omega) (by omega)).trans (if_neg (by omega))).trans q200
              have q242 : a_g A236 4 = (-1) := ((w237 4 (by omega) (by omega)).trans (if_neg (by omega))).trans q201
              have q243 : a_g A236 5 = (-1) := (w237 5 (by omega) (by omega)).trans (if_pos rfl)
              have z244 := s234.1
              have z244y := s234.2.1
              have z244w := s234.2.2.2.2 z230w
              refine w_inc (c := w_i 6) (fun _ => rfl) (by decide +kernel) (fun _ => rfl) (w_go (w_run k_315413 (w_il (fun _ => rfl) (w_icI (x := 6) rfl (w_get (by omega) (by omega) (by omega) (by omega) (by omega)  (w_run k_315448 (w_icI (x := 0) rfl (w_is (fun _ => rfl) (w_il (fun _ => rfl) (w_icI (x := 1) rfl (w_op (c := w_i 1) (by decide +kernel) (w_il (fun _ => rfl) (w_get (by omega) (by omega) (by omega) (by omega) (by omega)  (w_run k_315472 (w_al (fun _ => rfl) (w_icI (x := 0) rfl ?_))))))))))))))))
              have m245 := st_fr s234 m231 (by decide)
              refine w_putf [.inl (w_i hh), .inl (w_i c), .inl (w_i (1 * c)), .inr (.inl (some 2)), .inr (.inl (some 3)), .inr (.inl (some 4)), .inl (w_i 0), .inl (w_i sp13), .inl (w_i rl13)] m245 rfl rfl rfl (fun _ => rfl) (fun h247 s246 => ?_)
              have z249 := s246.1
              have z249y := s246.2.1
              have z249w := s246.2.2.2.2 z244w
              refine w_al (fun _ => rfl) (w_icI (x := 0) rfl (w_putf [.inl (w_i hh), .inl (w_i c), .inl (w_i (1 * c)), .inr (.inl (some 2)), .inr (.inl (some 3)), .inr (.inl (some 4)), .inl (w_i 0), .inl (w_i 0), .inl (w_i rl13)] s246.2.2.1 rfl rfl rfl (fun _ => rfl) (fun h251 s250 => ?_)))
              have z253 := s250.1
              have z253y := s250.2.1
              have z253w := s250.2.2.2.2 z249w
              refine w_rv ⟨rfl, ?_⟩
              refine w_al (fun _ => rfl) (w_icI (x := 0) rfl ?_)
              have m254 := st_fr s21 m12 (by decide)
              have m255 := st_fr s25 m254 (by decide)
              have m256 := st_fr s29 m255 (by decide)
              have m257 := st_fr s36 m256 (by decide)
              have m258 := st_fr s47 m257 (by decide)
              have m259 := st_fr s59 m258 (by decide)
              have m260 := st_fr s68 m259 (by decide)
              have m261 := st_fr s78 m260 (by decide)
              have m262 := st_fr s88 m261 (by decide)
              have m263 := st_fr s98 m262 (by decide)
              have m264 := st_fr s109 m263 (by decide)
              have m265 := st_fr s120 m264 (by decide)
              have m266 := st_fr s131 m265 (by decide)
              have m267 := st_fr s143 m266 (by decide)
              have m268 := st_fr s155 m267 (by decide)
              have m269 := st_fr s167 m268 (by decide)
              have m270 := st_fr s180 m269 (by decide)
              have m271 := st_fr s193 m270 (by decide)
              have m272 := st_fr s206 m271 (by decide)
              have m273 := st_fr s220 m272 (by decide)
              have m274 := st_fr s234 m273 (by decide)
              have m275 := st_fr s246 m274 (by decide)
              have m276 := st_fr s250 m275 (by decide)
              refine w_putf [.inr (.inl (some 1)), .inr (.inl (some 5)), .inl (w_i 0), .inr (.inl (some 9)), .inr (.inl (some 17)), .inl (w_i (g_np g)), .inr (.inl (some 18)), .inr (.inl (some 23)), .inl (w_i (g_nt g)), .inr (.inl (some 24)), .inr (.inl (some 25)), .inr (.inl (some 26)), .inr (.inl (some 27))] m276 rfl rfl rfl (fun _ => rfl) (fun h278 s277 => ?_)
              have z280 := s277.1
              have z280y := s277.2.1
              have z280w := s277.2.2.2.2 z253w
              refine w_al (fun _ => rfl) (w_getf s277.2.2.1 rfl (fun _ => rfl) ?_)
              have m281 := st_fr s21 m18 (by decide)
              have m282 := st_fr s25 m281 (by decide)
              have m283 := st_fr s29 m282 (by decide)
              have m284 := st_fr s36 m283 (by decide)
              have m285 := st_fr s47 m284 (by decide)
              have m286 := st_fr s59 m285 (by decide)
              have m287 := st_fr s68 m286 (by decide)
              have m288 := st_fr s78 m287 (by decide)
              have m289 := st_fr s88 m288 (by decide)
              have m290 := st_fr s98 m289 (by decide)
              have m291 := st_fr s109 m290 (by decide)
              have m292 := st_fr s120 m291 (by decide)
              have m293 := st_fr s131 m292 (by decide)
              have m294 := st_fr s143 m293 (by decide)
              have m295 := st_fr s155 m294 (by decide)
              have m296 := st_fr s167 m295 (by decide)
              have m297 := st_fr s180 m296 (by decide)
              have m298 := st_fr s193 m297 (by decide)
              have m299 := st_fr s206 m298 (by decide)
              have m300 := st_fr s220 m299 (by decide)
              have m301 := st_fr s234 m300 (by decide)
              have m302 := st_fr s246 m301 (by decide)
              have m303 := st_fr s250 m302 (by decide)
              have m304 := st_fr s277 m303 (by decide)
              refine w_this (fun _ => rfl) m304 (w_cv (fun _ => rfl) rfl (w_run k_57344 (w_al (fun _ => rfl) (w_icI (x := 0) rfl (w_putf [.inr (.inl (some 19)), .inl (w_i 0), .inr (.inl (some 20)), .inr (.inl (some 21)), .inl (w_i atp18), .inl (w_i tok18), .inl (w_i flt18), .inr (.inl (some 22)), .inl (w_i wri18)] m304 rfl rfl rfl (fun _ => rfl) (fun h306 s305 => ?_))))))
              have z308 := s305.1
              have z308y := s305.2.1
              have z308w := s305.2.2.2.2 z280w
              refine w_rv ⟨rfl, ?_⟩
              refine w_icI (x := 0) rfl (w_is (fun _ => rfl) (w_il (fun _ => rfl) (w_icI (x := 4) rfl (w_gef (by omega) (by omega) (by omega) (by omega) (by omega)  (w_al (fun _ => rfl) ?_)))))
              have m309 := st_fr s305 s277.2.2.1 (by decide)
              refine w_getf m309 rfl (fun _ => rfl) (w_il (fun _ => rfl) (w_nul ?_))
              have m310 := st_fr s21 m19 (by decide)
              have m311 := st_fr s25 m310 (by decide)
              have m312 := st_fr s29 m311 (by decide)
              have m313 := st_fr s36 m312 (by decide)
              have m314 := st_fr s47 m313 (by decide)
              have m315 := st_fr s59 m314 (by decide)
              have m316 := st_fr s68 m315 (by decide)
              have m317 := st_fr s78 m316 (by decide)
              have m318 := st_fr s88 m317 (by decide)
              have m319 := st_fr s98 m318 (by decide)
              have m320 := st_fr s109 m319 (by decide)
              have m321 := st_fr s120 m320 (by decide)
              have m322 := st_fr s131 m321 (by decide)
              have m323 := st_fr s143 m322 (by decide)
              have m324 := st_fr s155 m323 (by decide)
              have m325 := st_fr s167 m324 (by decide)
              have m326 := st_fr s180 m325 (by decide)
              have m327 := st_fr s193 m326 (by decide)
              have m328 := st_fr s206 m327 (by decide)
              have m329 := st_fr s220 m328 (by decide)
              have m330 := st_fr s234 m329 (by decide)
              have m331 := st_fr s246 m330 (by decide)
              have m332 := st_fr s250 m331 (by decide)
              have m333 := st_fr s277 m332 (by decide)
              have m334 := st_fr s305 m333 (by decide)
              refine w_aastI m334 (by omega) (by omega) (by decide) isC_no (fun h336 s335 => ?_)
              have z337 := set_no (j := (0).toNat) lp19 ll19 (Or.inl rfl)
              have z338 := s335.1
              have z338y := s335.2.1
              have z338w := s335.2.2.2.2 z308w
              refine w_inc (c := w_i 1) (fun _ => rfl) (by decide +kernel) (fun _ => rfl) (w_go (w_run k_364611 (w_il (fun _ => rfl) (w_icI (x := 4) rfl (w_gef (by omega) (by omega) (by omega) (by omega) (by omega)  (w_al (fun _ => rfl) ?_))))))
              have m339 := st_fr s335 m309 (by decide)
              refine w_getf m339 rfl (fun _ => rfl) (w_il (fun _ => rfl) (w_nul (w_aastI s335.2.2.1 (by omega) (by omega) (by decide) isC_no (fun h341 s340 => ?_))))
              have z342 := set_no (j := (1).toNat) z337.2 z337.1 (Or.inl rfl)
              have z343 := s340.1
              have z343y := s340.2.1
              have z343w := s340.2.2.2.2 z338w
              refine w_inc (c := w_i 2) (fun _ => rfl) (by decide +kernel) (fun _ => rfl) (w_go (w_run k_364611 (w_il (fun _ => rfl) (w_icI (x := 4) rfl (w_gef (by omega) (by omega) (by omega) (by omega) (by omega)  (w_al (fun _ => rfl) ?_))))))
              have m344 := st_fr s340 m339 (by decide)
              refine w_getf m344 rfl (fun _ => rfl) (w_il (fun _ => rfl) (w_nul (w_aastI s340.2.2.1 (by omega) (by omega) (by decide) isC_no (fun h346 s345 => ?_))))
              have z347 := set_no (j := (2).toNat) z342.2 z342.1 (Or.inl rfl)
              have z348 := s345.1
              have z348y := s345.2.1
              have z348w := s345.2.2.2.2 z343w
              refine w_inc (c := w_i 3) (fun _ => rfl) (by decide +kernel) (fun _ => rfl) (w_go (w_run k_364611 (w_il (fun _ => rfl) (w_icI (x := 4) rfl (w_gef (by omega) (by omega) (by omega) (by omega) (by omega)  (w_al (fun _ => rfl) ?_))))))
              have m349 := st_fr s345 m344 (by decide)
              refine w_getf m349 rfl (fun _ => rfl) (w_il (fun _ => rfl) (w_nul (w_aastI s345.2.2.1 (by omega) (by omega) (by decide) isC_no (fun h351 s350 => ?_))))
              have z352 := set_no (j := (3).toNat) z347.2 z347.1 (Or.inl rfl)
              have z353 := s350.1
              have z353y := s350.2.1
              have z353w := s350.2.2.2.2 z348w
              refine w_inc (c := w_i 4) (fun _ => rfl) (by decide +kernel) (fun _ => rfl) (w_go (w_run k_364611 (w_il (fun _ => rfl) (w_icI (x := 4) rfl (w_get (by omega) (by omega) (by omega) (by omega) (by omega)  (w_run k_364631 (w_al (fun _ => rfl) ?_)))))))
              have m354 := st_fr s350 m349 (by decide)
              refine w_getf m354 rfl (fun _ => rfl) ?_
              have m355 := st_fr s21 m17 (by decide)
              have m356 := st_fr s25 m355 (by decide)
              have m357 := st_fr s29 m356 (by decide)
              have m358 := st_fr s36 m357 (by decide)
              have m359 := st_fr s47 m358 (by decide)
              have m360 := st_fr s59 m359 (by decide)
              have m361 := st_fr s68 m360 (by decide)
              have m362 := st_fr s78 m361 (by decide)
              have m363 := st_fr s88 m362 (by decide)
              have m364 := st_fr s98 m363 (by decide)
              have m365 := st_fr s109 m364 (by decide)
              have m366 := st_fr s120 m365 (by decide)
              have m367 := st_fr s131 m366 (by decide)
              have m368 := st_fr s143 m367 (by decide)
              have m369 := st_fr s155 m368 (by decide)
              have m370 := st_fr s167 m369 (by decide)
              have m371 := st_fr s180 m370 (by decide)
              have m372 := st_fr s193 m371 (by decide)
              have m373 := st_fr s206 m372 (by decide)
              have m374 := st_fr s220 m373 (by decide)
              have m375 := st_fr s234 m374 (by decide)
              have m376 := st_fr s246 m375 (by decide)
              have m377 := st_fr s250 m376 (by decide)
              have m378 := st_fr s277 m377 (by decide)
              have m379 := st_fr s305 m378 (by decide)
              have m380 := st_fr s335 m379 (by decide)
              have m381 := st_fr s340 m380 (by decide)
              have m382 := st_fr s345 m381 (by decide)
              have m383 := st_fr s350 m382 (by decide)
              refine w_this (fun _ => rfl) m383 (w_cv (fun _ => rfl) rfl (w_run k_151552 (w_al (fun _ => rfl) (w_icI (x := 0) rfl (w_putf [.inr (.inl (some 1)), .inr (.inl (some 10)), .inl (w_i 0), .inr (.inl (some 11)), .inl (w_i sta17), .inr (.inl (some (g_rw g))), .inl (w_i fnd17), .inr (.inl (some (g_stp g))), .inr (.inl (some (g_ahd g))), .inr (.inl (some (g_cst g))), .inr (.inl (some (g_chp g))), .inl (w_i kco17)] m383 rfl rfl rfl (fun _ => rfl) (fun h385 s384 => ?_))))))
              have z387 := s384.1
              have z387y := s384.2.1
              have z387w := s384.2.2.2.2 z353w
              refine w_al (fun _ => rfl) (w_icI (x := (-1)) wn_1 (w_putf [.inr (.inl (some 1)), .inr (.inl (some 10)), .inl (w_i 0), .inr (.inl (some 11)), .inl (w_i (-1)), .inr (.inl (some (g_rw g))), .inl (w_i fnd17), .inr (.inl (some (g_stp g))), .inr (.inl (some (g_ahd g))), .inr (.inl (some (g_cst g))), .inr (.inl (some (g_chp g))), .inl (w_i kco17)] s384.2.2.1 rfl rfl rfl (fun _ => rfl) (fun h389 s388 => ?_)))
              have z391 := s388.1
              have z391y := s388.2.1
              have z391w := s388.2.2.2.2 z387w
              refine w_rv ⟨rfl, ?_⟩
              refine w_il (fun _ => rfl) (w_ri ?_)
              have F1 := F.1
              have F2 := F.2.1
              have m392 := st_fr s220 s206.2.2.1 (by decide)
              have m393 := st_fr s234 m392 (by decide)
              have m394 := st_fr s246 m393 (by decide)
              have m395 := st_fr s250 m394 (by decide)
              have m396 := st_fr s277 m395 (by decide)
              have m397 := st_fr s305 m396 (by decide)
              have m398 := st_fr s335 m397 (by decide)
              have m399 := st_fr s340 m398 (by decide)
              have m400 := st_fr s345 m399 (by decide)
              have m401 := st_fr s350 m400 (by decide)
              have m402 := st_fr s384 m401 (by decide)
              have m403 := st_fr s388 m402 (by decide)
              have m404 := st_fr s277 s250.2.2.1 (by decide)
              have m405 := st_fr s305 m404 (by decide)
              have m406 := st_fr s335 m405 (by decide)
              have m407 := st_fr s340 m406 (by decide)
              have m408 := st_fr s345 m407 (by decide)
              have m409 := st_fr s350 m408 (by decide)
              have m410 := st_fr s384 m409 (by decide)
              have m411 := st_fr s388 m410 (by decide)
              have m412 := st_fr s384 s350.2.2.1 (by decide)
              have m413 := st_fr s388 m412 (by decide)
              have hN : (1 * c) = w_pw c hh := by rw [hk, pn_1]
              have gz : g_nt (g_bu g hh c (1 * c) A208) = g_nt g := rfl
              have m414 := st_fr s384 m354 (by decide)
              have m415 := st_fr s388 m414 (by decide)
              have six416 : ∀ j : Int, 0 ≤ j → j < 6 → 0 ≤ a_g A208 j ∧ a_g A208 j ≤ 63 := fun j j0 j1 => by
                rcases (show j = 0 ∨ j = 1 ∨ j = 2 ∨ j = 3 ∨ j = 4 ∨ j = 5 from by omega) with rfl | rfl | rfl | rfl | rfl | rfl
                · rw [q210]; omega
                · rw [q211]; omega
                · rw [q212]; omega
                · rw [q213]; omega
                · rw [q214]; omega
                · rw [q215]; omega
              have m417 := st_fr s234 s220.2.2.1 (by decide)
              have m418 := st_fr s246 m417 (by decide)
              have m419 := st_fr s250 m418 (by decide)
              have m420 := st_fr s277 m419 (by decide)
              have m421 := st_fr s305 m420 (by decide)
              have m422 := st_fr s335 m421 (by decide)
              have m423 := st_fr s340 m422 (by decide)
              have m424 := st_fr s345 m423 (by decide)
              have m425 := st_fr s350 m424 (by decide)
              have m426 := st_fr s384 m425 (by decide)
              have m427 := st_fr s388 m426 (by decide)
              have six428 : ∀ j : Int, 0 ≤ j → j < 6 → 0 ≤ a_g A222 j ∧ a_g A222 j < c := fun j j0 j1 => by
                rcases (show j = 0 ∨ j = 1 ∨ j = 2 ∨ j = 3 ∨ j = 4 ∨ j = 5 from by omega) with rfl | rfl | rfl | rfl | rfl | rfl
                · rw [q224]; omega
                · rw [q225]; omega
                · rw [q226]; omega
                · rw [q227]; omega
                · rw [q228]; omega
                · rw [q229]; omega
              have m429 := st_fr s246 s234.2.2.1 (by decide)
              have m430 := st_fr s250 m429 (by decide)
              have m431 := st_fr s277 m430 (by decide)
              have m432 := st_fr s305 m431 (by decide)
              have m433 := st_fr s335 m432 (by decide)
              have m434 := st_fr s340 m433 (by decide)
              have m435 := st_fr s345 m434 (by decide)
              have m436 := st_fr s350 m435 (by decide)
              have m437 := st_fr s384 m436 (by decide)
              have m438 := st_fr s388 m437 (by decide)
              have m439 := st_fr s335 s305.2.2.1 (by decide)
              have m440 := st_fr s340 m439 (by decide)
              have m441 := st_fr s345 m440 (by decide)
              have m442 := st_fr s350 m441 (by decide)
              have m443 := st_fr s384 m442 (by decide)
              have m444 := st_fr s388 m443 (by decide)
              have ivn := bu_fin (e0 := _) (e1 := _) (e18 := _) (e24 := _) (hh := hh) (c := c) (N := (1 * c)) iv (by omega) (by omega) (by omega) (by omega) hN (by omega) z391w (by omega) (fun q n0 n1 n2 n3 n4 n9 n18 n24 => (s388.2.2.2.1 q n9).trans ((s384.2.2.2.1 q n9).trans ((s350.2.2.2.1 q n24).trans ((s345.2.2.2.1 q n24).trans ((s340.2.2.2.1 q n24).trans ((s335.2.2.2.1 q n24).trans ((s305.2.2.2.1 q n18).trans ((s277.2.2.2.1 q n0).trans ((s250.2.2.2.1 q n1).trans ((s246.2.2.2.1 q n1).trans ((s234.2.2.2.1 q n4).trans ((s220.2.2.2.1 q n3).trans ((s206.2.2.2.1 q n2).trans ((s193.2.2.2.1 q n4).trans ((s180.2.2.2.1 q n3).trans ((s167.2.2.2.1 q n2).trans ((s155.2.2.2.1 q n4).trans ((s143.2.2.2.1 q n3).trans ((s131.2.2.2.1 q n2).trans ((s120.2.2.2.1 q n4).trans ((s109.2.2.2.1 q n3).trans ((s98.2.2.2.1 q n2).trans ((s88.2.2.2.1 q n4).trans ((s78.2.2.2.1 q n3).trans ((s68.2.2.2.1 q n2).trans ((s59.2.2.2.1 q n4).trans ((s47.2.2.2.1 q n3).trans ((s36.2.2.2.1 q n2).trans ((s29.2.2.2.1 q n1).trans ((s25.2.2.2.1 q n1).trans ((s21.2.2.2.1 q n1).trans (rfl)))))))))))))))))))))))))))))))) m415 rfl m411 ⟨_, _, _, rfl, by omega, by omega, by omega, by omega, by omega, by omega, by omega, by omega⟩ m403 six416 m427 six428 ⟨_, m438⟩ s388.2.2.1 ⟨by omega, by omega, by omega, by omega, by omega, by omega⟩ m444 ⟨_, _, _, _, _, rfl, by omega, by omega, by omega, by omega, by omega, by omega, by omega, by omega, by omega, by omega, by omega, by omega, by omega, by omega, by omega, by omega, by omega⟩ m413 ⟨_, rfl, z352.1, z352.2⟩
              exact k0 _ (g_bu g hh c (1 * c) A208) o h389 ivn ch_gbu oe_rf (by omega) (by omega)
            · refine w_al (fun _ => rfl) (w_getf m12 rfl (fun _ => rfl) (w_il (fun _ => rfl) (w_il (fun _ => rfl) (w_this (fun _ => rfl) m13 (w_cv (fun _ => rfl) rfl (w_run k_315392 (w_al (fun _ => rfl) (w_il (fun _ => rfl) (w_putf [.inl (w_i hh), .inl (w_i (g_C g)), .inl (w_i (g_N g)), .inr (.inl (some 2)), .inr (.inl (some 3)), .inr (.inl (some 4)), .inl (w_i kp13), .inl (w_i sp13), .inl (w_i rl13)] m13 rfl rfl rfl (fun _ => rfl) (fun h446 s445 => ?_))))))))))
              have z448 := s445.1
              have z448y := s445.2.1
              have z448w := s445.2.2.2.2 z20w
              refine w_al (fun _ => rfl) (w_il (fun _ => rfl) (w_putf [.inl (w_i hh), .inl (w_i c), .inl (w_i (g_N g)), .inr (.inl (some 2)), .inr (.inl (some 3)), .inr (.inl (some 4)), .inl (w_i kp13), .inl (w_i sp13), .inl (w_i rl13)] s445.2.2.1 rfl rfl rfl (fun _ => rfl) (fun h450 s449 => ?_)))
              have z452 := s449.1
              have z452y := s449.2.1
              have z452w := s449.2.2.2.2 z448w
              refine w_al (fun _ => rfl) (w_il (fun _ => rfl) (w_il (fun _ => rfl) (w_ca (fun _ => rfl) rfl (w_run k_507904 (w_icI (x := 1) rfl (w_is (fun _ => rfl) (w_icI (x := 0) rfl (w_is (fun _ => rfl) (w_il (fun _ => rfl) (w_il (fun _ => rfl) (w_gef (by omega) (by omega) (by omega) (by omega) (by omega)  (w_il (fun _ => rfl) (w_il (fun _ => rfl) (w_op (c := w_i (1 * c)) (i_mul 1 c) (w_is (fun _ => rfl) (w_inc (c := w_i 1) (fun _ => rfl) (by decide +kernel) (fun _ => rfl) (w_go (w_run k_507908 (w_il (fun _ => rfl) (w_il (fun _ => rfl) (w_gef (by omega) (by omega) (by omega) (by omega) (by omega)  (w_il (fun _ => rfl) (w_il (fun _ => rfl) (w_op (c := w_i ((1 * c) * c)) (i_mul (1 * c) c) (w_is (fun _ => rfl) (w_inc (c := w_i 2) (fun _ => rfl) (by decide +kernel) (fun _ => rfl) (w_go (w_run k_507908 (w_il (fun _ => rfl) (w_il (fun _ => rfl) (w_get (by omega) (by omega) (by omega) (by omega) (by omega)  (w_run k_507923 (w_il (fun _ => rfl) (w_ri ⟨_, rfl, ?_⟩))))))))))))))))))))))))))))))))))
              refine w_putf [.inl (w_i hh), .inl (w_i c), .inl (w_i ((1 * c) * c)), .inr (.inl (some 2)), .inr (.inl (some 3)), .inr (.inl (some 4)), .inl (w_i kp13), .inl (w_i sp13), .inl (w_i rl13)] s449.2.2.1 rfl rfl rfl (fun _ => rfl) (fun h454 s453 => ?_)
              have z456 := s453.1
              have z456y := s453.2.1
              have z456w := s453.2.2.2.2 z452w
              refine w_icI (x := 0) rfl (w_is (fun _ => rfl) (w_il (fun _ => rfl) (w_icI (x := 6) rfl (w_gef (by omega) (by omega) (by omega) (by omega) (by omega)  (w_al (fun _ => rfl) (w_getf s453.2.2.1 rfl (fun _ => rfl) (w_il (fun _ => rfl) (w_icI (x := 0) rfl ?_))))))))
              have m457 := st_fr s445 m14 (by decide)
              have m458 := st_fr s449 m457 (by decide)
              have m459 := st_fr s453 m458 (by decide)
              refine w_astI m459 (by omega) (by omega) (by omega) (by omega) (by omega) (fun A462 h461 w463 s460 => ?_)
              have q464 : a_g A462 0 = 0 := (w463 0 (by omega) (by omega)).trans (if_pos rfl)
              have z465 := s460.1
              have z465y := s460.2.1
              have z465w := s460.2.2.2.2 z456w
              refine w_al (fun _ => rfl) ?_
              have m466 := st_fr s460 s453.2.2.1 (by decide)
              refine w_getf m466 rfl (fun _ => rfl) (w_il (fun _ => rfl) (w_il (fun _ => rfl) (w_icI (x := 2) rfl (w_opz (c := w_i 0) (by decide +kernel) (by decide +kernel) ?_))))
              have m467 := st_fr s445 m15 (by decide)
              have m468 := st_fr s449 m467 (by decide)
              have m469 := st_fr s453 m468 (by decide)
              have m470 := st_fr s460 m469 (by decide)
              refine w_astI m470 (by omega) (by omega) (by omega) (by omega) (by omega) (fun A473 h472 w474 s471 => ?_)
              have q475 : a_g A473 0 = 0 := (w474 0 (by omega) (by omega)).trans (if_pos rfl)
              have z476 := s471.1
              have z476y := s471.2.1
              have z476w := s471.2.2.2.2 z465w
              refine w_al (fun _ => rfl) ?_
              have m477 := st_fr s471 m466 (by decide)
              refine w_getf m477 rfl (fun _ => rfl) (w_il (fun _ => rfl) (w_icI (x := (-1)) wn_1 ?_))
              have m478 := st_fr s445 m16 (by decide)
              have m479 := st_fr s449 m478 (by decide)
              have m480 := st_fr s453 m479 (by decide)
              have m481 := st_fr s460 m480 (by decide)
              have m482 := st_fr s471 m481 (by decide)
              refine w_astI m482 (by omega) (by omega) (by omega) (by omega) (by omega) (fun A485 h484 w486 s483 => ?_)
              have q487 : a_g A485 0 = (-1) := (w486 0 (by omega) (by omega)).trans (if_pos rfl)
              have z488 := s483.1
              have z488y := s483.2.1
              have z488w := s483.2.2.2.2 z476w
              refine w_inc (c := w_i 1) (fun _ => rfl) (by decide +kernel) (fun _ => rfl) (w_go (w_run k_315413 (w_il (fun _ => rfl) (w_icI (x := 6) rfl (w_gef (by omega) (by omega) (by omega) (by omega) (by omega)  (w_al (fun _ => rfl) ?_))))))
              have m489 := st_fr s483 m477 (by decide)
              refine w_getf m489 rfl (fun _ => rfl) (w_il (fun _ => rfl) (w_icI (x := 0) rfl ?_))
              have m490 := st_fr s471 s460.2.2.1 (by decide)
              have m491 := st_fr s483 m490 (by decide)
              refine w_astI m491 (by omega) (by omega) (by omega) (by omega) (by omega) (fun A494 h493 w495 s492 => ?_)
              have q496 : a_g A494 0 = 0 := ((w495 0 (by omega) (by omega)).trans (if_neg (by omega))).trans q464
              have q497 : a_g A494 1 = 0 := (w495 1 (by omega) (by omega)).trans (if_pos rfl)
              have z498 := s492.1
              have z498y := s492.2.1
              have z498w := s492.2.2.2.2 z488w
              refine w_al (fun _ => rfl) ?_
              have m499 := st_fr s492 m489 (by decide)
              refine w_getf m499 rfl (fun _ => rfl) (w_il (fun _ => rfl) (w_il (fun _ => rfl) (w_icI (x := 2) rfl (w_opz (c := w_i 1) (by decide +kernel) (by decide +kernel) ?_))))
              have m500 := st_fr s483 s471.2.2.1 (by decide)
              have m501 := st_fr s492 m500 (by decide)
              refine w_astI m501 (by omega) (by omega) (by omega) (by omega) (by omega) (fun A504 h503 w505 s502 => ?_)
              have q506 : a_g A504 0 = 0 := ((w505 0 (by omega) (by omega)).trans (if_neg (by omega))).trans q475
              have q507 : a_g A504 1 = 1 := (w505 1 (by omega) (by omega)).trans (if_pos rfl)
              have z508 := s502.1
              have z508y := s502.2.1
              have z508w := s502.2.2.2.2 z498w
              refine w_al (fun _ => rfl) ?_
              have m509 := st_fr s502 m499 (by decide)
              refine w_getf m509 rfl (fun _ => rfl) (w_il (fun _ => rfl) (w_icI (x := (-1)) wn_1 ?_))
              have m510 := st_fr s492 s483.2.2.1 (by decide)
              have m511 := st_fr s502 m510 (by decide)
              refine w_astI m511 (by omega) (by omega) (by omega) (by omega) (by omega) (fun A514 h513 w515 s512 => ?_)
              have q516 : a_g A514 0 = (-1) := ((w515 0 (by omega) (by omega)).trans (if_neg (by omega))).trans q487
              have q517 : a_g A514 1 = (-1) := (w515 1 (by omega) (by omega)).trans (if_pos rfl)
              have z518 := s512.1
              have z518y := s512.2.1
              have z518w := s512.2.2.2.2 z508w
              refine w_inc (c := w_i 2) (fun _ => rfl) (by decide +kernel) (fun _ => rfl) (w_go (w_run k_315413 (w_il (fun _ => rfl) (w_icI (x := 6) rfl (w_gef (by omega) (by omega) (by omega) (by omega) (by omega)  (w_al (fun _ => rfl) ?_))))))
              have m519 := st_fr s512 m509 (by decide)
              refine w_getf m519 rfl (fun _ => rfl) (w_il (fun _ => rfl) (w_icI (x := 0) rfl ?_))
              have m520 := st_fr s502 s492.2.2.1 (by decide)
              have m521 := st_fr s512 m520 (by decide)
              refine w_astI m521 (by omega) (by omega) (by omega) (by omega) (by omega) (fun A524 h523 w525 s522 => ?_)
              have q526 : a_g A524 0 = 0 := ((w525 0 (by omega) (by omega)).trans (if_neg (by omega))).trans q496
              have q527 : a_g A524 1 = 0 := ((w525 1 (by omega) (by omega)).trans (if_neg (by omega))).trans q497
              have q528 : a_g A524 2 = 0 := (w525 2 (by omega) (by omega)).trans (if_pos rfl)
              have z529 := s522.1
              have z529y := s522.2.1
              have z529w := s522.2.2.2.2 z518w
              refine w_al (fun _ => rfl) ?_
              have m530 := st_fr s522 m519 (by decide)
              refine w_getf m530 rfl (fun _ => rfl) (w_il (fun _ => rfl) (w_il (fun _ => rfl) (w_icI (x := 2) rfl (w_opz (c := w_i 0) (by decide +kernel) (by decide +kernel) ?_))))
              have m531 := st_fr s512 s502.2.2.1 (by decide)
              have m532 := st_fr s522 m531 (by decide)
              refine w_astI m532 (by omega) (by omega) (by omega) (by omega) (by omega) (fun A535 h534 w536 s533 => ?_)
              have q537 : a_g A535 0 = 0 := ((w536 0 (by omega) (by omega)).trans (if_neg (by omega))).trans q506
              have q538 : a_g A535 1 = 1 := ((w536 1 (by omega) (by omega)).trans (if_neg (by omega))).trans q507
              have q539 : a_g A535 2 = 0 := (w536 2 (by omega) (by omega)).trans (if_pos rfl)
              have z540 := s533.1
              have z540y := s533.2.1
              have z540w := s533.2.2.2.2 z529w
              refine w_al (fun _ => rfl) ?_
              have m541 := st_fr s533 m530 (by decide)
              refine w_getf m541 rfl (fun _ => rfl) (w_il (fun _ => rfl) (w_icI (x := (-1)) wn_1 ?_))
              have m542 := st_fr s522 s512.2.2.1 (by decide)
              have m543 := st_fr s533 m542 (by decide)
              refine w_astI m543 (by omega) (by omega) (by omega) (by omega) (by omega) (fun A546 h545 w547 s544 => ?_)
              have q548 : a_g A546 0 = (-1) := ((w547 0 (by omega) (by omega)).trans (if_neg (by omega))).trans q516
              have q549 : a_g A546 1 = (-1) := ((w547 1 (by omega) (by omega)).trans (if_neg (by omega))).trans q517
              have q550 : a_g A546 2 = (-1) := (w547 2 (by omega) (by omega)).trans (if_pos rfl)
              have z551 := s544.1
              have z551y := s544.2.1
              have z551w := s544.2.2.2.2 z540w
              refine w_inc (c := w_i 3) (fun _ => rfl) (by decide +kernel) (fun _ => rfl) (w_go (w_run k_315413 (w_il (fun _ => rfl) (w_icI (x := 6) rfl (w_gef (by omega) (by omega) (by omega) (by omega) (by omega)  (w_al (fun _ => rfl) ?_))))))
              have m552 := st_fr s544 m541 (by decide)
              refine w_getf m552 rfl (fun _ => rfl) (w_il (fun _ => rfl) (w_icI (x := 0) rfl ?_))
              have m553 := st_fr s533 s522.2.2.1 (by decide)
              have m554 := st_fr s544 m553 (by decide)
              refine w_astI m554 (by omega) (by omega) (by omega) (by omega) (by omega) (fun A557 h556 w558 s555 => ?_)
              have q559 : a_g A557 0 = 0 := ((w558 0 (by omega) (by omega)).trans (if_neg (by omega))).trans q526
              have q560 : a_g A557 1 = 0 := ((w558 1 (by omega) (by omega)).trans (if_neg (by omega))).trans q527
              have q561 : a_g A557 2 = 0 := ((w558 2 (by omega) (by omega)).trans (if_neg (by omega))).trans q528
              have q562 : a_g A557 3 = 0 := (w558 3 (by omega) (by omega)).trans (if_pos rfl)
              have z563 := s555.1
              have z563y := s555.2.1
              have z563w := s555.2.2.2.2 z551w
              refine w_al (fun _ => rfl) ?_
              have m564 := st_fr s555 m552 (by decide)
              refine w_getf m564 rfl (fun _ => rfl) (w_il (fun _ => rfl) (w_il (fun _ => rfl) (w_icI (x := 2) rfl (w_opz (c := w_i 1) (by decide +kernel) (by decide +kernel) ?_))))
              have m565 := st_fr s544 s533.2.2.1 (by decide)
              have m566 := st_fr s555 m565 (by decide)
              refine w_astI m566 (by omega) (by omega) (by omega) (by omega) (by omega) (fun A569 h568 w570 s567 => ?_)
              have q571 : a_g A569 0 = 0 := ((w570 0 (by omega) (by omega)).trans (if_neg (by omega))).trans q537
              have q572 : a_g A569 1 = 1 := ((w570 1 (by omega) (by omega)).trans (if_neg (by omega))).trans q538
              have q573 : a_g A569 2 = 0 := ((w570 2 (by omega) (by omega)).trans (if_neg (by omega))).trans q539
              have q574 : a_g A569 3 = 1 := (w570 3 (by omega) (by omega)).trans (if_pos rfl)
              have z575 := s567.1
              have z575y := s567.2.1
              have z575w := s567.2.2.2.2 z563w
              refine w_al (fun _ => rfl) ?_
              have m576 := st_fr s567 m564 (by decide)
              refine w_getf m576 rfl (fun _ => rfl) (w_il (fun _ => rfl) (w_icI (x := (-1)) wn_1 ?_))
              have m577 := st_fr s555 s544.2.2.1 (by decide)
              have m578 := st_fr s567 m577 (by decide)
              refine w_astI m578 (by omega) (by omega) (by omega) (by omega) (by omega) (fun A581 h580 w582 s579 => ?_)
              have q583 : a_g A581 0 = (-1) := ((w582 0 (by omega) (by omega)).trans (if_neg (by omega))).trans q548
              have q584 : a_g A581 1 = (-1) := ((w582 1 (by omega) (by omega)).trans (if_neg (by omega))).trans q549
              have q585 : a_g A581 2 = (-1) := ((w582 2 (by omega) (by omega)).trans (if_neg (by omega))).trans q550
              have q586 : a_g A581 3 = (-1) := (w582 3 (by omega) (by omega)).trans (if_pos rfl)
              have z587 := s579.1
              have z587y := s579.2.1
              have z587w := s579.2.2.2.2 z575w
              refine w_inc (c := w_i 4) (fun _ => rfl) (by decide +kernel) (fun _ => rfl) (w_go (w_run k_315413 (w_il (fun _ => rfl) (w_icI (x := 6) rfl (w_gef (by omega) (by omega) (by omega) (by omega) (by omega)  (w_al (fun _ => rfl) ?_))))))
              have m588 := st_fr s579 m576 (by decide)
              refine w_getf m588 rfl (fun _ => rfl) (w_il (fun _ => rfl) (w_icI (x := 0) rfl ?_))
              have m589 := st_fr s567 s555.2.2.1 (by decide)
              have m590 := st_fr s579 m589 (by decide)
              refine w_astI m590 (by omega) (by omega) (by omega) (by omega) (by omega) (fun A593 h592 w594 s591 => ?_)
              have q595 : a_g A593 0 = 0 := ((w594 0 (by omega) (by omega)).trans (if_neg (by omega))).trans q559
              have q596 : a_g A593 1 = 0 := ((w594 1 (by omega) (by omega)).trans (if_neg (by omega))).trans q560
              have q597 : a_g A593 2 = 0 := ((w594 2 (by omega) (by omega)).trans (if_neg (by omega))).trans q561
              have q598 : a_g A593 3 = 0 := ((w594 3 (by omega) (by omega)).trans (if_neg (by omega))).trans q562
              have q599 : a_g A593 4 = 0 := (w594 4 (by omega) (by omega)).trans (if_pos rfl)
              have z600 := s591.1
              have z600y := s591.2.1
              have z600w := s591.2.2.2.2 z587w
              refine w_al (fun _ => rfl) ?_
              have m601 := st_fr s591 m588 (by decide)
              refine w_getf m601 rfl (fun _ => rfl) (w_il (fun _ => rfl) (w_il (fun _ => rfl) (w_icI (x := 2) rfl (w_opz (c := w_i 0) (by decide +kernel) (by decide +kernel) ?_))))
              have m602 := st_fr s579 s567.2.2.1 (by decide)
              have m603 := st_fr s591 m602 (by decide)
              refine w_astI m603 (by omega) (by omega) (by omega) (by omega) (by omega) (fun A606 h605 w607 s604 => ?_)
              have q608 : a_g A606 0 = 0 := ((w607 0 (by omega) (by omega)).trans (if_neg (by omega))).trans q571
              have q609 : a_g A606 1 = 1 := ((w607 1 (by omega) (by omega)).trans (if_neg (by omega))).trans q572
              have q610 : a_g A606 2 = 0 := ((w607 2 (by omega) (by omega)).trans (if_neg (by omega))).trans q573
              have q611 : a_g A606 3 = 1 := ((w607 3 (by omega) (by omega)).trans (if_neg (by omega))).trans q574
              have q612 : a_g A606 4 = 0 := (w607 4 (by omega) (by omega)).trans (if_pos rfl)
              have z613 := s604.1
              have z613y := s604.2.1
              have z613w := s604.2.2.2.2 z600w
              refine w_al (fun _ => rfl) ?_
              have m614 := st_fr s604 m601 (by decide)
              refine w_getf m614 rfl (fun _ => rfl) (w_il (fun _ => rfl) (w_icI (x := (-1)) wn_1 ?_))
              have m615 := st_fr s591 s579.2.2.1 (by decide)
              have m616 := st_fr s604 m615 (by decide)
              refine w_astI m616 (by omega) (by omega) (by omega) (by omega) (by omega) (fun A619 h618 w620 s617 => ?_)
              have q621 : a_g A619 0 = (-1) := ((w620 0 (by omega) (by omega)).trans (if_neg (by omega))).trans q583
              have q622 : a_g A619 1 = (-1) := ((w620 1 (by omega) (by omega)).trans (if_neg (by omega))).trans q584
              have q623 : a_g A619 2 = (-1) := ((w620 2 (by omega) (by omega)).trans (if_neg (by omega))).trans q585
              have q624 : a_g A619 3 = (-1) := ((w620 3 (by omega) (by omega)).trans (if_neg (by omega))).trans q586
              have q625 : a_g A619 4 = (-1) := (w620 4 (by omega) (by omega)).trans (if_pos rfl)
              have z626 := s617.1
              have z626y := s617.2.1
              have z626w := s617.2.2.2.2 z613w
              refine w_inc (c := w_i 5) (fun _ => rfl) (by decide +kernel) (fun _ => rfl) (w_go (w_run k_315413 (w_il (fun _ => rfl) (w_icI (x := 6) rfl (w_gef (by omega) (by omega) (by omega) (by omega) (by omega)  (w_al (fun _ => rfl) ?_))))))
              have m627 := st_fr s617 m614 (by decide)
              refine w_getf m627 rfl (fun _ => rfl) (w_il (fun _ => rfl) (w_icI (x := 0) rfl ?_))
              have m628 := st_fr s604 s591.2.2.1 (by decide)
              have m629 := st_fr s617 m628 (by decide)
              refine w_astI m629 (by omega) (by omega) (by omega) (by omega) (by omega) (fun A632 h631 w633 s630 => ?_)
              have q634 : a_g A632 0 = 0 := ((w633 0 (by omega) (by omega)).trans (if_neg (by omega))).trans q595
              have q635 : a_g A632 1 = 0 := ((w633 1 (by omega) (by omega)).trans (if_neg (by omega))).trans q596
              have q636 : a_g A632 2 = 0 := ((w633 2 (by omega) (by omega)).trans (if_neg (by omega))).trans q597
              have q637 : a_g A632 3 = 0 := ((w633 3 (by omega) (by omega)).trans (if_neg (by omega))).trans q598
              have q638 : a_g A632 4 = 0 := ((w633 4 (by omega) (by omega)).trans (if_neg (by omega))).trans q599
              have q639 : a_g A632 5 = 0 := (w633 5 (by omega) (by omega)).trans (if_pos rfl)
              have z640 := s630.1
              have z640y := s630.2.1
              have z640w := s630.2.2.2.2 z626w
              refine w_al (fun _ => rfl) ?_
              have m641 := st_fr s630 m627 (by decide)
              refine w_getf m641 rfl (fun _ => rfl) (w_il (fun _ => rfl) (w_il (fun _ => rfl) (w_icI (x := 2) rfl (w_opz (c := w_i 1) (by decide +kernel) (by decide +kernel) ?_))))
              have m642 := st_fr s617 s604.2.2.1 (by decide)
              have m643 := st_fr s630 m642 (by decide)
              refine w_astI m643 (by omega) (by omega) (by omega) (by omega) (by omega) (fun A646 h645 w647 s644 => ?_)
              have q648 : a_g A646 0 = 0 := ((w647 0 (by omega) (by omega)).trans (if_neg (by omega))).trans q608
              have q649 : a_g A646 1 = 1 := ((w647 1 (by omega) (by omega)).trans (if_neg (by omega))).trans q609
              have q650 : a_g A646 2 = 0 := ((w647 2 (by omega) (by omega)).trans (if_neg (by omega))).trans q610
              have q651 : a_g A646 3 = 1 := ((w647 3 (by omega) (by omega)).trans (if_neg (by omega))).trans q611
              have q652 : a_g A646 4 = 0 := ((w647 4 (by omega) (by omega)).trans (if_neg (by omega))).trans q612
              have q653 : a_g A646 5 = 1 := (w647 5 (by omega) (by omega)).trans (if_pos rfl)
              have z654 := s644.1
              have z654y := s644.2.1
              have z654w := s644.2.2.2.2 z640w
              refine w_al (fun _ => rfl) ?_
              have m655 := st_fr s644 m641 (by decide)
              refine w_getf m655 rfl (fun _ => rfl) (w_il (fun _ => rfl) (w_icI (x := (-1)) wn_1 ?_))
              have m656 := st_fr s630 s617.2.2.1 (by decide)
              have m657 := st_fr s644 m656 (by decide)
              refine w_astI m657 (by omega) (by omega) (by omega) (by omega) (by omega) (fun A660 h659 w661 s658 => ?_)
              have q662 : a_g A660 0 = (-1) := ((w661 0 (by omega) (by omega)).trans (if_neg (by omega))).trans q621
              have q663 : a_g A660 1 = (-1) := ((w661 1 (by omega) (by omega)).trans (if_neg (by omega))).trans q622
              have q664 : a_g A660 2 = (-1) := ((w661 2 (by omega) (by omega)).trans (if_neg (by omega))).trans q623
              have q665 : a_g A660 3 = (-1) := ((w661 3 (by omega) (by omega)).trans (if_neg (by omega))).trans q624
              have q666 : a_g A660 4 = (-1) := ((w661 4 (by omega) (by omega)).trans (if_neg (by omega))).trans q625
              have q667 : a_g A660 5 = (-1) := (w661 5 (by omega) (by omega)).trans (if_pos rfl)
              have z668 := s658.1
              have z668y := s658.2.1
              have z668w := s658.2.2.2.2 z654w
              refine w_inc (c := w_i 6) (fun _ => rfl) (by decide +kernel) (fun _ => rfl) (w_go (w_run k_315413 (w_il (fun _ => rfl) (w_icI (x := 6) rfl (w_get (by omega) (by omega) (by omega) (by omega) (by omega)  (w_run k_315448 (w_icI (x := 0) rfl (w_is (fun _ => rfl) (w_il (fun _ => rfl) (w_icI (x := 1) rfl (w_op (c := w_i 1) (by decide +kernel) (w_il (fun _ => rfl) (w_gef (by omega) (by omega) (by omega) (by omega) (by omega)  (w_al (fun _ => rfl) (w_il (fun _ => rfl) (w_il (fun _ => rfl) (w_icI (x := 1) rfl (w_op (c := w_i 1) (by decide +kernel) (w_icI (x := 1) rfl ?_)))))))))))))))))))
              have m669 := st_fr s658 m655 (by decide)
              refine w_this (fun _ => rfl) m669 (w_cv (fun _ => rfl) rfl (w_run k_323584 (w_al (fun _ => rfl) (w_getf m669 rfl (fun _ => rfl) (w_il (fun _ => rfl) (w_al (fun _ => rfl) (w_getf m669 rfl (fun _ => rfl) (w_il (fun _ => rfl) ?_))))))))
              have m670 := st_fr s644 s630.2.2.1 (by decide)
              have m671 := st_fr s658 m670 (by decide)
              refine w_aldI m671 (by omega) (by omega) (by omega) ?_
              rw [q634]
              refine w_icI (x := 1) rfl (w_il (fun _ => rfl) (w_op (c := w_i 2) (by decide +kernel) (w_icI (x := (-1)) wn_1 (w_op (c := w_i (-3)) (by decide +kernel) (w_op (c := w_i 0) (by decide +kernel) (w_il (fun _ => rfl) (w_eqzf (by omega) (by omega) (by omega)  (w_icI (x := 1) rfl (w_il (fun _ => rfl) (w_op (c := w_i 2) (by decide +kernel) (w_go (w_run k_323612 (w_op (c := w_i 2) (by decide +kernel) (w_astI m671 (by omega) (by omega) (by omega) (by omega) (by omega) (fun A674 h673 w675 s672 => ?_)))))))))))))))
              have q676 : a_g A674 0 = 2 := (w675 0 (by omega) (by omega)).trans (if_pos rfl)
              have q677 : a_g A674 1 = 0 := ((w675 1 (by omega) (by omega)).trans (if_neg (by omega))).trans q635
              have q678 : a_g A674 2 = 0 := ((w675 2 (by omega) (by omega)).trans (if_neg (by omega))).trans q636
              have q679 : a_g A674 3 = 0 := ((w675 3 (by omega) (by omega)).trans (if_neg (by omega))).trans q637
              have q680 : a_g A674 4 = 0 := ((w675 4 (by omega) (by omega)).trans (if_neg (by omega))).trans q638
              have q681 : a_g A674 5 = 0 := ((w675 5 (by omega) (by omega)).trans (if_neg (by omega))).trans q639
              have z682 := s672.1
              have z682y := s672.2.1
              have z682w := s672.2.2.2.2 z668w
              refine w_al (fun _ => rfl) ?_
              have m683 := st_fr s672 m669 (by decide)
              refine w_getf m683 rfl (fun _ => rfl) (w_il (fun _ => rfl) (w_al (fun _ => rfl) (w_getf m683 rfl (fun _ => rfl) (w_il (fun _ => rfl) (w_aldI s672.2.2.1 (by omega) (by omega) (by omega) ?_)))))
              rw [q677]
              refine w_icI (x := 1) rfl (w_il (fun _ => rfl) (w_op (c := w_i 1) (by decide +kernel) (w_icI (x := (-1)) wn_1 (w_op (c := w_i (-2)) (by decide +kernel) (w_op (c := w_i 0) (by decide +kernel) (w_il (fun _ => rfl) (w_eqzf (by omega) (by omega) (by omega)  (w_icI (x := 1) rfl (w_il (fun _ => rfl) (w_op (c := w_i 1) (by decide +kernel) (w_go (w_run k_323642 (w_op (c := w_i 1) (by decide +kernel) (w_astI s672.2.2.1 (by omega) (by omega) (by omega) (by omega) (by omega) (fun A686 h685 w687 s684 => ?_)))))))))))))))
              have q688 : a_g A686 0 = 2 := ((w687 0 (by omega) (by omega)).trans (if_neg (by omega))).trans q676
              have q689 : a_g A686 1 = 1 := (w687 1 (by omega) (by omega)).trans (if_pos rfl)
              have q690 : a_g A686 2 = 0 := ((w687 2 (by omega) (by omega)).trans (if_neg (by omega))).trans q678
              have q691 : a_g A686 3 = 0 := ((w687 3 (by omega) (by omega)).trans (if_neg (by omega))).trans q679
              have q692 : a_g A686 4 = 0 := ((w687 4 (by omega) (by omega)).trans (if_neg (by omega))).trans q680
              have q693 : a_g A686 5 = 0 := ((w687 5 (by omega) (by omega)).trans (if_neg (by omega))).trans q681
              have z694 := s684.1
              have z694y := s684.2.1
              have z694w := s684.2.2.2.2 z682w
              refine w_rv ⟨rfl, ?_⟩
              refine w_inc (c := w_i 1) (fun _ => rfl) (by decide +kernel) (fun _ => rfl) (w_go (w_run k_315450 (w_il (fun _ => rfl) (w_icI (x := 1) rfl (w_op (c := w_i 2) (by decide +kernel) (w_il (fun _ => rfl) (w_get (by omega) (by omega) (by omega) (by omega) (by omega)  (w_run k_315472 (w_al (fun _ => rfl) (w_icI (x := 0) rfl ?_))))))))))
              have m695 := st_fr s684 m683 (by decide)
              refine w_putf [.inl (w_i hh), .inl (w_i c), .inl (w_i ((1 * c) * c)), .inr (.inl (some 2)), .inr (.inl (some 3)), .inr (.inl (some 4)), .inl (w_i 0), .inl (w_i sp13), .inl (w_i rl13)] m695 rfl rfl rfl (fun _ => rfl) (fun h697 s696 => ?_)
              have z699 := s696.1
              have z699y := s696.2.1
              have z699w := s696.2.2.2.2 z694w
              refine w_al (fun _ => rfl) (w_icI (x := 0) rfl (w_putf [.inl (w_i hh), .inl (w_i c), .inl (w_i ((1 * c) * c)), .inr (.inl (some 2)), .inr (.inl (some 3)), .inr (.inl (some 4)), .inl (w_i 0), .inl (w_i 0), .inl (w_i rl13)] s696.2.2.1 rfl rfl rfl (fun _ => rfl) (fun h701 s700 => ?_)))
              have z703 := s700.1
              have z703y := s700.2.1
              have z703w := s700.2.2.2.2 z699w
              refine w_rv ⟨rfl, ?_⟩
              refine w_al (fun _ => rfl) (w_icI (x := 0) rfl ?_)
              have m704 := st_fr s445 m12 (by decide)
              have m705 := st_fr s449 m704 (by decide)
              have m706 := st_fr s453 m705 (by decide)
              have m707 := st_fr s460 m706 (by decide)
              have m708 := st_fr s471 m707 (by decide)
              have m709 := st_fr s483 m708 (by decide)
              have m710 := st_fr s492 m709 (by decide)
              have m711 := st_fr s502 m710 (by decide)
              have m712 := st_fr s512 m711 (by decide)
              have m713 := st_fr s522 m712 (by decide)
              have m714 := st_fr s533 m713 (by decide)
              have m715 := st_fr s544 m714 (by decide)
              have m716 := st_fr s555 m715 (by decide)
              have m717 := st_fr s567 m716 (by decide)
              have m718 := st_fr s579 m717 (by decide)
              have m719 := st_fr s591 m718 (by decide)
              have m720 := st_fr s604 m719 (by decide)
              have m721 := st_fr s617 m720 (by decide)
              have m722 := st_fr s630 m721 (by decide)
              have m723 := st_fr s644 m722 (by decide)
              have m724 := st_fr s658 m723 (by decide)
              have m725 := st_fr s672 m724 (by decide)
              have m726 := st_fr s684 m725 (by decide)
              have m727 := st_fr s696 m726 (by decide)
              have m728 := st_fr s700 m727 (by decide)
              refine w_putf [.inr (.inl (some 1)), .inr (.inl (some 5)), .inl (w_i 0), .inr (.inl (some 9)), .inr (.inl (some 17)), .inl (w_i (g_np g)), .inr (.inl (some 18)), .inr (.inl (some 23)), .inl (w_i (g_nt g)), .inr (.inl (some 24)), .inr (.inl (some 25)), .inr (.inl (some 26)), .inr (.inl (some 27))] m728 rfl rfl rfl (fun _ => rfl) (fun h730 s729 => ?_)
              have z732 := s729.1
              have z732y := s729.2.1
              have z732w := s729.2.2.2.2 z703w
              refine w_al (fun _ => rfl) (w_getf s729.2.2.1 rfl (fun _ => rfl) ?_)
              have m733 := st_fr s445 m18 (by decide)
              have m734 := st_fr s449 m733 (by decide)
              have m735 := st_fr s453 m734 (by decide)
              have m736 := st_fr s460 m735 (by decide)
              have m737 := st_fr s471 m736 (by decide)
              have m738 := st_fr s483 m737 (by decide)
              have m739 := st_fr s492 m738 (by decide)
              have m740 := st_fr s502 m739 (by decide)
              have m741 := st_fr s512 m740 (by decide)
              have m742 := st_fr s522 m741 (by decide)
              have m743 := st_fr s533 m742 (by decide)
              have m744 := st_fr s544 m743 (by decide)
              have m745 := st_fr s555 m744 (by decide)
              have m746 := st_fr s567 m745 (by decide)
              have m747 := st_fr s579 m746 (by decide)
              have m748 := st_fr s591 m747 (by decide)
              have m749 := st_fr s604 m748 (by decide)
              have m750 := st_fr s617 m749 (by decide)
              have m751 := st_fr s630 m750 (by decide)
              have m752 := st_fr s644 m751 (by decide)
              have m753 := st_fr s658 m752 (by decide)
              have m754 := st_fr s672 m753 (by decide)
              have m755 := st_fr s684 m754 (by decide)
              have m756 := st_fr s696 m755 (by decide)
              have m757 := st_fr s700 m756 (by decide)
              have m758 := st_fr s729 m757 (by decide)
              refine w_this (fun _ => rfl) m758 (w_cv (fun _ => rfl) rfl (w_run k_57344 (w_al (fun _ => rfl) (w_icI (x := 0) rfl (w_putf [.inr (.inl (some 19)), .inl (w_i 0), .inr (.inl (some 20)), .inr (.inl (some 21)), .inl (w_i atp18), .inl (w_i tok18), .inl (w_i flt18), .inr (.inl (some 22)), .inl (w_i wri18)] m758 rfl rfl rfl (fun _ => rfl) (fun h760 s759 => ?_))))))
              have z762 := s759.1
              have z762y := s759.2.1
              have z762w := s759.2.2.2.2 z732w
              refine w_rv ⟨rfl, ?_⟩
              refine w_icI (x := 0) rfl (w_is (fun _ => rfl) (w_il (fun _ => rfl) (w_icI (x := 4) rfl (w_gef (by omega) (by omega) (by omega) (by omega) (by omega)  (w_al (fun _ => rfl) ?_)))))
              have m763 := st_fr s759 s729.2.2.1 (by decide)
              refine w_getf m763 rfl (fun _ => rfl) (w_il (fun _ => rfl) (w_nul ?_))
              have m764 := st_fr s445 m19 (by decide)
              have m765 := st_fr s449 m764 (by decide)
              have m766 := st_fr s453 m765 (by decide)
              have m767 := st_fr s460 m766 (by decide)
              have m768 := st_fr s471 m767 (by decide)
              have m769 := st_fr s483 m768 (by decide)
              have m770 := st_fr s492 m769 (by decide)
              have m771 := st_fr s502 m770 (by decide)
              have m772 := st_fr s512 m771 (by decide)
              have m773 := st_fr s522 m772 (by decide)
              have m774 := st_fr s533 m773 (by decide)
              have m775 := st_fr s544 m774 (by decide)
              have m776 := st_fr s555 m775 (by decide)
              have m777 := st_fr s567 m776 (by decide)
              have m778 := st_fr s579 m777 (by decide)
              have m779 := st_fr s591 m778 (by decide)
              have m780 := st_fr s604 m779 (by decide)
              have m781 := st_fr s617 m780 (by decide)
              have m782 := st_fr s630 m781 (by decide)
              have m783 := st_fr s644 m782 (by decide)
              have m784 := st_fr s658 m783 (by decide)
              have m785 := st_fr s672 m784 (by decide)
              have m786 := st_fr s684 m785 (by decide)
              have m787 := st_fr s696 m786 (by decide)
              have m788 := st_fr s700 m787 (by decide)
              have m789 := st_fr s729 m788 (by decide)
              have m790 := st_fr s759 m789 (by decide)
              refine w_aastI m790 (by omega) (by omega) (by decide) isC_no (fun h792 s791 => ?_)
              have z793 := set_no (j := (0).toNat) lp19 ll19 (Or.inl rfl)
              have z794 := s791.1
              have z794y := s791.2.1
              have z794w := s791.2.2.2.2 z762w
              refine w_inc (c := w_i 1) (fun _ => rfl) (by decide +kernel) (fun _ => rfl) (w_go (w_run k_364611 (w_il (fun _ => rfl) (w_icI (x := 4) rfl (w_gef (by omega) (by omega) (by omega) (by omega) (by omega)  (w_al (fun _ => rfl) ?_))))))
              have m795 := st_fr s791 m763 (by decide)
              refine w_getf m795 rfl (fun _ => rfl) (w_il (fun _ => rfl) (w_nul (w_aastI s791.2.2.1 (by omega) (by omega) (by decide) isC_no (fun h797 s796 => ?_))))
              have z798 := set_no (j := (1).toNat) z793.2 z793.1 (Or.inl rfl)
              have z799 := s796.1
              have z799y := s796.2.1
              have z799w := s796.2.2.2.2 z794w
              refine w_inc (c := w_i 2) (fun _ => rfl) (by decide +kernel) (fun _ => rfl) (w_go (w_run k_364611 (w_il (fun _ => rfl) (w_icI (x := 4) rfl (w_gef (by omega) (by omega) (by omega) (by omega) (by omega)  (w_al (fun _ => rfl) ?_))))))
              have m800 := st_fr s796 m795 (by decide)
              refine w_getf m800 rfl (fun _ => rfl) (w_il (fun _ => rfl) (w_nul (w_aastI s796.2.2.1 (by omega) (by omega) (by decide) isC_no (fun h802 s801 => ?_))))
              have z803 := set_no (j := (2).toNat) z798.2 z798.1 (Or.inl rfl)
              have z804 := s801.1
              have z804y := s801.2.1
              have z804w := s801.2.2.2.2 z799w
              refine w_inc (c := w_i 3) (fun _ => rfl) (by decide +kernel) (fun _ => rfl) (w_go (w_run k_364611 (w_il (fun _ => rfl) (w_icI (x := 4) rfl (w_gef (by omega) (by omega) (by omega) (by omega) (by omega)  (w_al (fun _ => rfl) ?_))))))
              have m805 := st_fr s801 m800 (by decide)
              refine w_getf m805 rfl (fun _ => rfl) (w_il (fun _ => rfl) (w_nul (w_aastI s801.2.2.1 (by omega) (by omega) (by decide) isC_no (fun h807 s806 => ?_))))
              have z808 := set_no (j := (3).toNat) z803.2 z803.1 (Or.inl rfl)
              have z809 := s806.1
              have z809y := s806.2.1
              have z809w := s806.2.2.2.2 z804w
              refine w_inc (c := w_i 4) (fun _ => rfl) (by decide +kernel) (fun _ => rfl) (w_go (w_run k_364611 (w_il (fun _ => rfl) (w_icI (x := 4) rfl (w_get (by omega) (by omega) (by omega) (by omega) (by omega)  (w_run k_364631 (w_al (fun _ => rfl) ?_)))))))
              have m810 := st_fr s806 m805 (by decide)
              refine w_getf m810 rfl (fun _ => rfl) ?_
              have m811 := st_fr s445 m17 (by decide)
              have m812 := st_fr s449 m811 (by decide)
              have m813 := st_fr s453 m812 (by decide)
              have m814 := st_fr s460 m813 (by decide)
              have m815 := st_fr s471 m814 (by decide)
              have m816 := st_fr s483 m815 (by decide)
              have m817 := st_fr s492 m816 (by decide)
              have m818 := st_fr s502 m817 (by decide)
              have m819 := st_fr s512 m818 (by decide)
              have m820 := st_fr s522 m819 (by decide)
              have m821 := st_fr s533 m820 (by decide)
              have m822 := st_fr s544 m821 (by decide)
              have m823 := st_fr s555 m822 (by decide)
              have m824 := st_fr s567 m823 (by decide)
              have m825 := st_fr s579 m824 (by decide)
              have m826 := st_fr s591 m825 (by decide)
              have m827 := st_fr s604 m826 (by decide)
              have m828 := st_fr s617 m827 (by decide)
              have m829 := st_fr s630 m828 (by decide)
              have m830 := st_fr s644 m829 (by decide)
              have m831 := st_fr s658 m830 (by decide)
              have m832 := st_fr s672 m831 (by decide)
              have m833 := st_fr s684 m832 (by decide)
              have m834 := st_fr s696 m833 (by decide)
              have m835 := st_fr s700 m834 (by decide)
              have m836 := st_fr s729 m835 (by decide)
              have m837 := st_fr s759 m836 (by decide)
              have m838 := st_fr s791 m837 (by decide)
              have m839 := st_fr s796 m838 (by decide)
              have m840 := st_fr s801 m839 (by decide)
              have m841 := st_fr s806 m840 (by decide)
              refine w_this (fun _ => rfl) m841 (w_cv (fun _ => rfl) rfl (w_run k_151552 (w_al (fun _ => rfl) (w_icI (x := 0) rfl (w_putf [.inr (.inl (some 1)), .inr (.inl (some 10)), .inl (w_i 0), .inr (.inl (some 11)), .inl (w_i sta17), .inr (.inl (some (g_rw g))), .inl (w_i fnd17), .inr (.inl (some (g_stp g))), .inr (.inl (some (g_ahd g))), .inr (.inl (some (g_cst g))), .inr (.inl (some (g_chp g))), .inl (w_i kco17)] m841 rfl rfl rfl (fun _ => rfl) (fun h843 s842 => ?_))))))
              have z845 := s842.1
              have z845y := s842.2.1
              have z845w := s842.2.2.2.2 z809w
              refine w_al (fun _ => rfl) (w_icI (x := (-1)) wn_1 (w_putf [.inr (.inl (some 1)), .inr (.inl (some 10)), .inl (w_i 0), .inr (.inl (some 11)), .inl (w_i (-1)), .inr (.inl (some (g_rw g))), .inl (w_i fnd17), .inr (.inl (some (g_stp g))), .inr (.inl (some (g_ahd g))), .inr (.inl (some (g_cst g))), .inr (.inl (some (g_chp g))), .inl (w_i kco17)] s842.2.2.1 rfl rfl rfl (fun _ => rfl) (fun h847 s846 => ?_)))
              have z849 := s846.1
              have z849y := s846.2.1
              have z849w := s846.2.2.2.2 z845w
              refine w_rv ⟨rfl, ?_⟩
              refine w_il (fun _ => rfl) (w_ri ?_)
              have F1 := F.1
              have F2 := F.2.1
              have m850 := st_fr s696 s684.2.2.1 (by decide)
              have m851 := st_fr s700 m850 (by decide)
              have m852 := st_fr s729 m851 (by decide)
              have m853 := st_fr s759 m852 (by decide)
              have m854 := st_fr s791 m853 (by decide)
              have m855 := st_fr s796 m854 (by decide)
              have m856 := st_fr s801 m855 (by decide)
              have m857 := st_fr s806 m856 (by decide)
              have m858 := st_fr s842 m857 (by decide)
              have m859 := st_fr s846 m858 (by decide)
              have m860 := st_fr s729 s700.2.2.1 (by decide)
              have m861 := st_fr s759 m860 (by decide)
              have m862 := st_fr s791 m861 (by decide)
              have m863 := st_fr s796 m862 (by decide)
              have m864 := st_fr s801 m863 (by decide)
              have m865 := st_fr s806 m864 (by decide)
              have m866 := st_fr s842 m865 (by decide)
              have m867 := st_fr s846 m866 (by decide)
              have m868 := st_fr s842 s806.2.2.1 (by decide)
              have m869 := st_fr s846 m868 (by decide)
              have hN : ((1 * c) * c) = w_pw c hh := by rw [hk, pn_2]
              have gz : g_nt (g_bu g hh c ((1 * c) * c) A686) = g_nt g := rfl
              have m870 := st_fr s842 m810 (by decide)
              have m871 := st_fr s846 m870 (by decide)
              have six872 : ∀ j : Int, 0 ≤ j → j < 6 → 0 ≤ a_g A686 j ∧ a_g A686 j ≤ 63 := fun j j0 j1 => by
                rcases (show j = 0 ∨ j = 1 ∨ j = 2 ∨ j = 3 ∨ j = 4 ∨ j = 5 from by omega) with rfl | rfl | rfl | rfl | rfl | rfl
                · rw [q688]; omega
                · rw [q689]; omega
                · rw [q690]; omega
                · rw [q691]; omega
                · rw [q692]; omega
                · rw [q693]; omega
              have m873 := st_fr s658 s644.2.2.1 (by decide)
              have m874 := st_fr s672 m873 (by decide)
              have m875 := st_fr s684 m874 (by decide)
              have m876 := st_fr s696 m875 (by decide)
              have m877 := st_fr s700 m876 (by decide)
              have m878 := st_fr s729 m877 (by decide)
              have m879 := st_fr s759 m878 (by decide)
              have m880 := st_fr s791 m879 (by decide)
              have m881 := st_fr s796 m880 (by decide)
              have m882 := st_fr s801 m881 (by decide)
              have m883 := st_fr s806 m882 (by decide)
              have m884 := st_fr s842 m883 (by decide)
              have m885 := st_fr s846 m884 (by decide)
              have six886 : ∀ j : Int, 0 ≤ j → j < 6 → 0 ≤ a_g A646 j ∧ a_g A646 j < c := fun j j0 j1 => by
                rcases (show j = 0 ∨ j = 1 ∨ j = 2 ∨ j = 3 ∨ j = 4 ∨ j = 5 from by omega) with rfl | rfl | rfl | rfl | rfl | rfl
                · rw [q648]; omega
                · rw [q649]; omega
                · rw [q650]; omega
                · rw [q651]; omega
                · rw [q652]; omega
                · rw [q653]; omega
              have m887 := st_fr s672 s658.2.2.1 (by decide)
              have m888 := st_fr s684 m887 (by decide)
              have m889 := st_fr s696 m888 (by decide)
              have m890 := st_fr s700 m889 (by decide)
              have m891 := st_fr s729 m890 (by decide)
              have m892 := st_fr s759 m891 (by decide)
              have m893 := st_fr s791 m892 (by decide)
              have m894 := st_fr s796 m893 (by decide)
              have m895 := st_fr s801 m894 (by decide)
              have m896 := st_fr s806 m895 (by decide)
              have m897 := st_fr s842 m896 (by decide)
              have m898 := st_fr s846 m897 (by decide)
              have m899 := st_fr s791 s759.2.2.1 (by decide)
              have m900 := st_fr s796 m899 (by decide)
              have m901 := st_fr s801 m900 (by decide)
              have m902 := st_fr s806 m901 (by decide)
              have m903 := st_fr s842 m902 (by decide)
              have m904 := st_fr s846 m903 (by decide)
              have ivn := bu_fin (e0 := _) (e1 := _) (e18 := _) (e24 := _) (hh := hh) (c := c) (N := ((1 * c) * c)) iv (by omega) (by omega) (by omega) (by omega) hN (by omega) z849w (by omega) (fun q n0 n1 n2 n3 n4 n9 n18 n24 => (s846.2.2.2.1 q n9).trans ((s842.2.2.2.1 q n9).trans ((s806.2.2.2.1 q n24).trans ((s801.2.2.2.1 q n24).trans ((s796.2.2.2.1 q n24).trans ((s791.2.2.2.1 q n24).trans ((s759.2.2.2.1 q n18).trans ((s729.2.2.2.1 q n0).trans ((s700.2.2.2.1 q n1).trans ((s696.2.2.2.1 q n1).trans ((s684.2.2.2.1 q n2).trans ((s672.2.2.2.1 q n2).trans ((s658.2.2.2.1 q n4).trans ((s644.2.2.2.1 q n3).trans ((s630.2.2.2.1 q n2).trans ((s617.2.2.2.1 q n4).trans ((s604.2.2.2.1 q n3).trans ((s591.2.2.2.1 q n2).trans ((s579.2.2.2.1 q n4).trans ((s567.2.2.2.1 q n3).trans ((s555.2.2.2.1 q n2).trans ((s544.2.2.2.1 q n4).trans ((s533.2.2.2.1 q n3).trans ((s522.2.2.2.1 q n2).trans ((s512.2.2.2.1 q n4).trans ((s502.2.2.2.1 q n3).trans ((s492.2.2.2.1 q n2).trans ((s483.2.2.2.1 q n4).trans ((s471.2.2.2.1 q n3).trans ((s460.2.2.2.1 q n2).trans ((s453.2.2.2.1 q n1).trans ((s449.2.2.2.1 q n1).trans ((s445.2.2.2.1 q n1).trans (rfl)))))))))))))))))))))))))))))))))) m871 rfl m867 ⟨_, _, _, rfl, by omega, by omega, by omega, by omega, by omega, by omega, by omega, by omega⟩ m859 six872 m885 six886 ⟨_, m898⟩ s846.2.2.1 ⟨by omega, by omega, by omega, by omega, by omega, by omega⟩ m904 ⟨_, _, _, _, _, rfl, by omega, by omega, by omega, by omega, by omega, by omega, by omega, by omega, by omega, by omega, by omega, by omega, by omega, by omega, by omega, by omega, by omega⟩ m869 ⟨_, rfl, z808.1, z808.2⟩
              exact k0 _ (g_bu g hh c ((1 * c) * c) A686) o h847 ivn ch_gbu oe_rf (by omega) (by omega)
            · refine w_al (fun _ => rfl) (w_getf m12 rfl (fun _ => rfl) (w_il (fun _ => rfl) (w_il (fun _ => rfl) (w_this (fun _ => rfl) m13 (w_cv (fun _ => rfl) rfl (w_run k_315392 (w_al (fun _ => rfl) (w_il (fun _ => rfl) (w_putf [.inl (w_i hh), .inl (w_i (g_C g)), .inl (w_i (g_N g)), .inr (.inl (some 2)), .inr (.inl (some 3)), .inr (.inl (some 4)), .inl (w_i kp13), .inl (w_i sp13), .inl (w_i rl13)] m13 rfl rfl rfl (fun _ => rfl) (fun h906 s905 => ?_))))))))))
              have z908 := s905.1
              have z908y := s905.2.1
              have z908w := s905.2.2.2.2 z20w
              refine w_al (fun _ => rfl) (w_il (fun _ => rfl) (w_putf [.inl (w_i hh), .inl (w_i c), .inl (w_i (g_N g)), .inr (.inl (some 2)), .inr (.inl (some 3)), .inr (.inl (some 4)), .inl (w_i kp13), .inl (w_i sp13), .inl (w_i rl13)] s905.2.2.1 rfl rfl rfl (fun _ => rfl) (fun h910 s909 => ?_)))
              have z912 := s909.1
              have z912y := s909.2.1
              have z912w := s909.2.2.2.2 z908w
              refine w_al (fun _ => rfl) (w_il (fun _ => rfl) (w_il (fun _ => rfl) (w_ca (fun _ => rfl) rfl (w_run k_507904 (w_icI (x := 1) rfl (w_is (fun _ => rfl) (w_icI (x := 0) rfl (w_is (fun _ => rfl) (w_il (fun _ => rfl) (w_il (fun _ => rfl) (w_gef (by omega) (by omega) (by omega) (by omega) (by omega)  (w_il (fun _ => rfl) (w_il (fun _ => rfl) (w_op (c := w_i (1 * c)) (i_mul 1 c) (w_is (fun _ => rfl) (w_inc (c := w_i 1) (fun _ => rfl) (by decide +kernel) (fun _ => rfl) (w_go (w_run k_507908 (w_il (fun _ => rfl) (w_il (fun _ => rfl) (w_gef (by omega) (by omega) (by omega) (by omega) (by omega)  (w_il (fun _ => rfl) (w_il (fun _ => rfl) (w_op (c := w_i ((1 * c) * c)) (i_mul (1 * c) c) (w_is (fun _ => rfl) (w_inc (c := w_i 2) (fun _ => rfl) (by decide +kernel) (fun _ => rfl) (w_go (w_run k_507908 (w_il (fun _ => rfl) (w_il (fun _ => rfl) (w_gef (by omega) (by omega) (by omega) (by omega) (by omega)  (w_il (fun _ => rfl) (w_il (fun _ => rfl) (w_op (c := w_i (((1 * c) * c) * c)) (i_mul ((1 * c) * c) c) (w_is (fun _ => rfl) (w_inc (c := w_i 3) (fun _ => rfl) (by decide +kernel) (fun _ => rfl) (w_go (w_run k_507908 (w_il (fun _ => rfl) (w_il (fun _ => rfl) (w_get (by omega) (by omega) (by omega) (by omega) (by omega)  (w_run k_507923 (w_il (fun _ => rfl) (w_ri ⟨_, rfl, ?_⟩))))))))))))))))))))))))))))))))))))))))))))
              refine w_putf [.inl (w_i hh), .inl (w_i c), .inl (w_i (((1 * c) * c) * c)), .inr (.inl (some 2)), .inr (.inl (some 3)), .inr (.inl (some 4)), .inl (w_i kp13), .inl (w_i sp13), .inl (w_i rl13)] s909.2.2.1 rfl rfl rfl (fun _ => rfl) (fun h914 s913 => ?_)
              have z916 := s913.1
              have z916y := s913.2.1
              have z916w := s913.2.2.2.2 z912w
              refine w_icI (x := 0) rfl (w_is (fun _ => rfl) (w_il (fun _ => rfl) (w_icI (x := 6) rfl (w_gef (by omega) (by omega) (by omega) (by omega) (by omega)  (w_al (fun _ => rfl) (w_getf s913.2.2.1 rfl (fun _ => rfl) (w_il (fun _ => rfl) (w_icI (x := 0) rfl ?_))))))))
              have m917 := st_fr s905 m14 (by decide)
              have m918 := st_fr s909 m917 (by decide)
              have m919 := st_fr s913 m918 (by decide)
              refine w_astI m919 (by omega) (by omega) (by omega) (by omega) (by omega) (fun A922 h921 w923 s920 => ?_)
              have q924 : a_g A922 0 = 0 := (w923 0 (by omega) (by omega)).trans (if_pos rfl)
              have z925 := s920.1
              have z925y := s920.2.1
              have z925w := s920.2.2.2.2 z916w
              refine w_al (fun _ => rfl) ?_
              have m926 := st_fr s920 s913.2.2.1 (by decide)
              refine w_getf m926 rfl (fun _ => rfl) (w_il (fun _ => rfl) (w_il (fun _ => rfl) (w_icI (x := 2) rfl (w_opz (c := w_i 0) (by decide +kernel) (by decide +kernel) ?_))))
              have m927 := st_fr s905 m15 (by decide)
              have m928 := st_fr s909 m927 (by decide)
              have m929 := st_fr s913 m928 (by decide)
              have m930 := st_fr s920 m929 (by decide)
              refine w_astI m930 (by omega) (by omega) (by omega) (by omega) (by omega) (fun A933 h932 w934 s931 => ?_)
              have q935 : a_g A933 0 = 0 := (w934 0 (by omega) (by omega)).trans (if_pos rfl)
              have z936 := s931.1
              have z936y := s931.2.1
              have z936w := s931.2.2.2.2 z925w
              refine w_al (fun _ => rfl) ?_
              have m937 := st_fr s931 m926 (by decide)
              refine w_getf m937 rfl (fun _ => rfl) (w_il (fun _ => rfl) (w_icI (x := (-1)) wn_1 ?_))
              have m938 := st_fr s905 m16 (by decide)
              have m939 := st_fr s909 m938 (by decide)
              have m940 := st_fr s913 m939 (by decide)
              have m941 := st_fr s920 m940 (by decide)
              have m942 := st_fr s931 m941 (by decide)
              refine w_astI m942 (by omega) (by omega) (by omega) (by omega) (by omega) (fun A945 h944 w946 s943 => ?_)
              have q947 : a_g A945 0 = (-1) := (w946 0 (by omega) (by omega)).trans (if_pos rfl)
              have z948 := s943.1
              have z948y := s943.2.1
              have z948w := s943.2.2.2.2 z936w
              refine w_inc (c := w_i 1) (fun _ => rfl) (by decide +kernel) (fun _ => rfl) (w_go (w_run k_315413 (w_il (fun _ => rfl) (w_icI (x := 6) rfl (w_gef (by omega) (by omega) (by omega) (by omega) (by omega)  (w_al (fun _ => rfl) ?_))))))
              have m949 := st_fr s943 m937 (by decide)
              refine w_getf m949 rfl (fun _ => rfl) (w_il (fun _ => rfl) (w_icI (x := 0) rfl ?_))
              have m950 := st_fr s931 s920.2.2.1 (by decide)
              have m951 := st_fr s943 m950 (by decide)
              refine w_astI m951 (by omega) (by omega) (by omega) (by omega) (by omega) (fun A954 h953 w955 s952 => ?_)
              have q956 : a_g A954 0 = 0 := ((w955 0 (by omega) (by omega)).trans (if_neg (by omega))).trans q924
              have q957 : a_g A954 1 = 0 := (w955 1 (by omega) (by omega)).trans (if_pos rfl)
              have z958 := s952.1
              have z958y := s952.2.1
              have z958w := s952.2.2.2.2 z948w
              refine w_al (fun _ => rfl) ?_
              have m959 := st_fr s952 m949 (by decide)
              refine w_getf m959 rfl (fun _ => rfl) (w_il (fun _ => rfl) (w_il (fun _ => rfl) (w_icI (x := 2) rfl (w_opz (c := w_i 1) (by decide +kernel) (by decide +kernel) ?_))))
              have m960 := st_fr s943 s931.2.2.1 (by decide)
              have m961 := st_fr s952 m960 (by decide)
              refine w_astI m961 (by omega) (by omega) (by omega) (by omega) (by omega) (fun A964 h963 w965 s962 => ?_)
              have q966 : a_g A964 0 = 0 := ((w965 0 (by omega) (by omega)).trans (if_neg (by omega))).trans q935
              have q967 : a_g A964 1 = 1 := (w965 1 (by omega) (by omega)).trans (if_pos rfl)
              have z968 := s962.1
              have z968y := s962.2.1
              have z968w := s962.2.2.2.2 z958w
              refine w_al (fun _ => rfl) ?_
              have m969 := st_fr s962 m959 (by decide)
              refine w_getf m969 rfl (fun _ => rfl) (w_il (fun _ => rfl) (w_icI (x := (-1)) wn_1 ?_))
              have m970 := st_fr s952 s943.2.2.1 (by decide)
              have m971 := st_fr s962 m970 (by decide)
              refine w_astI m971 (by omega) (by omega) (by omega) (by omega) (by omega) (fun A974 h973 w975 s972 => ?_)
              have q976 : a_g A974 0 = (-1) := ((w975 0 (by omega) (by omega)).trans (if_neg (by omega))).trans q947
              have q977 : a_g A974 1 = (-1) := (w975 1 (by omega) (by omega)).trans (if_pos rfl)
              have z978 := s972.1
              have z978y := s972.2.1
              have z978w := s972.2.2.2.2 z968w
              refine w_inc (c := w_i 2) (fun _ => rfl) (by decide +kernel) (fun _ => rfl) (w_go (w_run k_315413 (w_il (fun _ => rfl) (w_icI (x := 6) rfl (w_gef (by omega) (by omega) (by omega) (by omega) (by omega)  (w_al (fun _ => rfl) ?_))))))
              have m979 := st_fr s972 m969 (by decide)
              refine w_getf m979 rfl (fun _ => rfl) (w_il (fun _ => rfl) (w_icI (x := 0) rfl ?_))
              have m980 := st_fr s962 s952.2.2.1 (by decide)
              have m981 := st_fr s972 m980 (by decide)
              refine w_astI m981 (by omega) (by omega) (by omega) (by omega) (by omega) (fun A984 h983 w985 s982 => ?_)
              have q986 : a_g A984 0 = 0 := ((w985 0 (by omega) (by omega)).trans (if_neg (by omega))).trans q956
              have q987 : a_g A984 1 = 0 := ((w985 1 (by omega) (by omega)).trans (if_neg (by omega))).trans q957
              have q988 : a_g A984 2 = 0 := (w985 2 (by omega) (by omega)).trans (if_pos rfl)
              have z989 := s982.1
              have z989y := s982.2.1
              have z989w := s982.2.2.2.2 z978w
              refine w_al (fun _ => rfl) ?_
              have m990 := st_fr s982 m979 (by decide)
              refine w_getf m990 rfl (fun _ => rfl) (w_il (fun _ => rfl) (w_il (fun _ => rfl) (w_icI (x := 2) rfl (w_opz (c := w_i 0) (by decide +kernel) (by decide +kernel) ?_))))
              have m991 := st_fr s972 s962.2.2.1 (by decide)
              have m992 := st_fr s982 m991 (by decide)
              refine w_astI m992 (by omega) (by omega) (by omega) (by omega) (by omega) (fun A995 h994 w996 s993 => ?_)
              have q997 : a_g A995 0 = 0 := ((w996 0 (by omega) (by omega)).trans (if_neg (by omega))).trans q966
              have q998 : a_g A995 1 = 1 := ((w996 1 (by omega) (by omega)).trans (if_neg (by omega))).trans q967
              have q999 : a_g A995 2 = 0 := (w996 2 (by omega) (by omega)).trans (if_pos rfl)
              have z1000 := s993.1
              have z1000y := s993.2.1
              have z1000w := s993.2.2.2.2 z989w
              refine w_al (fun _ => rfl) ?_
              have m1001 := st_fr s993 m990 (by decide)
              refine w_getf m1001 rfl (fun _ => rfl) (w_il (fun _ => rfl) (w_icI (x := (-1)) wn_1 ?_))
              have m1002 := st_fr s982 s972.2.2.1 (by decide)
              have m1003 := st_fr s993 m1002 (by decide)
              refine w_astI m1003 (by omega) (by omega) (by omega) (by omega) (by omega) (fun A1006 h1005 w1007 s1004 => ?_)
              have q1008 : a_g A1006 0 = (-1) := ((w1007 0 (by omega) (by omega)).trans (if_neg (by omega))).trans q976
              have q1009 : a_g A1006 1 = (-1) := ((w1007 1 (by omega) (by omega)).trans (if_neg (by omega))).trans q977
              have q1010 : a_g A1006 2 = (-1) := (w1007 2 (by omega) (by omega)).trans (if_pos rfl)
              have z1011 := s1004.1
              have z1011y := s1004.2.1
              have z1011w := s1004.2.2.2.2 z1000w
              refine w_inc (c := w_i 3) (fun _ => rfl) (by decide +kernel) (fun _ => rfl) (w_go (w_run k_315413 (w_il (fun _ => rfl) (w_icI (x := 6) rfl (w_gef (by omega) (by omega) (by omega) (by omega) (by omega)  (w_al (fun _ => rfl) ?_))))))
              have m1012 := st_fr s1004 m1001 (by decide)
              refine w_getf m1012 rfl (fun _ => rfl) (w_il (fun _ => rfl) (w_icI (x := 0) rfl ?_))
              have m1013 := st_fr s993 s982.2.2.1 (by decide)
              have m1014 := st_fr s1004 m1013 (by decide)
              refine w_astI m1014 (by omega) (by omega) (by omega) (by omega) (by omega) (fun A1017 h1016 w1018 s1015 => ?_)
              have q1019 : a_g A1017 0 = 0 := ((w1018 0 (by omega) (by omega)).trans (if_neg (by omega))).trans q986
              have q1020 : a_g A1017 1 = 0 := ((w1018 1 (by omega) (by omega)).trans (if_neg (by omega))).trans q987
              have q1021 : a_g A1017 2 = 0 := ((w1018 2 (by omega) (by omega)).trans (if_neg (by omega))).trans q988
              have q1022 : a_g A1017 3 = 0 := (w1018 3 (by omega) (by omega)).trans (if_pos rfl)
              have z1023 := s1015.1
              have z1023y := s1015.2.1
              have z1023w := s1015.2.2.2.2 z1011w
              refine w_al (fun _ => rfl) ?_
              have m1024 := st_fr s1015 m1012 (by decide)
              refine w_getf m1024 rfl (fun _ => rfl) (w_il (fun _ => rfl) (w_il (fun _ => rfl) (w_icI (x := 2) rfl (w_opz (c := w_i 1) (by decide +kernel) (by decide +kernel) ?_))))
              have m1025 := st_fr s1004 s993.2.2.1 (by decide)
              have m1026 := st_fr s1015 m1025 (by decide)
              refine w_astI m1026 (by omega) (by omega) (by omega) (by omega) (by omega) (fun A1029 h1028 w1030 s1027 => ?_)
              have q1031 : a_g A1029 0 = 0 := ((w1030 0 (by omega) (by omega)).trans (if_neg (by omega))).trans q997
              have q1032 : a_g A1029 1 = 1 := ((w1030 1 (by omega) (by omega)).trans (if_neg (by omega))).trans q998
              have q1033 : a_g A1029 2 = 0 := ((w1030 2 (by omega) (by omega)).trans (if_neg (by omega))).trans q999
              have q1034 : a_g A1029 3 = 1 := (w1030 3 (by omega) (by omega)).trans (if_pos rfl)
              have z1035 := s1027.1
              have z1035y := s1027.2.1
              have z1035w := s1027.2.2.2.2 z1023w
              refine w_al (fun _ => rfl) ?_
              have m1036 := st_fr s1027 m1024 (by decide)
              refine w_getf m1036 rfl (fun _ => rfl) (w_il (fun _ => rfl) (w_icI (x := (-1)) wn_1 ?_))
              have m1037 := st_fr s1015 s1004.2.2.1 (by decide)
              have m1038 := st_fr s1027 m1037 (by decide)
              refine w_astI m1038 (by omega) (by omega) (by omega) (by omega) (by omega) (fun A1041 h1040 w1042 s1039 => ?_)
              have q1043 : a_g A1041 0 = (-1) := ((w1042 0 (by omega) (by omega)).trans (if_neg (by omega))).trans q1008
              have q1044 : a_g A1041 1 = (-1) := ((w1042 1 (by omega) (by omega)).trans (if_neg (by omega))).trans q1009
              have q1045 : a_g A1041 2 = (-1) := ((w1042 2 (by omega) (by omega)).trans (if_neg (by omega))).trans q1010
              have q1046 : a_g A1041 3 = (-1) := (w1042 3 (by omega) (by omega)).trans (if_pos rfl)
              have z1047 := s1039.1
              have z1047y := s1039.2.1
              have z1047w := s1039.2.2.2.2 z1035w
              refine w_inc (c := w_i 4) (fun _ => rfl) (by decide +kernel) (fun _ => rfl) (w_go (w_run k_315413 (w_il (fun _ => rfl) (w_icI (x := 6) rfl (w_gef (by omega) (by omega) (by omega) (by omega) (by omega)  (w_al (fun _ => rfl) ?_))))))
              have m1048 := st_fr s1039 m1036 (by decide)
              refine w_getf m1048 rfl (fun _ => rfl) (w_il (fun _ => rfl) (w_icI (x := 0) rfl ?_))
              have m1049 := st_fr s1027 s1015.2.2.1 (by decide)
              have m1050 := st_fr s1039 m1049 (by decide)
              refine w_astI m1050 (by omega) (by omega) (by omega) (by omega) (by omega) (fun A1053 h1052 w1054 s1051 => ?_)
              have q1055 : a_g A1053 0 = 0 := ((w1054 0 (by omega) (by omega)).trans (if_neg (by omega))).trans q1019
              have q1056 : a_g A1053 1 = 0 := ((w1054 1 (by omega) (by omega)).trans (if_neg (by omega))).trans q1020
              have q1057 : a_g A1053 2 = 0 := ((w1054 2 (by omega) (by omega)).trans (if_neg (by omega))).trans q1021
              have q1058 : a_g A1053 3 = 0 := ((w1054 3 (by omega) (by omega)).trans (if_neg (by omega))).trans q1022
              have q1059 : a_g A1053 4 = 0 := (w1054 4 (by omega) (by omega)).trans (if_pos rfl)
              have z1060 := s1051.1
              have z1060y := s1051.2.1
              have z1060w := s1051.2.2.2.2 z1047w
              refine w_al (fun _ => rfl) ?_
              have m1061 := st_fr s1051 m1048 (by decide)
              refine w_getf m1061 rfl (fun _ => rfl) (w_il (fun _ => rfl) (w_il (fun _ => rfl) (w_icI (x := 2) rfl (w_opz (c := w_i 0) (by decide +kernel) (by decide +kernel) ?_))))
              have m1062 := st_fr s1039 s1027.2.2.1 (by decide)
              have m1063 := st_fr s1051 m1062 (by decide)
              refine w_astI m1063 (by omega) (by omega) (by omega) (by omega) (by omega) (fun A1066 h1065 w1067 s1064 => ?_)
              have q1068 : a_g A1066 0 = 0 := ((w1067 0 (by omega) (by omega)).trans (if_neg (by omega))).trans q1031
              have q1069 : a_g A1066 1 = 1 := ((w1067 1 (by omega) (by omega)).trans (if_neg (by omega))).trans q1032
              have q1070 : a_g A1066 2 = 0 := ((w1067 2 (by omega) (by omega)).trans (if_neg (by omega))).trans q1033
              have q1071 : a_g A1066 3 = 1 := ((w1067 3 (by omega) (by omega)).trans (if_neg (by omega))).trans q1034
              have q1072 : a_g A1066 4 = 0 := (w1067 4 (by omega) (by omega)).trans (if_pos rfl)
              have z1073 := s1064.1
              have z1073y := s1064.2.1
              have z1073w := s1064.2.2.2.2 z1060w
              refine w_al (fun _ => rfl) ?_
              have m1074 := st_fr s1064 m1061 (by decide)
              refine w_getf m1074 rfl (fun _ => rfl) (w_il (fun _ => rfl) (w_icI (x := (-1)) wn_1 ?_))
              have m1075 := st_fr s1051 s1039.2.2.1 (by decide)
              have m1076 := st_fr s1064 m1075 (by decide)
              refine w_astI m1076 (by omega) (by omega) (by omega) (by omega) (by omega) (fun A1079 h1078 w1080 s1077 => ?_)
              have q1081 : a_g A1079 0 = (-1) := ((w1080 0 (by omega) (by omega)).trans (if_neg (by omega))).trans q1043
              have q1082 : a_g A1079 1 = (-1) := ((w1080 1 (by omega) (by omega)).trans (if_neg (by omega))).trans q1044
              have q1083 : a_g A1079 2 = (-1) := ((w1080 2 (by omega) (by omega)).trans (if_neg (by omega))).trans q1045
              have q1084 : a_g A1079 3 = (-1) := ((w1080 3 (by omega) (by omega)).trans (if_neg (by omega))).trans q1046
              have q1085 : a_g A1079 4 = (-1) := (w1080 4 (by omega) (by omega)).trans (if_pos rfl)
              have z1086 := s1077.1
              have z1086y := s1077.2.1
              have z1086w := s1077.2.2.2.2 z1073w
              refine w_inc (c := w_i 5) (fun _ => rfl) (by decide +kernel) (fun _ => rfl) (w_go (w_run k_315413 (w_il (fun _ => rfl) (w_icI (x := 6) rfl (w_gef (by omega) (by omega) (by omega) (by omega) (by omega)  (w_al (fun _ => rfl) ?_))))))
              have m1087 := st_fr s1077 m1074 (by decide)
              refine w_getf m1087 rfl (fun _ => rfl) (w_il (fun _ => rfl) (w_icI (x := 0) rfl ?_))
              have m1088 := st_fr s1064 s1051.2.2.1 (by decide)
              have m1089 := st_fr s1077 m1088 (by decide)
              refine w_astI m1089 (by omega) (by omega) (by omega) (by omega) (by omega) (fun A1092 h1091 w1093 s1090 => ?_)
              have q1094 : a_g A1092 0 = 0 := ((w1093 0 (by omega) (by omega)).trans (if_neg (by omega))).trans q1055
              have q1095 : a_g A1092 1 = 0 := ((w1093 1 (by omega) (by omega)).trans (if_neg (by omega))).trans q1056
              have q1096 : a_g A1092 2 = 0 := ((w1093 2 (by omega) (by omega)).trans (if_neg (by omega))).trans q1057
              have q1097 : a_g A1092 3 = 0 := ((w1093 3 (by omega) (by omega)).trans (if_neg (by omega))).trans q1058
              have q1098 : a_g A1092 4 = 0 := ((w1093 4 (by omega) (by omega)).trans (if_neg (by omega))).trans q1059
              have q1099 : a_g A1092 5 = 0 := (w1093 5 (by omega) (by omega)).trans (if_pos rfl)
              have z1100 := s1090.1
              have z1100y := s1090.2.1
              have z1100w := s1090.2.2.2.2 z1086w
              refine w_al (fun _ => rfl) ?_
              have m1101 := st_fr s1090 m1087 (by decide)
              refine w_getf m1101 rfl (fun _ => rfl) (w_il (fun _ => rfl) (w_il (fun _ => rfl) (w_icI (x := 2) rfl (w_opz (c := w_i 1) (by decide +kernel) (by decide +kernel) ?_))))
              have m1102 := st_fr s1077 s1064.2.2.1 (by decide)
              have m1103 := st_fr s1090 m1102 (by decide)
              refine w_astI m1103 (by omega) (by omega) (by omega) (by omega) (by omega) (fun A1106 h1105 w1107 s1104 => ?_)
              have q1108 : a_g A1106 0 = 0 := ((w1107 0 (by omega) (by omega)).trans (if_neg (by omega))).trans q1068
              have q1109 : a_g A1106 1 = 1 := ((w1107 1 (by omega) (by omega)).trans (if_neg (by omega))).trans q1069
              have q1110 : a_g A1106 2 = 0 := ((w1107 2 (by omega) (by omega)).trans (if_neg (by omega))).trans q1070
              have q1111 : a_g A1106 3 = 1 := ((w1107 3 (by omega) (by omega)).trans (if_neg (by omega))).trans q1071
              have q1112 : a_g A1106 4 = 0 := ((w1107 4 (by omega) (by omega)).trans (if_neg (by omega))).trans q1072
              have q1113 : a_g A1106 5 = 1 := (w1107 5 (by omega) (by omega)).trans (if_pos rfl)
              have z1114 := s1104.1
              have z1114y := s1104.2.1
              have z1114w := s1104.2.2.2.2 z1100w
              refine w_al (fun _ => rfl) ?_
              have m1115 := st_fr s1104 m1101 (by decide)
              refine w_getf m1115 rfl (fun _ => rfl) (w_il (fun _ => rfl) (w_icI (x := (-1)) wn_1 ?_))
              have m1116 := st_fr s1090 s1077.2.2.1 (by decide)
              have m1117 := st_fr s1104 m1116 (by decide)
              refine w_astI m1117 (by omega) (by omega) (by omega) (by omega) (by omega) (fun A1120 h1119 w1121 s1118 => ?_)
              have q1122 : a_g A1120 0 = (-1) := ((w1121 0 (by omega) (by omega)).trans (if_neg (by omega))).trans q1081
              have q1123 : a_g A1120 1 = (-1) := ((w1121 1 (by omega) (by omega)).trans (if_neg (by omega))).trans q1082
              have q1124 : a_g A1120 2 = (-1) := ((w1121 2 (by omega) (by omega)).trans (if_neg (by omega))).trans q1083
              have q1125 : a_g A1120 3 = (-1) := ((w1121 3 (by omega) (by omega)).trans (if_neg (by omega))).trans q1084
              have q1126 : a_g A1120 4 = (-1) := ((w1121 4 (by omega) (by omega)).trans (if_neg (by omega))).trans q1085
              have q1127 : a_g A1120 5 = (-1) := (w1121 5 (by omega) (by omega)).trans (if_pos rfl)
              have z1128 := s1118.1
              have z1128y := s1118.2.1
              have z1128w := s1118.2.2.2.2 z1114w
              refine w_inc (c := w_i 6) (fun _ => rfl) (by decide +kernel) (fun _ => rfl) (w_go (w_run k_315413 (w_il (fun _ => rfl) (w_icI (x := 6) rfl (w_get (by omega) (by omega) (by omega) (by omega) (by omega)  (w_run k_315448 (w_icI (x := 0) rfl (w_is (fun _ => rfl) (w_il (fun _ => rfl) (w_icI (x := 1) rfl (w_op (c := w_i 1) (by decide +kernel) (w_il (fun _ => rfl) (w_gef (by omega) (by omega) (by omega) (by omega) (by omega)  (w_al (fun _ => rfl) (w_il (fun _ => rfl) (w_il (fun _ => rfl) (w_icI (x := 1) rfl (w_op (c := w_i 1) (by decide +kernel) (w_icI (x := 1) rfl ?_)))))))))))))))))))
              have m1129 := st_fr s1118 m1115 (by decide)
              refine w_this (fun _ => rfl) m1129 (w_cv (fun _ => rfl) rfl (w_run k_323584 (w_al (fun _ => rfl) (w_getf m1129 rfl (fun _ => rfl) (w_il (fun _ => rfl) (w_al (fun _ => rfl) (w_getf m1129 rfl (fun _ => rfl) (w_il (fun _ => rfl) ?_))))))))
              have m1130 := st_fr s1104 s1090.2.2.1 (by decide)
              have m1131 := st_fr s1118 m1130 (by decide)
              refine w_aldI m1131 (by omega) (by omega) (by omega) ?_
              rw [q1094]
              refine w_icI (x := 1) rfl (w_il (fun _ => rfl) (w_op (c := w_i 2) (by decide +kernel) (w_icI (x := (-1)) wn_1 (w_op (c := w_i (-3)) (by decide +kernel) (w_op (c := w_i 0) (by decide +kernel) (w_il (fun _ => rfl) (w_eqzf (by omega) (by omega) (by omega)  (w_icI (x := 1) rfl (w_il (fun _ => rfl) (w_op (c := w_i 2) (by decide +kernel) (w_go (w_run k_323612 (w_op (c := w_i 2) (by decide +kernel) (w_astI m1131 (by omega) (by omega) (by omega) (by omega) (by omega) (fun A1134 h1133 w1135 s1132 => ?_)))))))))))))))
              have q1136 : a_g A1134 0 = 2 := (w1135 0 (by omega) (by omega)).trans (if_pos rfl)
              have q1137 : a_g A1134 1 = 0 := ((w1135 1 (by omega) (by omega)).trans (if_neg (by omega))).trans q1095
              have q1138 : a_g A1134 2 = 0 := ((w1135 2 (by omega) (by omega)).trans (if_neg (by omega))).trans q1096
              have q1139 : a_g A1134 3 = 0 := ((w1135 3 (by omega) (by omega)).trans (if_neg (by omega))).trans q1097
              have q1140 : a_g A1134 4 = 0 := ((w1135 4 (by omega) (by omega)).trans (if_neg (by omega))).trans q1098
              have q1141 : a_g A1134 5 = 0 := ((w1135 5 (by omega) (by omega)).trans (if_neg (by omega))).trans q1099
              have z1142 := s1132.1
              have z1142y := s1132.2.1
              have z1142w := s1132.2.2.2.2 z1128w
              refine w_al (fun _ => rfl) ?_
              have m1143 := st_fr s1132 m1129 (by decide)
              refine w_getf m1143 rfl (fun _ => rfl) (w_il (fun _ => rfl) (w_al (fun _ => rfl) (w_getf m1143 rfl (fun _ => rfl) (w_il (fun _ => rfl) (w_aldI s1132.2.2.1 (by omega) (by omega) (by omega) ?_)))))
              rw [q1137]
              refine w_icI (x := 1) rfl (w_il (fun _ => rfl) (w_op (c := w_i 1) (by decide +kernel) (w_icI (x := (-1)) wn_1 (w_op (c := w_i (-2)) (by decide +kernel) (w_op (c := w_i 0) (by decide +kernel) (w_il (fun _ => rfl) (w_eqzf (by omega) (by omega) (by omega)  (w_icI (x := 1) rfl (w_il (fun _ => rfl) (w_op (c := w_i 1) (by decide +kernel) (w_go (w_run k_323642 (w_op (c := w_i 1) (by decide +kernel) (w_astI s1132.2.2.1 (by omega) (by omega) (by omega) (by omega) (by omega) (fun A1146 h1145 w1147 s1144 => ?_)))))))))))))))
              have q1148 : a_g A1146 0 = 2 := ((w1147 0 (by omega) (by omega)).trans (if_neg (by omega))).trans q1136
              have q1149 : a_g A1146 1 = 1 := (w1147 1 (by omega) (by omega)).trans (if_pos rfl)
              have q1150 : a_g A1146 2 = 0 := ((w1147 2 (by omega) (by omega)).trans (if_neg (by omega))).trans q1138
              have q1151 : a_g A1146 3 = 0 := ((w1147 3 (by omega) (by omega)).trans (if_neg (by omega))).trans q1139
              have q1152 : a_g A1146 4 = 0 := ((w1147 4 (by omega) (by omega)).trans (if_neg (by omega))).trans q1140
              have q1153 : a_g A1146 5 = 0 := ((w1147 5 (by omega) (by omega)).trans (if_neg (by omega))).trans q1141
              have z1154 := s1144.1
              have z1154y := s1144.2.1
              have z1154w := s1144.2.2.2.2 z1142w
              refine w_rv ⟨rfl, ?_⟩
              refine w_inc (c := w_i 1) (fun _ => rfl) (by decide +kernel) (fun _ => rfl) (w_go (w_run k_315450 (w_il (fun _ => rfl) (w_icI (x := 1) rfl (w_op (c := w_i 2) (by decide +kernel) (w_il (fun _ => rfl) (w_gef (by omega) (by omega) (by omega) (by omega) (by omega)  (w_al (fun _ => rfl) (w_il (fun _ => rfl) (w_il (fun _ => rfl) (w_icI (x := 1) rfl (w_op (c := w_i 2) (by decide +kernel) (w_icI (x := 1) rfl ?_)))))))))))))
              have m1155 := st_fr s1144 m1143 (by decide)
              refine w_this (fun _ => rfl) m1155 (w_cv (fun _ => rfl) rfl (w_run k_323584 (w_al (fun _ => rfl) (w_getf m1155 rfl (fun _ => rfl) (w_il (fun _ => rfl) (w_al (fun _ => rfl) (w_getf m1155 rfl (fun _ => rfl) (w_il (fun _ => rfl) (w_aldI s1144.2.2.1 (by omega) (by omega) (by omega) ?_)))))))))
              rw [q1149]
              refine w_icI (x := 1) rfl (w_il (fun _ => rfl) (w_op (c := w_i 4) (by decide +kernel) (w_icI (x := (-1)) wn_1 (w_op (c := w_i (-5)) (by decide +kernel) (w_op (c := w_i 1) (by decide +kernel) (w_il (fun _ => rfl) (w_eqzf (by omega) (by omega) (by omega)  (w_icI (x := 1) rfl (w_il (fun _ => rfl) (w_op (c := w_i 4) (by decide +kernel) (w_go (w_run k_323612 (w_op (c := w_i 5) (by decide +kernel) (w_astI s1144.2.2.1 (by omega) (by omega) (by omega) (by omega) (by omega) (fun A1158 h1157 w1159 s1156 => ?_)))))))))))))))
              have q1160 : a_g A1158 0 = 2 := ((w1159 0 (by omega) (by omega)).trans (if_neg (by omega))).trans q1148
              have q1161 : a_g A1158 1 = 5 := (w1159 1 (by omega) (by omega)).trans (if_pos rfl)
              have q1162 : a_g A1158 2 = 0 := ((w1159 2 (by omega) (by omega)).trans (if_neg (by omega))).trans q1150
              have q1163 : a_g A1158 3 = 0 := ((w1159 3 (by omega) (by omega)).trans (if_neg (by omega))).trans q1151
              have q1164 : a_g A1158 4 = 0 := ((w1159 4 (by omega) (by omega)).trans (if_neg (by omega))).trans q1152
              have q1165 : a_g A1158 5 = 0 := ((w1159 5 (by omega) (by omega)).trans (if_neg (by omega))).trans q1153
              have z1166 := s1156.1
              have z1166y := s1156.2.1
              have z1166w := s1156.2.2.2.2 z1154w
              refine w_al (fun _ => rfl) ?_
              have m1167 := st_fr s1156 m1155 (by decide)
              refine w_getf m1167 rfl (fun _ => rfl) (w_il (fun _ => rfl) (w_al (fun _ => rfl) (w_getf m1167 rfl (fun _ => rfl) (w_il (fun _ => rfl) (w_aldI s1156.2.2.1 (by omega) (by omega) (by omega) ?_)))))
              rw [q1162]
              refine w_icI (x := 1) rfl (w_il (fun _ => rfl) (w_op (c := w_i 2) (by decide +kernel) (w_icI (x := (-1)) wn_1 (w_op (c := w_i (-3)) (by decide +kernel) (w_op (c := w_i 0) (by decide +kernel) (w_il (fun _ => rfl) (w_eqzf (by omega) (by omega) (by omega)  (w_icI (x := 1) rfl (w_il (fun _ => rfl) (w_op (c := w_i 2) (by decide +kernel) (w_go (w_run k_323642 (w_op (c := w_i 2) (by decide +kernel) (w_astI s1156.2.2.1 (by omega) (by omega) (by omega) (by omega) (by omega) (fun A1170 h1169 w1171 s1168 => ?_)))))))))))))))
              have q1172 : a_g A1170 0 = 2 := ((w1171 0 (by omega) (by omega)).trans (if_neg (by omega))).trans q1160
              have q1173 : a_g A1170 1 = 5 := ((w1171 1 (by omega) (by omega)).trans (if_neg (by omega))).trans q1161
              have q1174 : a_g A1170 2 = 2 := (w1171 2 (by omega) (by omega)).trans (if_pos rfl)
              have q1175 : a_g A1170 3 = 0 := ((w1171 3 (by omega) (by omega)).trans (if_neg (by omega))).trans q1163
              have q1176 : a_g A1170 4 = 0 := ((w1171 4 (by omega) (by omega)).trans (if_neg (by omega))).trans q1164
              have q1177 : a_g A1170 5 = 0 := ((w1171 5 (by omega) (by omega)).trans (if_neg (by omega))).trans q1165
              have z1178 := s1168.1
              have z1178y := s1168.2.1
              have z1178w := s1168.2.2.2.2 z1166w
              refine w_rv ⟨rfl, ?_⟩
              refine w_inc (c := w_i 2) (fun _ => rfl) (by decide +kernel) (fun _ => rfl) (w_go (w_run k_315450 (w_il (fun _ => rfl) (w_icI (x := 1) rfl (w_op (c := w_i 3) (by decide +kernel) (w_il (fun _ => rfl) (w_get (by omega) (by omega) (by omega) (by omega) (by omega)  (w_run k_315472 (w_al (fun _ => rfl) (w_icI (x := 0) rfl ?_))))))))))
              have m1179 := st_fr s1168 m1167 (by decide)
              refine w_putf [.inl (w_i hh), .inl (w_i c), .inl (w_i (((1 * c) * c) * c)), .inr (.inl (some 2)), .inr (.inl (some 3)), .inr (.inl (some 4)), .inl (w_i 0), .inl (w_i sp13), .inl (w_i rl13)] m1179 rfl rfl rfl (fun _ => rfl) (fun h1181 s1180 => ?_)
              have z1183 := s1180.1
              have z1183y := s1180.2.1
              have z1183w := s1180.2.2.2.2 z1178w
              refine w_al (fun _ => rfl) (w_icI (x := 0) rfl (w_putf [.inl (w_i hh), .inl (w_i c), .inl (w_i (((1 * c) * c) * c)), .inr (.inl (some 2)), .inr (.inl (some 3)), .inr (.inl (some 4)), .inl (w_i 0), .inl (w_i 0), .inl (w_i rl13)] s1180.2.2.1 rfl rfl rfl (fun _ => rfl) (fun h1185 s1184 => ?_)))
              have z1187 := s1184.1
              have z1187y := s1184.2.1
              have z1187w := s1184.2.2.2.2 z1183w
              refine w_rv ⟨rfl, ?_⟩
              refine w_al (fun _ => rfl) (w_icI (x := 0) rfl ?_)
              have m1188 := st_fr s905 m12 (by decide)
              have m1189 := st_fr s909 m1188 (by decide)
              have m1190 := st_fr s913 m1189 (by decide)
              have m1191 := st_fr s920 m1190 (by decide)
              have m1192 := st_fr s931 m1191 (by decide)
              have m1193 := st_fr s943 m1192 (by decide)
              have m1194 := st_fr s952 m1193 (by decide)
              have m1195 := st_fr s962 m1194 (by decide)
              have m1196 := st_fr s972 m1195 (by decide)
              have m1197 := st_fr s982 m1196 (by decide)
              have m1198 := st_fr s993 m1197 (by decide)
              have m1199 := st_fr s1004 m1198 (by decide)
              have m1200 := st_fr s1015 m1199 (by decide)
              have m1201 := st_fr s1027 m1200 (by decide)
              have m1202 := st_fr s1039 m1201 (by decide)
              have m1203 := st_fr s1051 m1202 (by decide)
              have m1204 := st_fr s1064 m1203 (by decide)
              have m1205 := st_fr s1077 m1204 (by decide)
              have m1206 := st_fr s1090 m1205 (by decide)
              have m1207 := st_fr s1104 m1206 (by decide)
              have m1208 := st_fr s1118 m1207 (by decide)
              have m1209 := st_fr s1132 m1208 (by decide)
              have m1210 := st_fr s1144 m1209 (by decide)
              have m1211 := st_fr s1156 m1210 (by decide)
              have m1212 := st_fr s1168 m1211 (by decide)
              have m1213 := st_fr s1180 m1212 (by decide)
              have m1214 := st_fr s1184 m1213 (by decide)
              refine w_putf [.inr (.inl (some 1)), .inr (.inl (some 5)), .inl (w_i 0), .inr (.inl (some 9)), .inr (.inl (some 17)), .inl (w_i (g_np g)), .inr (.inl (some 18)), .inr (.inl (some 23)), .inl (w_i (g_nt g)), .inr (.inl (some 24)), .inr (.inl (some 25)), .inr (.inl (some 26)), .inr (.inl (some 27))] m1214 rfl rfl rfl (fun _ => rfl) (fun h1216 s1215 => ?_)
              have z1218 := s1215.1
              have z1218y := s1215.2.1
              have z1218w := s1215.2.2.2.2 z1187w
              refine w_al (fun _ => rfl) (w_getf s1215.2.2.1 rfl (fun _ => rfl) ?_)
              have m1219 := st_fr s905 m18 (by decide)
              have m1220 := st_fr s909 m1219 (by decide)
              have m1221 := st_fr s913 m1220 (by decide)
              have m1222 := st_fr s920 m1221 (by decide)
              have m1223 := st_fr s931 m1222 (by decide)
              have m1224 := st_fr s943 m1223 (by decide)
              have m1225 := st_fr s952 m1224 (by decide)
              have m1226 := st_fr s962 m1225 (by decide)
              have m1227 := st_fr s972 m1226 (by decide)
              have m1228 := st_fr s982 m1227 (by decide)
              have m1229 := st_fr s993 m1228 (by decide)
              have m1230 := st_fr s1004 m1229 (by decide)
              have m1231 := st_fr s1015 m1230 (by decide)
              have m1232 := st_fr s1027 m1231 (by decide)
              have m1233 := st_fr s1039 m1232 (by decide)
              have m1234 := st_fr s1051 m1233 (by decide)
              have m1235 := st_fr s1064 m1234 (by decide)
              have m1236 := st_fr s1077 m1235 (by decide)
              have m1237 := st_fr s1090 m1236 (by decide)
              have m1238 := st_fr s1104 m1237 (by decide)
              have m1239 := st_fr s1118 m1238 (by decide)
              have m1240 := st_fr s1132 m1239 (by decide)
              have m1241 := st_fr s1144 m1240 (by decide)
              have m1242 := st_fr s1156 m1241 (by decide)
              have m1243 := st_fr s1168 m1242 (by decide)
              have m1244 := st_fr s1180 m1243 (by decide)
              have m1245 := st_fr s1184 m1244 (by decide)
              have m1246 := st_fr s1215 m1245 (by decide)
              refine w_this (fun _ => rfl) m1246 (w_cv (fun _ => rfl) rfl (w_run k_57344 (w_al (fun _ => rfl) (w_icI (x := 0) rfl (w_putf [.inr (.inl (some 19)), .inl (w_i 0), .inr (.inl (some 20)), .inr (.inl (some 21)), .inl (w_i atp18), .inl (w_i tok18), .inl (w_i flt18), .inr (.inl (some 22)), .inl (w_i wri18)] m1246 rfl rfl rfl (fun _ => rfl) (fun h1248 s1247 => ?_))))))
              have z1250 := s1247.1
              have z1250y := s1247.2.1
              have z1250w := s1247.2.2.2.2 z1218w
              refine w_rv ⟨rfl, ?_⟩
              refine w_icI (x := 0) rfl (w_is (fun _ => rfl) (w_il (fun _ => rfl) (w_icI (x := 4) rfl (w_gef (by omega) (by omega) (by omega) (by omega) (by omega)  (w_al (fun _ => rfl) ?_)))))
              have m1251 := st_fr s1247 s1215.2.2.1 (by decide)
              refine w_getf m1251 rfl (fun _ => rfl) (w_il (fun _ => rfl) (w_nul ?_))
              have m1252 := st_fr s905 m19 (by decide)
              have m1253 := st_fr s909 m1252 (by decide)
              have m1254 := st_fr s913 m1253 (by decide)
              have m1255 := st_fr s920 m1254 (by decide)
              have m1256 := st_fr s931 m1255 (by decide)
              have m1257 := st_fr s943 m1256 (by decide)
              have m1258 := st_fr s952 m1257 (by decide)
              have m1259 := st_fr s962 m1258 (by decide)
              have m1260 := st_fr s972 m1259 (by decide)
              have m1261 := st_fr s982 m1260 (by decide)
              have m1262 := st_fr s993 m1261 (by decide)
              have m1263 := st_fr s1004 m1262 (by decide)
              have m1264 := st_fr s1015 m1263 (by decide)
              have m1265 := st_fr s1027 m1264 (by decide)
              have m1266 := st_fr s1039 m1265 (by decide)
              have m1267 := st_fr s1051 m1266 (by decide)
              have m1268 := st_fr s1064 m1267 (by decide)
              have m1269 := st_fr s1077 m1268 (by decide)
              have m1270 := st_fr s1090 m1269 (by decide)
              have m1271 := st_fr s1104 m1270 (by decide)
              have m1272 := st_fr s1118 m1271 (by decide)
              have m1273 := st_fr s1132 m1272 (by decide)
              have m1274 := st_fr s1144 m1273 (by decide)
              have m1275 := st_fr s1156 m1274 (by decide)
              have m1276 := st_fr s1168 m1275 (by decide)
              have m1277 := st_fr s1180 m1276 (by decide)
              have m1278 := st_fr s1184 m1277 (by decide)
              have m1279 := st_fr s1215 m1278 (by decide)
              have m1280 := st_fr s1247 m1279 (by decide)
              refine w_aastI m1280 (by omega) (by omega) (by decide) isC_no (fun h1282 s1281 => ?_)
              have z1283 := set_no (j := (0).toNat) lp19 ll19 (Or.inl rfl)
              have z1284 := s1281.1
              have z1284y := s1281.2.1
              have z1284w := s1281.2.2.2.2 z1250w
              refine w_inc (c := w_i 1) (fun _ => rfl) (by decide +kernel) (fun _ => rfl) (w_go (w_run k_364611 (w_il (fun _ => rfl) (w_icI (x := 4) rfl (w_gef (by omega) (by omega) (by omega) (by omega) (by omega)  (w_al (fun _ => rfl) ?_))))))
              have m1285 := st_fr s1281 m1251 (by decide)
              refine w_getf m1285 rfl (fun _ => rfl) (w_il (fun _ => rfl) (w_nul (w_aastI s1281.2.2.1 (by omega) (by omega) (by decide) isC_no (fun h1287 s1286 => ?_))))
              have z1288 := set_no (j := (1).toNat) z1283.2 z1283.1 (Or.inl rfl)
              have z1289 := s1286.1
              have z1289y := s1286.2.1
              have z1289w := s1286.2.2.2.2 z1284w
              refine w_inc (c := w_i 2) (fun _ => rfl) (by decide +kernel) (fun _ => rfl) (w_go (w_run k_364611 (w_il (fun _ => rfl) (w_icI (x := 4) rfl (w_gef (by omega) (by omega) (by omega) (by omega) (by omega)  (w_al (fun _ => rfl) ?_))))))
              have m1290 := st_fr s1286 m1285 (by decide)
              refine w_getf m1290 rfl (fun _ => rfl) (w_il (fun _ => rfl) (w_nul (w_aastI s1286.2.2.1 (by omega) (by omega) (by decide) isC_no (fun h1292 s1291 => ?_))))
              have z1293 := set_no (j := (2).toNat) z1288.2 z1288.1 (Or.inl rfl)
              have z1294 := s1291.1
              have z1294y := s1291.2.1
              have z1294w := s1291.2.2.2.2 z1289w
              refine w_inc (c := w_i 3) (fun _ => rfl) (by decide +kernel) (fun _ => rfl) (w_go (w_run k_364611 (w_il (fun _ => rfl) (w_icI (x := 4) rfl (w_gef (by omega) (by omega) (by omega) (by omega) (by omega)  (w_al (fun _ => rfl) ?_))))))
              have m1295 := st_fr s1291 m1290 (by decide)
              refine w_getf m1295 rfl (fun _ => rfl) (w_il (fun _ => rfl) (w_nul (w_aastI s1291.2.2.1 (by omega) (by omega) (by decide) isC_no (fun h1297 s1296 => ?_))))
              have z1298 := set_no (j := (3).toNat) z1293.2 z1293.1 (Or.inl rfl)
              have z1299 := s1296.1
              have z1299y := s1296.2.1
              have z1299w := s1296.2.2.2.2 z1294w
              refine w_inc (c := w_i 4) (fun _ => rfl) (by decide +kernel) (fun _ => rfl) (w_go (w_run k_364611 (w_il (fun _ => rfl) (w_icI (x := 4) rfl (w_get (by omega) (by omega) (by omega) (by omega) (by omega)  (w_run k_364631 (w_al (fun _ => rfl) ?_)))))))
              have m1300 := st_fr s1296 m1295 (by decide)
              refine w_getf m1300 rfl (fun _ => rfl) ?_
              have m1301 := st_fr s905 m17 (by decide)
              have m1302 := st_fr s909 m1301 (by decide)
              have m1303 := st_fr s913 m1302 (by decide)
              have m1304 := st_fr s920 m1303 (by decide)
              have m1305 := st_fr s931 m1304 (by decide)
              have m1306 := st_fr s943 m1305 (by decide)
              have m1307 := st_fr s952 m1306 (by decide)
              have m1308 := st_fr s962 m1307 (by decide)
              have m1309 := st_fr s972 m1308 (by decide)
              have m1310 := st_fr s982 m1309 (by decide)
              have m1311 := st_fr s993 m1310 (by decide)
              have m1312 := st_fr s1004 m1311 (by decide)
              have m1313 := st_fr s1015 m1312 (by decide)
              have m1314 := st_fr s1027 m1313 (by decide)
              have m1315 := st_fr s1039 m1314 (by decide)
              have m1316 := st_fr s1051 m1315 (by decide)
              have m1317 := st_fr s1064 m1316 (by decide)
              have m1318 := st_fr s1077 m1317 (by decide)
              have m1319 := st_fr s1090 m1318 (by decide)
              have m1320 := st_fr s1104 m1319 (by decide)
              have m1321 := st_fr s1118 m1320 (by decide)
              have m1322 := st_fr s1132 m1321 (by decide)
              have m1323 := st_fr s1144 m1322 (by decide)
              have m1324 := st_fr s1156 m1323 (by decide)
              have m1325 := st_fr s1168 m1324 (by decide)
              have m1326 := st_fr s1180 m1325 (by decide)
              have m1327 := st_fr s1184 m1326 (by decide)
              have m1328 := st_fr s1215 m1327 (by decide)
              have m1329 := st_fr s1247 m1328 (by decide)
              have m1330 := st_fr s1281 m1329 (by decide)
              have m1331 := st_fr s1286 m1330 (by decide)
              have m1332 := st_fr s1291 m1331 (by decide)
              have m1333 := st_fr s1296 m1332 (by decide)
              refine w_this (fun _ => rfl) m1333 (w_cv (fun _ => rfl) rfl (w_run k_151552 (w_al (fun _ => rfl) (w_icI (x := 0) rfl (w_putf [.inr (.inl (some 1)), .inr (.inl (some 10)), .inl (w_i 0), .inr (.inl (some 11)), .inl (w_i sta17), .inr (.inl (some (g_rw g))), .inl (w_i fnd17), .inr (.inl (some (g_stp g))), .inr (.inl (some (g_ahd g))), .inr (.inl (some (g_cst g))), .inr (.inl (some (g_chp g))), .inl (w_i kco17)] m1333 rfl rfl rfl (fun _ => rfl) (fun h1335 s1334 => ?_))))))
              have z1337 := s1334.1
              have z1337y := s1334.2.1
              have z1337w := s1334.2.2.2.2 z1299w
              refine w_al (fun _ => rfl) (w_icI (x := (-1)) wn_1 (w_putf [.inr (.inl (some 1)), .inr (.inl (some 10)), .inl (w_i 0), .inr (.inl (some 11)), .inl (w_i (-1)), .inr (.inl (some (g_rw g))), .inl (w_i fnd17), .inr (.inl (some (g_stp g))), .inr (.inl (some (g_ahd g))), .inr (.inl (some (g_cst g))), .inr (.inl (some (g_chp g))), .inl (w_i kco17)] s1334.2.2.1 rfl rfl rfl (fun _ => rfl) (fun h1339 s1338 => ?_)))
              have z1341 := s1338.1
              have z1341y := s1338.2.1
              have z1341w := s1338.2.2.2.2 z1337w
              refine w_rv ⟨rfl, ?_⟩
              refine w_il (fun _ => rfl) (w_ri ?_)
              have F1 := F.1
              have F2 := F.2.1
              have m1342 := st_fr s1180 s1168.2.2.1 (by decide)
              have m1343 := st_fr s1184 m1342 (by decide)
              have m1344 := st_fr s1215 m1343 (by decide)
              have m1345 := st_fr s1247 m1344 (by decide)
              have m1346 := st_fr s1281 m1345 (by decide)
              have m1347 := st_fr s1286 m1346 (by decide)
              have m1348 := st_fr s1291 m1347 (by decide)
              have m1349 := st_fr s1296 m1348 (by decide)
              have m1350 := st_fr s1334 m1349 (by decide)
              have m1351 := st_fr s1338 m1350 (by decide)
              have m1352 := st_fr s1215 s1184.2.2.1 (by decide)
              have m1353 := st_fr s1247 m1352 (by decide)
              have m1354 := st_fr s1281 m1353 (by decide)
              have m1355 := st_fr s1286 m1354 (by decide)
              have m1356 := st_fr s1291 m1355 (by decide)
              have m1357 := st_fr s1296 m1356 (by decide)
              have m1358 := st_fr s1334 m1357 (by decide)
              have m1359 := st_fr s1338 m1358 (by decide)
              have m1360 := st_fr s1334 s1296.2.2.1 (by decide)
              have m1361 := st_fr s1338 m1360 (by decide)
              have hN : (((1 * c) * c) * c) = w_pw c hh := by rw [hk, pn_3]
              have gz : g_nt (g_bu g hh c (((1 * c) * c) * c) A1170) = g_nt g := rfl
              have m1362 := st_fr s1334 m1300 (by decide)
              have m1363 := st_fr s1338 m1362 (by decide)
              have six1364 : ∀ j : Int, 0 ≤ j → j < 6 → 0 ≤ a_g A1170 j ∧ a_g A1170 j ≤ 63 := fun j j0 j1 => by
                rcases (show j = 0 ∨ j = 1 ∨ j = 2 ∨ j = 3 ∨ j = 4 ∨ j = 5 from by omega) with rfl | rfl | rfl | rfl | rfl | rfl
                · rw [q1172]; omega
                · rw [q1173]; omega
                · rw [q1174]; omega
                · rw [q1175]; omega
                · rw [q1176]; omega
                · rw [q1177]; omega
              have m1365 := st_fr s1118 s1104.2.2.1 (by decide)
              have m1366 := st_fr s1132 m1365 (by decide)
              have m1367 := st_fr s1144 m1366 (by decide)
              have m1368 := st_fr s1156 m1367 (by decide)
              have m1369 := st_fr s1168 m1368 (by decide)
              have m1370 := st_fr s1180 m1369 (by decide)
              have m1371 := st_fr s1184 m1370 (by decide)
              have m1372 := st_fr s1215 m1371 (by decide)
              have m1373 := st_fr s1247 m1372 (by decide)
              have m1374 := st_fr s1281 m1373 (by decide)
              have m1375 := st_fr s1286 m1374 (by decide)
              have m1376 := st_fr s1291 m1375 (by decide)
              have m1377 := st_fr s1296 m1376 (by decide)
              have m1378 := st_fr s1334 m1377 (by decide)
              have m1379 := st_fr s1338 m1378 (by decide)
              have six1380 : ∀ j : Int, 0 ≤ j → j < 6 → 0 ≤ a_g A1106 j ∧ a_g A1106 j < c := fun j j0 j1 => by
                rcases (show j = 0 ∨ j = 1 ∨ j = 2 ∨ j = 3 ∨ j = 4 ∨ j = 5 from by omega) with rfl | rfl | rfl | rfl | rfl | rfl
                · rw [q1108]; omega
                · rw [q1109]; omega
                · rw [q1110]; omega
                · rw [q1111]; omega
                · rw [q1112]; omega
                · rw [q1113]; omega
              have m1381 := st_fr s1132 s1118.2.2.1 (by decide)
              have m1382 := st_fr s1144 m1381 (by decide)
              have m1383 := st_fr s1156 m1382 (by decide)
              have m1384 := st_fr s1168 m1383 (by decide)
              have m1385 := st_fr s1180 m1384 (by decide)
              have m1386 := st_fr s1184 m1385 (by decide)
              have m1387 := st_fr s1215 m1386 (by decide)
              have m1388 := st_fr s1247 m1387 (by decide)
              have m1389 := st_fr s1281 m1388 (by decide)
              have m1390 := st_fr s1286 m1389 (by decide)
              have m1391 := st_fr s1291 m1390 (by decide)
              have m1392 := st_fr s1296 m1391 (by decide)
              have m1393 := st_fr s1334 m1392 (by decide)
              have m1394 := st_fr s1338 m1393 (by decide)
              have m1395 := st_fr s1281 s1247.2.2.1 (by decide)
              have m1396 := st_fr s1286 m1395 (by decide)
              have m1397 := st_fr s1291 m1396 (by decide)
              have m1398 := st_fr s1296 m1397 (by decide)
              have m1399 := st_fr s1334 m1398 (by decide)
              have m1400 := st_fr s1338 m1399 (by decide)
              have ivn := bu_fin (e0 := _) (e1 := _) (e18 := _) (e24 := _) (hh := hh) (c := c) (N := (((1 * c) * c) * c)) iv (by omega) (by omega) (by omega) (by omega) hN (by omega) z1341w (by omega) (fun q n0 n1 n2 n3 n4 n9 n18 n24 => (s1338.2.2.2.1 q n9).trans ((s1334.2.2.2.1 q n9).trans ((s1296.2.2.2.1 q n24).trans ((s1291.2.2.2.1 q n24).trans ((s1286.2.2.2.1 q n24).trans ((s1281.2.2.2.1 q n24).trans ((s1247.2.2.2.1 q n18).trans ((s1215.2.2.2.1 q n0).trans ((s1184.2.2.2.1 q n1).trans ((s1180.2.2.2.1 q n1).trans ((s1168.2.2.2.1 q n2).trans ((s1156.2.2.2.1 q n2).trans ((s1144.2.2.2.1 q n2).trans ((s1132.2.2.2.1 q n2).trans ((s1118.2.2.2.1 q n4).trans ((s1104.2.2.2.1 q n3).trans ((s1090.2.2.2.1 q n2).trans ((s1077.2.2.2.1 q n4).trans ((s1064.2.2.2.1 q n3).trans ((s1051.2.2.2.1 q n2).trans ((s1039.2.2.2.1 q n4).trans ((s1027.2.2.2.1 q n3).trans ((s1015.2.2.2.1 q n2).trans ((s1004.2.2.2.1 q n4).trans ((s993.2.2.2.1 q n3).trans ((s982.2.2.2.1 q n2).trans ((s972.2.2.2.1 q n4).trans ((s962.2.2.2.1 q n3).trans ((s952.2.2.2.1 q n2).trans ((s943.2.2.2.1 q n4).trans ((s931.2.2.2.1 q n3).trans ((s920.2.2.2.1 q n2).trans ((s913.2.2.2.1 q n1).trans ((s909.2.2.2.1 q n1).trans ((s905.2.2.2.1 q n1).trans (rfl)))))))))))))))))))))))))))))))))))) m1363 rfl m1359 ⟨_, _, _, rfl, by omega, by omega, by omega, by omega, by omega, by omega, by omega, by omega⟩ m1351 six1364 m1379 six1380 ⟨_, m1394⟩ s1338.2.2.1 ⟨by omega, by omega, by omega, by omega, by omega, by omega⟩ m1400 ⟨_, _, _, _, _, rfl, by omega, by omega, by omega, by omega, by omega, by omega, by omega, by omega, by omega, by omega, by omega, by omega, by omega, by omega, by omega, by omega, by omega⟩ m1361 ⟨_, rfl, z1298.1, z1298.2⟩
              exact k0 _ (g_bu g hh c (((1 * c) * c) * c) A1170) o h1339 ivn ch_gbu oe_rf (by omega) (by omega)
            · refine w_al (fun _ => rfl) (w_getf m12 rfl (fun _ => rfl) (w_il (fun _ => rfl) (w_il (fun _ => rfl) (w_this (fun _ => rfl) m13 (w_cv (fun _ => rfl) rfl (w_run k_315392 (w_al (fun _ => rfl) (w_il (fun _ => rfl) (w_putf [.inl (w_i hh), .inl (w_i (g_C g)), .inl (w_i (g_N g)), .inr (.inl (some 2)), .inr (.inl (some 3)), .inr (.inl (some 4)), .inl (w_i kp13), .inl (w_i sp13), .inl (w_i rl13)] m13 rfl rfl rfl (fun _ => rfl) (fun h1402 s1401 => ?_))))))))))
              have z1404 := s1401.1
              have z1404y := s1401.2.1
              have z1404w := s1401.2.2.2.2 z20w
              refine w_al (fun _ => rfl) (w_il (fun _ => rfl) (w_putf [.inl (w_i hh), .inl (w_i c), .inl (w_i (g_N g)), .inr (.inl (some 2)), .inr (.inl (some 3)), .inr (.inl (some 4)), .inl (w_i kp13), .inl (w_i sp13), .inl (w_i rl13)] s1401.2.2.1 rfl rfl rfl (fun _ => rfl) (fun h1406 s1405 => ?_)))
              have z1408 := s1405.1
              have z1408y := s1405.2.1
              have z1408w := s1405.2.2.2.2 z1404w
              refine w_al (fun _ => rfl) (w_il (fun _ => rfl) (w_il (fun _ => rfl) (w_ca (fun _ => rfl) rfl (w_run k_507904 (w_icI (x := 1) rfl (w_is (fun _ => rfl) (w_icI (x := 0) rfl (w_is (fun _ => rfl) (w_il (fun _ => rfl) (w_il (fun _ => rfl) (w_gef (by omega) (by omega) (by omega) (by omega) (by omega)  (w_il (fun _ => rfl) (w_il (fun _ => rfl) (w_op (c := w_i (1 * c)) (i_mul 1 c) (w_is (fun _ => rfl) (w_inc (c := w_i 1) (fun _ => rfl) (by decide +kernel) (fun _ => rfl) (w_go (w_run k_507908 (w_il (fun _ => rfl) (w_il (fun _ => rfl) (w_gef (by omega) (by omega) (by omega) (by omega) (by omega)  (w_il (fun _ => rfl) (w_il (fun _ => rfl) (w_op (c := w_i ((1 * c) * c)) (i_mul (1 * c) c) (w_is (fun _ => rfl) (w_inc (c := w_i 2) (fun _ => rfl) (by decide +kernel) (fun _ => rfl) (w_go (w_run k_507908 (w_il (fun _ => rfl) (w_il (fun _ => rfl) (w_gef (by omega) (by omega) (by omega) (by omega) (by omega)  (w_il (fun _ => rfl) (w_il (fun _ => rfl) (w_op (c := w_i (((1 * c) * c) * c)) (i_mul ((1 * c) * c) c) (w_is (fun _ => rfl) (w_inc (c := w_i 3) (fun _ => rfl) (by decide +kernel) (fun _ => rfl) (w_go (w_run k_507908 (w_il (fun _ => rfl) (w_il (fun _ => rfl) (w_gef (by omega) (by omega) (by omega) (by omega) (by omega)  (w_il (fun _ => rfl) (w_il (fun _ => rfl) (w_op (c := w_i ((((1 * c) * c) * c) * c)) (i_mul (((1 * c) * c) * c) c) (w_is (fun _ => rfl) (w_inc (c := w_i 4) (fun _ => rfl) (by decide +kernel) (fun _ => rfl) (w_go (w_run k_507908 (w_il (fun _ => rfl) (w_il (fun _ => rfl) (w_get (by omega) (by omega) (by omega) (by omega) (by omega)  (w_run k_507923 (w_il (fun _ => rfl) (w_ri ⟨_, rfl, ?_⟩))))))))))))))))))))))))))))))))))))))))))))))))))))))
              refine w_putf [.inl (w_i hh), .inl (w_i c), .inl (w_i ((((1 * c) * c) * c) * c)), .inr (.inl (some 2)), .inr (.inl (some 3)), .inr (.inl (some 4)), .inl (w_i kp13), .inl (w_i sp13), .inl (w_i rl13)] s1405.2.2.1 rfl rfl rfl (fun _ => rfl) (fun h1410 s1409 => ?_)
              have z1412 := s1409.1
              have z1412y := s1409.2.1
              have z1412w := s1409.2.2.2.2 z1408w
              refine w_icI (x := 0) rfl (w_is (fun _ => rfl) (w_il (fun _ => rfl) (w_icI (x := 6) rfl (w_gef (by omega) (by omega) (by omega) (by omega) (by omega)  (w_al (fun _ => rfl) (w_getf s1409.2.2.1 rfl (fun _ => rfl) (w_il (fun _ => rfl) (w_icI (x := 0) rfl ?_))))))))
              have m1413 := st_fr s1401 m14 (by decide)
              have m1414 := st_fr s1405 m1413 (by decide)
              have m1415 := st_fr s1409 m1414 (by decide)
              refine w_astI m1415 (by omega) (by omega) (by omega) (by omega) (by omega) (fun A1418 h1417 w1419 s1416 => ?_)
              have q1420 : a_g A1418 0 = 0 := (w1419 0 (by omega) (by omega)).trans (if_pos rfl)
              have z1421 := s1416.1
              have z1421y := s1416.2.1
              have z1421w := s1416.2.2.2.2 z1412w
              refine w_al (fun _ => rfl) ?_
              have m1422 := st_fr s1416 s1409.2.2.1 (by decide)
              refine w_getf m1422 rfl (fun _ => rfl) (w_il (fun _ => rfl) (w_il (fun _ => rfl) (w_icI (x := 2) rfl (w_opz (c := w_i 0) (by decide +kernel) (by decide +kernel) ?_))))
              have m1423 := st_fr s1401 m15 (by decide)
              have m1424 := st_fr s1405 m1423 (by decide)
              have m1425 := st_fr s1409 m1424 (by decide)
              have m1426 := st_fr s1416 m1425 (by decide)
              refine w_astI m1426 (by omega) (by omega) (by omega) (by omega) (by omega) (fun A1429 h1428 w1430 s1427 => ?_)
              have q1431 : a_g A1429 0 = 0 := (w1430 0 (by omega) (by omega)).trans (if_pos rfl)
              have z1432 := s1427.1
              have z1432y := s1427.2.1
              have z1432w := s1427.2.2.2.2 z1421w
              refine w_al (fun _ => rfl) ?_
              have m1433 := st_fr s1427 m1422 (by decide)
              refine w_getf m1433 rfl (fun _ => rfl) (w_il (fun _ => rfl) (w_icI (x := (-1)) wn_1 ?_))
              have m1434 := st_fr s1401 m16 (by decide)
              have m1435 := st_fr s1405 m1434 (by decide)
              have m1436 := st_fr s1409 m1435 (by decide)
              have m1437 := st_fr s1416 m1436 (by decide)
              have m1438 := st_fr s1427 m1437 (by decide)
              refine w_astI m1438 (by omega) (by omega) (by omega) (by omega) (by omega) (fun A1441 h1440 w1442 s1439 => ?_)
              have q1443 : a_g A1441 0 = (-1) := (w1442 0 (by omega) (by omega)).trans (if_pos rfl)
              have z1444 := s1439.1
              have z1444y := s1439.2.1
              have z1444w := s1439.2.2.2.2 z1432w
              refine w_inc (c := w_i 1) (fun _ => rfl) (by decide +kernel) (fun _ => rfl) (w_go (w_run k_315413 (w_il (fun _ => rfl) (w_icI (x := 6) rfl (w_gef (by omega) (by omega) (by omega) (by omega) (by omega)  (w_al (fun _ => rfl) ?_))))))
              have m1445 := st_fr s1439 m1433 (by decide)
              refine w_getf m1445 rfl (fun _ => rfl) (w_il (fun _ => rfl) (w_icI (x := 0) rfl ?_))
              have m1446 := st_fr s1427 s1416.2.2.1 (by decide)
              have m1447 := st_fr s1439 m1446 (by decide)
              refine w_astI m1447 (by omega) (by omega) (by omega) (by omega) (by omega) (fun A1450 h1449 w1451 s1448 => ?_)
              have q1452 : a_g A1450 0 = 0 := ((w1451 0 (by omega) (by omega)).trans (if_neg (by omega))).trans q1420
              have q1453 : a_g A1450 1 = 0 := (w1451 1 (by omega) (by omega)).trans (if_pos rfl)
              have z1454 := s1448.1
              have z1454y := s1448.2.1
              have z1454w := s1448.2.2.2.2 z1444w
              refine w_al (fun _ => rfl) ?_
              have m1455 := st_fr s1448 m1445 (by decide)
              refine w_getf m1455 rfl (fun _ => rfl) (w_il (fun _ => rfl) (w_il (fun _ => rfl) (w_icI (x := 2) rfl (w_opz (c := w_i 1) (by decide +kernel) (by decide +kernel) ?_))))
              have m1456 := st_fr s1439 s1427.2.2.1 (by decide)
              have m1457 := st_fr s1448 m1456 (by decide)
              refine w_astI m1457 (by omega) (by omega) (by omega) (by omega) (by omega) (fun A1460 h1459 w1461 s1458 => ?_)
              have q1462 : a_g A1460 0 = 0 := ((w1461 0 (by omega) (by omega)).trans (if_neg (by omega))).trans q1431
              have q1463 : a_g A1460 1 = 1 := (w1461 1 (by omega) (by omega)).trans (if_pos rfl)
              have z1464 := s1458.1
              have z1464y := s1458.2.1
              have z1464w := s1458.2.2.2.2 z1454w
              refine w_al (fun _ => rfl) ?_
              have m1465 := st_fr s1458 m1455 (by decide)
              refine w_getf m1465 rfl (fun _ => rfl) (w_il (fun _ => rfl) (w_icI (x := (-1)) wn_1 ?_))
              have m1466 := st_fr s1448 s1439.2.2.1 (by decide)
              have m1467 := st_fr s1458 m1466 (by decide)
              refine w_astI m1467 (by omega) (by omega) (by omega) (by omega) (by omega) (fun A1470 h1469 w1471 s1468 => ?_)
              have q1472 : a_g A1470 0 = (-1) := ((w1471 0 (by omega) (by omega)).trans (if_neg (by omega))).trans q1443
              have q1473 : a_g A1470 1 = (-1) := (w1471 1 (by omega) (by omega)).trans (if_pos rfl)
              have z1474 := s1468.1
              have z1474y := s1468.2.1
              have z1474w := s1468.2.2.2.2 z1464w
              refine w_inc (c := w_i 2) (fun _ => rfl) (by decide +kernel) (fun _ => rfl) (w_go (w_run k_315413 (w_il (fun _ => rfl) (w_icI (x := 6) rfl (w_gef (by omega) (by omega) (by omega) (by omega) (by omega)  (w_al (fun _ => rfl) ?_))))))
              have m1475 := st_fr s1468 m1465 (by decide)
              refine w_getf m1475 rfl (fun _ => rfl) (w_il (fun _ => rfl) (w_icI (x := 0) rfl ?_))
              have m1476 := st_fr s1458 s1448.2.2.1 (by decide)
              have m1477 := st_fr s1468 m1476 (by decide)
              refine w_astI m1477 (by omega) (by omega) (by omega) (by omega) (by omega) (fun A1480 h1479 w1481 s1478 => ?_)
              have q1482 : a_g A1480 0 = 0 := ((w1481 0 (by omega) (by omega)).trans (if_neg (by omega))).trans q1452
              have q1483 : a_g A1480 1 = 0 := ((w1481 1 (by omega) (by omega)).trans (if_neg (by omega))).trans q1453
              have q1484 : a_g A1480 2 = 0 := (w1481 2 (by omega) (by omega)).trans (if_pos rfl)
              have z1485 := s1478.1
              have z1485y := s1478.2.1
              have z1485w := s1478.2.2.2.2 z1474w
              refine w_al (fun _ => rfl) ?_
              have m1486 := st_fr s1478 m1475 (by decide)
              refine w_getf m1486 rfl (fun _ => rfl) (w_il (fun _ => rfl) (w_il (fun _ => rfl) (w_icI (x := 2) rfl (w_opz (c := w_i 0) (by decide +kernel) (by decide +kernel) ?_))))
              have m1487 := st_fr s1468 s1458.2.2.1 (by decide)
              have m1488 := st_fr s1478 m1487 (by decide)
              refine w_astI m1488 (by omega) (by omega) (by omega) (by omega) (by omega) (fun A1491 h1490 w1492 s1489 => ?_)
              have q1493 : a_g A1491 0 = 0 := ((w1492 0 (by omega) (by omega)).trans (if_neg (by omega))).trans q1462
              have q1494 : a_g A1491 1 = 1 := ((w1492 1 (by omega) (by omega)).trans (if_neg (by omega))).trans q1463
              have q1495 : a_g A1491 2 = 0 := (w1492 2 (by omega) (by omega)).trans (if_pos rfl)
              have z1496 := s1489.1
              have z1496y := s1489.2.1
              have z1496w := s1489.2.2.2.2 z1485w
              refine w_al (fun _ => rfl) ?_
              have m1497 := st_fr s1489 m1486 (by decide)
              refine w_getf m1497 rfl (fun _ => rfl) (w_il (fun _ => rfl) (w_icI (x := (-1)) wn_1 ?_))
              have m1498 := st_fr s1478 s1468.2.2.1 (by decide)
              have m1499 := st_fr s1489 m1498 (by decide)
              refine w_astI m1499 (by omega) (by omega) (by omega) (by omega) (by omega) (fun A1502 h1501 w1503 s1500 => ?_)
              have q1504 : a_g A1502 0 = (-1) := ((w1503 0 (by omega) (by omega)).trans (if_neg (by omega))).trans q1472
              have q1505 : a_g A1502 1 = (-1) := ((w1503 1 (by omega) (by omega)).trans (if_neg (by omega))).trans q1473
              have q1506 : a_g A1502 2 = (-1) := (w1503 2 (by omega) (by omega)).trans (if_pos rfl)
              have z1507 := s1500.1
              have z1507y := s1500.2.1
              have z1507w := s1500.2.2.2.2 z1496w
              refine w_inc (c := w_i 3) (fun _ => rfl) (by decide +kernel) (fun _ => rfl) (w_go (w_run k_315413 (w_il (fun _ => rfl) (w_icI (x := 6) rfl (w_gef (by omega) (by omega) (by omega) (by omega) (by omega)  (w_al (fun _ => rfl) ?_))))))
              have m1508 := st_fr s1500 m1497 (by decide)
              refine w_getf m1508 rfl (fun _ => rfl) (w_il (fun _ => rfl) (w_icI (x := 0) rfl ?_))
              have m1509 := st_fr s1489 s1478.2.2.1 (by decide)
              have m1510 := st_fr s1500 m1509 (by decide)
              refine w_astI m1510 (by omega) (by omega) (by omega) (by omega) (by omega) (fun A1513 h1512 w1514 s1511 => ?_)
              have q1515 : a_g A1513 0 = 0 := ((w1514 0 (by omega) (by omega)).trans (if_neg (by omega))).trans q1482
              have q1516 : a_g A1513 1 = 0 := ((w1514 1 (by omega) (by omega)).trans (if_neg (by omega))).trans q1483
              have q1517 : a_g A1513 2 = 0 := ((w1514 2 (by omega) (by omega)).trans (if_neg (by omega))).trans q1484
              have q1518 : a_g A1513 3 = 0 := (w1514 3 (by omega) (by omega)).trans (if_pos rfl)
              have z1519 := s1511.1
              have z1519y := s1511.2.1
              have z1519w := s1511.2.2.2.2 z1507w
              refine w_al (fun _ => rfl) ?_
              have m1520 := st_fr s1511 m1508 (by decide)
              refine w_getf m1520 rfl (fun _ => rfl) (w_il (fun _ => rfl) (w_il (fun _ => rfl) (w_icI (x := 2) rfl (w_opz (c := w_i 1) (by decide +kernel) (by decide +kernel) ?_))))
              have m1521 := st_fr s1500 s1489.2.2.1 (by decide)
              have m1522 := st_fr s1511 m1521 (by decide)
              refine w_astI m1522 (by omega) (by omega) (by omega) (by omega) (by omega) (fun A1525 h1524 w1526 s1523 => ?_)
              have q1527 : a_g A1525 0 = 0 := ((w1526 0 (by omega) (by omega)).trans (if_neg (by omega))).trans q1493
              have q1528 : a_g A1525 1 = 1 := ((w1526 1 (by omega) (by omega)).trans (if_neg (by omega))).trans q1494
              have q1529 : a_g A1525 2 = 0 := ((w1526 2 (by omega) (by omega)).trans (if_neg (by omega))).trans q1495
              have q1530 : a_g A1525 3 = 1 := (w1526 3 (by omega) (by omega)).trans (if_pos rfl)
              have z1531 := s1523.1
              have z1531y := s1523.2.1
              have z1531w := s1523.2.2.2.2 z1519w
              refine w_al (fun _ => rfl) ?_
              have m1532 := st_fr s1523 m1520 (by decide)
              refine w_getf m1532 rfl (fun _ => rfl) (w_il (fun _ => rfl) (w_icI (x := (-1)) wn_1 ?_))
              have m1533 := st_fr s1511 s1500.2.2.1 (by decide)
              have m1534 := st_fr s1523 m1533 (by decide)
              refine w_astI m1534 (by omega) (by omega) (by omega) (by omega) (by omega) (fun A1537 h1536 w1538 s1535 => ?_)
              have q1539 : a_g A1537 0 = (-1) := ((w1538 0 (by omega) (by omega)).trans (if_neg (by omega))).trans q1504
              have q1540 : a_g A1537 1 = (-1) := ((w1538 1 (by omega) (by omega)).trans (if_neg (by omega))).trans q1505
              have q1541 : a_g A1537 2 = (-1) := ((w1538 2 (by omega) (by omega)).trans (if_neg (by omega))).trans q1506
              have q1542 : a_g A1537 3 = (-1) := (w1538 3 (by omega) (by omega)).trans (if_pos rfl)
              have z1543 := s1535.1
              have z1543y := s1535.2.1
              have z1543w := s1535.2.2.2.2 z1531w
              refine w_inc (c := w_i 4) (fun _ => rfl) (by decide +kernel) (fun _ => rfl) (w_go (w_run k_315413 (w_il (fun _ => rfl) (w_icI (x := 6) rfl (w_gef (by omega) (by omega) (by omega) (by omega) (by omega)  (w_al (fun _ => rfl) ?_))))))
              have m1544 := st_fr s1535 m1532 (by decide)
              refine w_getf m1544 rfl (fun _ => rfl) (w_il (fun _ => rfl) (w_icI (x := 0) rfl ?_))
              have m1545 := st_fr s1523 s1511.2.2.1 (by decide)
              have m1546 := st_fr s1535 m1545 (by decide)
              refine w_astI m1546 (by omega) (by omega) (by omega) (by omega) (by omega) (fun A1549 h1548 w1550 s1547 => ?_)
              have q1551 : a_g A1549 0 = 0 := ((w1550 0 (by omega) (by omega)).trans (if_neg (by omega))).trans q1515
              have q1552 : a_g A1549 1 = 0 := ((w1550 1 (by omega) (by omega)).trans (if_neg (by omega))).trans q1516
              have q1553 : a_g A1549 2 = 0 := ((w1550 2 (by omega) (by omega)).trans (if_neg (by omega))).trans q1517
              have q1554 : a_g A1549 3 = 0 := ((w1550 3 (by omega) (by omega)).trans (if_neg (by omega))).trans q1518
              have q1555 : a_g A1549 4 = 0 := (w1550 4 (by omega) (by omega)).trans (if_pos rfl)
              have z1556 := s1547.1
              have z1556y := s1547.2.1
              have z1556w := s1547.2.2.2.2 z1543w
              refine w_al (fun _ => rfl) ?_
              have m1557 := st_fr s1547 m1544 (by decide)
              refine w_getf m1557 rfl (fun _ => rfl) (w_il (fun _ => rfl) (w_il (fun _ => rfl) (w_icI (x := 2) rfl (w_opz (c := w_i 0) (by decide +kernel) (by decide +kernel) ?_))))
              have m1558 := st_fr s1535 s1523.2.2.1 (by decide)
              have m1559 := st_fr s1547 m1558 (by decide)
              refine w_astI m1559 (by omega) (by omega) (by omega) (by omega) (by omega) (fun A1562 h1561 w1563 s1560 => ?_)
              have q1564 : a_g A1562 0 = 0 := ((w1563 0 (by omega) (by omega)).trans (if_neg (by omega))).trans q1527
              have q1565 : a_g A1562 1 = 1 := ((w1563 1 (by omega) (by omega)).trans (if_neg (by omega))).trans q1528
              have q1566 : a_g A1562 2 = 0 := ((w1563 2 (by omega) (by omega)).trans (if_neg (by omega))).trans q1529
              have q1567 : a_g A1562 3 = 1 := ((w1563 3 (by omega) (by omega)).trans (if_neg (by omega))).trans q1530
              have q1568 : a_g A1562 4 = 0 := (w1563 4 (by omega) (by omega)).trans (if_pos rfl)
              have z1569 := s1560.1
              have z1569y := s1560.2.1
              have z1569w := s1560.2.2.2.2 z1556w
              refine w_al (fun _ => rfl) ?_
              have m1570 := st_fr s1560 m1557 (by decide)
              refine w_getf m1570 rfl (fun _ => rfl) (w_il (fun _ => rfl) (w_icI (x := (-1)) wn_1 ?_))
              have m1571 := st_fr s1547 s1535.2.2.1 (by decide)
              have m1572 := st_fr s1560 m1571 (by decide)
              refine w_astI m1572 (by omega) (by omega) (by omega) (by omega) (by omega) (fun A1575 h1574 w1576 s1573 => ?_)
              have q1577 : a_g A1575 0 = (-1) := ((w1576 0 (by omega) (by omega)).trans (if_neg (by omega))).trans q1539
              have q1578 : a_g A1575 1 = (-1) := ((w1576 1 (by omega) (by omega)).trans (if_neg (by omega))).trans q1540
              have q1579 : a_g A1575 2 = (-1) := ((w1576 2 (by omega) (by omega)).trans (if_neg (by omega))).trans q1541
              have q1580 : a_g A1575 3 = (-1) := ((w1576 3 (by omega) (by omega)).trans (if_neg (by omega))).trans q1542
              have q1581 : a_g A1575 4 = (-1) := (w1576 4 (by omega) (by omega)).trans (if_pos rfl)
              have z1582 := s1573.1
              have z1582y := s1573.2.1
              have z1582w := s1573.2.2.2.2 z1569w
              refine w_inc (c := w_i 5) (fun _ => rfl) (by decide +kernel) (fun _ => rfl) (w_go (w_run k_315413 (w_il (fun _ => rfl) (w_icI (x := 6) rfl (w_gef (by omega) (by omega) (by omega) (by omega) (by omega)  (w_al (fun _ => rfl) ?_))))))
              have m1583 := st_fr s1573 m1570 (by decide)
              refine w_getf m1583 rfl (fun _ => rfl) (w_il (fun _ => rfl) (w_icI (x := 0) rfl ?_))
              have m1584 := st_fr s1560 s1547.2.2.1 (by decide)
              have m1585 := st_fr s1573 m1584 (by decide)
              refine w_astI m1585 (by omega) (by omega) (by omega) (by omega) (by omega) (fun A1588 h1587 w1589 s1586 => ?_)
              have q1590 : a_g A1588 0 = 0 := ((w1589 0 (by omega) (by omega)).trans (if_neg (by omega))).trans q1551
              have q1591 : a_g A1588 1 = 0 := ((w1589 1 (by omega) (by omega)).trans (if_neg (by omega))).trans q1552
              have q1592 : a_g A1588 2 = 0 := ((w1589 2 (by omega) (by omega)).trans (if_neg (by omega))).trans q1553
              have q1593 : a_g A1588 3 = 0 := ((w1589 3 (by omega) (by omega)).trans (if_neg (by omega))).trans q1554
              have q1594 : a_g A1588 4 = 0 := ((w1589 4 (by omega) (by omega)).trans (if_neg (by omega))).trans q1555
              have q1595 : a_g A1588 5 = 0 := (w1589 5 (by omega) (by omega)).trans (if_pos rfl)
              have z1596 := s1586.1
              have z1596y := s1586.2.1
              have z1596w := s1586.2.2.2.2 z1582w
              refine w_al (fun _ => rfl) ?_
              have m1597 := st_fr s1586 m1583 (by decide)
              refine w_getf m1597 rfl (fun _ => rfl) (w_il (fun _ => rfl) (w_il (fun _ => rfl) (w_icI (x := 2) rfl (w_opz (c := w_i 1) (by decide +kernel) (by decide +kernel) ?_))))
              have m1598 := st_fr s1573 s1560.2.2.1 (by decide)
              have m1599 := st_fr s1586 m1598 (by decide)
              refine w_astI m1599 (by omega) (by omega) (by omega) (by omega) (by omega) (fun A1602 h1601 w1603 s1600 => ?_)
              have q1604 : a_g A1602 0 = 0 := ((w1603 0 (by omega) (by omega)).trans (if_neg (by omega))).trans q1564
              have q1605 : a_g A1602 1 = 1 := ((w1603 1 (by omega) (by omega)).trans (if_neg (by omega))).trans q1565
              have q1606 : a_g A1602 2 = 0 := ((w1603 2 (by omega) (by omega)).trans (if_neg (by omega))).trans q1566
              have q1607 : a_g A1602 3 = 1 := ((w1603 3 (by omega) (by omega)).trans (if_neg (by omega))).trans q1567
              have q1608 : a_g A1602 4 = 0 := ((w1603 4 (by omega) (by omega)).trans (if_neg (by omega))).trans q1568
              have q1609 : a_g A1602 5 = 1 := (w1603 5 (by omega) (by omega)).trans (if_pos rfl)
              have z1610 := s1600.1
              have z1610y := s1600.2.1
              have z1610w := s1600.2.2.2.2 z1596w
              refine w_al (fun _ => rfl) ?_
              have m1611 := st_fr s1600 m1597 (by decide)
              refine w_getf m1611 rfl (fun _ => rfl) (w_il (fun _ => rfl) (w_icI (x := (-1)) wn_1 ?_))
              have m1612 := st_fr s1586 s1573.2.2.1 (by decide)
              have m1613 := st_fr s1600 m1612 (by decide)
              refine w_astI m1613 (by omega) (by omega) (by omega) (by omega) (by omega) (fun A1616 h1615 w1617 s1614 => ?_)
              have q1618 : a_g A1616 0 = (-1) := ((w1617 0 (by omega) (by omega)).trans (if_neg (by omega))).trans q1577
              have q1619 : a_g A1616 1 = (-1) := ((w1617 1 (by omega) (by omega)).trans (if_neg (by omega))).trans q1578
              have q1620 : a_g A1616 2 = (-1) := ((w1617 2 (by omega) (by omega)).trans (if_neg (by omega))).trans q1579
              have q1621 : a_g A1616 3 = (-1) := ((w1617 3 (by omega) (by omega)).trans (if_neg (by omega))).trans q1580
              have q1622 : a_g A1616 4 = (-1) := ((w1617 4 (by omega) (by omega)).trans (if_neg (by omega))).trans q1581
              have q1623 : a_g A1616 5 = (-1) := (w1617 5 (by omega) (by omega)).trans (if_pos rfl)
              have z1624 := s1614.1
              have z1624y := s1614.2.1
              have z1624w := s1614.2.2.2.2 z1610w
              refine w_inc (c := w_i 6) (fun _ => rfl) (by decide +kernel) (fun _ => rfl) (w_go (w_run k_315413 (w_il (fun _ => rfl) (w_icI (x := 6) rfl (w_get (by omega) (by omega) (by omega) (by omega) (by omega)  (w_run k_315448 (w_icI (x := 0) rfl (w_is (fun _ => rfl) (w_il (fun _ => rfl) (w_icI (x := 1) rfl (w_op (c := w_i 1) (by decide +kernel) (w_il (fun _ => rfl) (w_gef (by omega) (by omega) (by omega) (by omega) (by omega)  (w_al (fun _ => rfl) (w_il (fun _ => rfl) (w_il (fun _ => rfl) (w_icI (x := 1) rfl (w_op (c := w_i 1) (by decide +kernel) (w_icI (x := 1) rfl ?_)))))))))))))))))))
              have m1625 := st_fr s1614 m1611 (by decide)
              refine w_this (fun _ => rfl) m1625 (w_cv (fun _ => rfl) rfl (w_run k_323584 (w_al (fun _ => rfl) (w_getf m1625 rfl (fun _ => rfl) (w_il (fun _ => rfl) (w_al (fun _ => rfl) (w_getf m1625 rfl (fun _ => rfl) (w_il (fun _ => rfl) ?_))))))))
              have m1626 := st_fr s1600 s1586.2.2.1 (by decide)
              have m1627 := st_fr s1614 m1626 (by decide)
              refine w_aldI m1627 (by omega) (by omega) (by omega) ?_
              rw [q1590]
              refine w_icI (x := 1) rfl (w_il (fun _ => rfl) (w_op (c := w_i 2) (by decide +kernel) (w_icI (x := (-1)) wn_1 (w_op (c := w_i (-3)) (by decide +kernel) (w_op (c := w_i 0) (by decide +kernel) (w_il (fun _ => rfl) (w_eqzf (by omega) (by omega) (by omega)  (w_icI (x := 1) rfl (w_il (fun _ => rfl) (w_op (c := w_i 2) (by decide +kernel) (w_go (w_run k_323612 (w_op (c := w_i 2) (by decide +kernel) (w_astI m1627 (by omega) (by omega) (by omega) (by omega) (by omega) (fun A1630 h1629 w1631 s1628 => ?_)))))))))))))))
              have q1632 : a_g A1630 0 = 2 := (w1631 0 (by omega) (by omega)).trans (if_pos rfl)
              have q1633 : a_g A1630 1 = 0 := ((w1631 1 (by omega) (by omega)).trans (if_neg (by omega))).trans q1591
              have q1634 : a_g A1630 2 = 0 := ((w1631 2 (by omega) (by omega)).trans (if_neg (by omega))).trans q1592
              have q1635 : a_g A1630 3 = 0 := ((w1631 3 (by omega) (by omega)).trans (if_neg (by omega))).trans q1593
              have q1636 : a_g A1630 4 = 0 := ((w1631 4 (by omega) (by omega)).trans (if_neg (by omega))).trans q1594
              have q1637 : a_g A1630 5 = 0 := ((w1631 5 (by omega) (by omega)).trans (if_neg (by omega))).trans q1595
              have z1638 := s1628.1
              have z1638y := s1628.2.1
              have z1638w := s1628.2.2.2.2 z1624w
              refine w_al (fun _ => rfl) ?_
              have m1639 := st_fr s1628 m1625 (by decide)
              refine w_getf m1639 rfl (fun _ => rfl) (w_il (fun _ => rfl) (w_al (fun _ => rfl) (w_getf m1639 rfl (fun _ => rfl) (w_il (fun _ => rfl) (w_aldI s1628.2.2.1 (by omega) (by omega) (by omega) ?_)))))
              rw [q1633]
              refine w_icI (x := 1) rfl (w_il (fun _ => rfl) (w_op (c := w_i 1) (by decide +kernel) (w_icI (x := (-1)) wn_1 (w_op (c := w_i (-2)) (by decide +kernel) (w_op (c := w_i 0) (by decide +kernel) (w_il (fun _ => rfl) (w_eqzf (by omega) (by omega) (by omega)  (w_icI (x := 1) rfl (w_il (fun _ => rfl) (w_op (c := w_i 1) (by decide +kernel) (w_go (w_run k_323642 (w_op (c := w_i 1) (by decide +kernel) (w_astI s1628.2.2.1 (by omega) (by omega) (by omega) (by omega) (by omega) (fun A1642 h1641 w1643 s1640 => ?_)))))))))))))))
              have q1644 : a_g A1642 0 = 2 := ((w1643 0 (by omega) (by omega)).trans (if_neg (by omega))).trans q1632
              have q1645 : a_g A1642 1 = 1 := (w1643 1 (by omega) (by omega)).trans (if_pos rfl)
              have q1646 : a_g A1642 2 = 0 := ((w1643 2 (by omega) (by omega)).trans (if_neg (by omega))).trans q1634
              have q1647 : a_g A1642 3 = 0 := ((w1643 3 (by omega) (by omega)).trans (if_neg (by omega))).trans q1635
              have q1648 : a_g A1642 4 = 0 := ((w1643 4 (by omega) (by omega)).trans (if_neg (by omega))).trans q1636
              have q1649 : a_g A1642 5 = 0 := ((w1643 5 (by omega) (by omega)).trans (if_neg (by omega))).trans q1637
              have z1650 := s1640.1
              have z1650y := s1640.2.1
              have z1650w := s1640.2.2.2.2 z1638w
              refine w_rv ⟨rfl, ?_⟩
              refine w_inc (c := w_i 1) (fun _ => rfl) (by decide +kernel) (fun _ => rfl) (w_go (w_run k_315450 (w_il (fun _ => rfl) (w_icI (x := 1) rfl (w_op (c := w_i 2) (by decide +kernel) (w_il (fun _ => rfl) (w_gef (by omega) (by omega) (by omega) (by omega) (by omega)  (w_al (fun _ => rfl) (w_il (fun _ => rfl) (w_il (fun _ => rfl) (w_icI (x := 1) rfl (w_op (c := w_i 2) (by decide +kernel) (w_icI (x := 1) rfl ?_)))))))))))))
              have m1651 := st_fr s1640 m1639 (by decide)
              refine w_this (fun _ => rfl) m1651 (w_cv (fun _ => rfl) rfl (w_run k_323584 (w_al (fun _ => rfl) (w_getf m1651 rfl (fun _ => rfl) (w_il (fun _ => rfl) (w_al (fun _ => rfl) (w_getf m1651 rfl (fun _ => rfl) (w_il (fun _ => rfl) (w_aldI s1640.2.2.1 (by omega) (by omega) (by omega) ?_)))))))))
              rw [q1645]
              refine w_icI (x := 1) rfl (w_il (fun _ => rfl) (w_op (c := w_i 4) (by decide +kernel) (w_icI (x := (-1)) wn_1 (w_op (c := w_i (-5)) (by decide +kernel) (w_op (c := w_i 1) (by decide +kernel) (w_il (fun _ => rfl) (w_eqzf (by omega) (by omega) (by omega)  (w_icI (x := 1) rfl (w_il (fun _ => rfl) (w_op (c := w_i 4) (by decide +kernel) (w_go (w_run k_323612 (w_op (c := w_i 5) (by decide +kernel) (w_astI s1640.2.2.1 (by omega) (by omega) (by omega) (by omega) (by omega) (fun A1654 h1653 w1655 s1652 => ?_)))))))))))))))
              have q1656 : a_g A1654 0 = 2 := ((w1655 0 (by omega) (by omega)).trans (if_neg (by omega))).trans q1644
              have q1657 : a_g A1654 1 = 5 := (w1655 1 (by omega) (by omega)).trans (if_pos rfl)
              have q1658 : a_g A1654 2 = 0 := ((w1655 2 (by omega) (by omega)).trans (if_neg (by omega))).trans q1646
              have q1659 : a_g A1654 3 = 0 := ((w1655 3 (by omega) (by omega)).trans (if_neg (by omega))).trans q1647
              have q1660 : a_g A1654 4 = 0 := ((w1655 4 (by omega) (by omega)).trans (if_neg (by omega))).trans q1648
              have q1661 : a_g A1654 5 = 0 := ((w1655 5 (by omega) (by omega)).trans (if_neg (by omega))).trans q1649
              have z1662 := s1652.1
              have z1662y := s1652.2.1
              have z1662w := s1652.2.2.2.2 z1650w
              refine w_al (fun _ => rfl) ?_
              have m1663 := st_fr s1652 m1651 (by decide)
              refine w_getf m1663 rfl (fun _ => rfl) (w_il (fun _ => rfl) (w_al (fun _ => rfl) (w_getf m1663 rfl (fun _ => rfl) (w_il (fun _ => rfl) (w_aldI s1652.2.2.1 (by omega) (by omega) (by omega) ?_)))))
              rw [q1658]
              refine w_icI (x := 1) rfl (w_il (fun _ => rfl) (w_op (c := w_i 2) (by decide +kernel) (w_icI (x := (-1)) wn_1 (w_op (c := w_i (-3)) (by decide +kernel) (w_op (c := w_i 0) (by decide +kernel) (w_il (fun _ => rfl) (w_eqzf (by omega) (by omega) (by omega)  (w_icI (x := 1) rfl (w_il (fun _ => rfl) (w_op (c := w_i 2) (by decide +kernel) (w_go (w_run k_323642 (w_op (c := w_i 2) (by decide +kernel) (w_astI s1652.2.2.1 (by omega) (by omega) (by omega) (by omega) (by omega) (fun A1666 h1665 w1667 s1664 => ?_)))))))))))))))
              have q1668 : a_g A1666 0 = 2 := ((w1667 0 (by omega) (by omega)).trans (if_neg (by omega))).trans q1656
              have q1669 : a_g A1666 1 = 5 := ((w1667 1 (by omega) (by omega)).trans (if_neg (by omega))).trans q1657
              have q1670 : a_g A1666 2 = 2 := (w1667 2 (by omega) (by omega)).trans (if_pos rfl)
              have q1671 : a_g A1666 3 = 0 := ((w1667 3 (by omega) (by omega)).trans (if_neg (by omega))).trans q1659
              have q1672 : a_g A1666 4 = 0 := ((w1667 4 (by omega) (by omega)).trans (if_neg (by omega))).trans q1660
              have q1673 : a_g A1666 5 = 0 := ((w1667 5 (by omega) (by omega)).trans (if_neg (by omega))).trans q1661
              have z1674 := s1664.1
              have z1674y := s1664.2.1
              have z1674w := s1664.2.2.2.2 z1662w
              refine w_rv ⟨rfl, ?_⟩
              refine w_inc (c := w_i 2) (fun _ => rfl) (by decide +kernel) (fun _ => rfl) (w_go (w_run k_315450 (w_il (fun _ => rfl) (w_icI (x := 1) rfl (w_op (c := w_i 3) (by decide +kernel) (w_il (fun _ => rfl) (w_gef (by omega) (by omega) (by omega) (by omega) (by omega)  (w_al (fun _ => rfl) (w_il (fun _ => rfl) (w_il (fun _ => rfl) (w_icI (x := 1) rfl (w_op (c := w_i 3) (by decide +kernel) (w_icI (x := 1) rfl ?_)))))))))))))
              have m1675 := st_fr s1664 m1663 (by decide)
              refine w_this (fun _ => rfl) m1675 (w_cv (fun _ => rfl) rfl (w_run k_323584 (w_al (fun _ => rfl) (w_getf m1675 rfl (fun _ => rfl) (w_il (fun _ => rfl) (w_al (fun _ => rfl) (w_getf m1675 rfl (fun _ => rfl) (w_il (fun _ => rfl) (w_aldI s1664.2.2.1 (by omega) (by omega) (by omega) ?_)))))))))
              rw [q1670]
              refine w_icI (x := 1) rfl (w_il (fun _ => rfl) (w_op (c := w_i 8) (by decide +kernel) (w_icI (x := (-1)) wn_1 (w_op (c := w_i (-9)) (by decide +kernel) (w_op (c := w_i 2) (by decide +kernel) (w_il (fun _ => rfl) (w_eqzf (by omega) (by omega) (by omega)  (w_icI (x := 1) rfl (w_il (fun _ => rfl) (w_op (c := w_i 8) (by decide +kernel) (w_go (w_run k_323612 (w_op (c := w_i 10) (by decide +kernel) (w_astI s1664.2.2.1 (by omega) (by omega) (by omega) (by omega) (by omega) (fun A1678 h1677 w1679 s1676 => ?_)))))))))))))))
              have q1680 : a_g A1678 0 = 2 := ((w1679 0 (by omega) (by omega)).trans (if_neg (by omega))).trans q1668
              have q1681 : a_g A1678 1 = 5 := ((w1679 1 (by omega) (by omega)).trans (if_neg (by omega))).trans q1669
              have q1682 : a_g A1678 2 = 10 := (w1679 2 (by omega) (by omega)).trans (if_pos rfl)
              have q1683 : a_g A1678 3 = 0 := ((w1679 3 (by omega) (by omega)).trans (if_neg (by omega))).trans q1671
              have q1684 : a_g A1678 4 = 0 := ((w1679 4 (by omega) (by omega)).trans (if_neg (by omega))).trans q1672
              have q1685 : a_g A1678 5 = 0 := ((w1679 5 (by omega) (by omega)).trans (if_neg (by omega))).trans q1673
              have z1686 := s1676.1
              have z1686y := s1676.2.1
              have z1686w := s1676.2.2.2.2 z1674w
              refine w_al (fun _ => rfl) ?_
              have m1687 := st_fr s1676 m1675 (by decide)
              refine w_getf m1687 rfl (fun _ => rfl) (w_il (fun _ => rfl) (w_al (fun _ => rfl) (w_getf m1687 rfl (fun _ => rfl) (w_il (fun _ => rfl) (w_aldI s1676.2.2.1 (by omega) (by omega) (by omega) ?_)))))
              rw [q1683]
              refine w_icI (x := 1) rfl (w_il (fun _ => rfl) (w_op (c := w_i 4) (by decide +kernel) (w_icI (x := (-1)) wn_1 (w_op (c := w_i (-5)) (by decide +kernel) (w_op (c := w_i 0) (by decide +kernel) (w_il (fun _ => rfl) (w_eqzf (by omega) (by omega) (by omega)  (w_icI (x := 1) rfl (w_il (fun _ => rfl) (w_op (c := w_i 4) (by decide +kernel) (w_go (w_run k_323642 (w_op (c := w_i 4) (by decide +kernel) (w_astI s1676.2.2.1 (by omega) (by omega) (by omega) (by omega) (by omega) (fun A1690 h1689 w1691 s1688 => ?_)))))))))))))))
              have q1692 : a_g A1690 0 = 2 := ((w1691 0 (by omega) (by omega)).trans (if_neg (by omega))).trans q1680
              have q1693 : a_g A1690 1 = 5 := ((w1691 1 (by omega) (by omega)).trans (if_neg (by omega))).trans q1681
              have q1694 : a_g A1690 2 = 10 := ((w1691 2 (by omega) (by omega)).trans (if_neg (by omega))).trans q1682
              have q1695 : a_g A1690 3 = 4 := (w1691 3 (by omega) (by omega)).trans (if_pos rfl)
              have q1696 : a_g A1690 4 = 0 := ((w1691 4 (by omega) (by omega)).trans (if_neg (by omega))).trans q1684
              have q1697 : a_g A1690 5 = 0 := ((w1691 5 (by omega) (by omega)).trans (if_neg (by omega))).trans q1685
              have z1698 := s1688.1
              have z1698y := s1688.2.1
              have z1698w := s1688.2.2.2.2 z1686w
              refine w_rv ⟨rfl, ?_⟩
              refine w_inc (c := w_i 3) (fun _ => rfl) (by decide +kernel) (fun _ => rfl) (w_go (w_run k_315450 (w_il (fun _ => rfl) (w_icI (x := 1) rfl (w_op (c := w_i 4) (by decide +kernel) (w_il (fun _ => rfl) (w_get (by omega) (by omega) (by omega) (by omega) (by omega)  (w_run k_315472 (w_al (fun _ => rfl) (w_icI (x := 0) rfl ?_))))))))))
              have m1699 := st_fr s1688 m1687 (by decide)
              refine w_putf [.inl (w_i hh), .inl (w_i c), .inl (w_i ((((1 * c) * c) * c) * c)), .inr (.inl (some 2)), .inr (.inl (some 3)), .inr (.inl (some 4)), .inl (w_i 0), .inl (w_i sp13), .inl (w_i rl13)] m1699 rfl rfl rfl (fun _ => rfl) (fun h1701 s1700 => ?_)
              have z1703 := s1700.1
              have z1703y := s1700.2.1
              have z1703w := s1700.2.2.2.2 z1698w
              refine w_al (fun _ => rfl) (w_icI (x := 0) rfl (w_putf [.inl (w_i hh), .inl (w_i c), .inl (w_i ((((1 * c) * c) * c) * c)), .inr (.inl (some 2)), .inr (.inl (some 3)), .inr (.inl (some 4)), .inl (w_i 0), .inl (w_i 0), .inl (w_i rl13)] s1700.2.2.1 rfl rfl rfl (fun _ => rfl) (fun h1705 s1704 => ?_)))
              have z1707 := s1704.1
              have z1707y := s1704.2.1
              have z1707w := s1704.2.2.2.2 z1703w
              refine w_rv ⟨rfl, ?_⟩
              refine w_al (fun _ => rfl) (w_icI (x := 0) rfl ?_)
              have m1708 := st_fr s1401 m12 (by decide)
              have m1709 := st_fr s1405 m1708 (by decide)
              have m1710 := st_fr s1409 m1709 (by decide)
              have m1711 := st_fr s1416 m1710 (by decide)
              have m1712 := st_fr s1427 m1711 (by decide)
              have m1713 := st_fr s1439 m1712 (by decide)
              have m1714 := st_fr s1448 m1713 (by decide)
              have m1715 := st_fr s1458 m1714 (by decide)
              have m1716 := st_fr s1468 m1715 (by decide)
              have m1717 := st_fr s1478 m1716 (by decide)
              have m1718 := st_fr s1489 m1717 (by decide)
              have m1719 := st_fr s1500 m1718 (by decide)
              have m1720 := st_fr s1511 m1719 (by decide)
              have m1721 := st_fr s1523 m1720 (by decide)
              have m1722 := st_fr s1535 m1721 (by decide)
              have m1723 := st_fr s1547 m1722 (by decide)
              have m1724 := st_fr s1560 m1723 (by decide)
              have m1725 := st_fr s1573 m1724 (by decide)
              have m1726 := st_fr s1586 m1725 (by decide)
              have m1727 := st_fr s1600 m1726 (by decide)
              have m1728 := st_fr s1614 m1727 (by decide)
              have m1729 := st_fr s1628 m1728 (by decide)
              have m1730 := st_fr s1640 m1729 (by decide)
              have m1731 := st_fr s1652 m1730 (by decide)
              have m1732 := st_fr s1664 m1731 (by decide)
              have m1733 := st_fr s1676 m1732 (by decide)
              have m1734 := st_fr s1688 m1733 (by decide)
              have m1735 := st_fr s1700 m1734 (by decide)
              have m1736 := st_fr s1704 m1735 (by decide)
              refine w_putf [.inr (.inl (some 1)), .inr (.inl (some 5)), .inl (w_i 0), .inr (.inl (some 9)), .inr (.inl (some 17)), .inl (w_i (g_np g)), .inr (.inl (some 18)), .inr (.inl (some 23)), .inl (w_i (g_nt g)), .inr (.inl (some 24)), .inr (.inl (some 25)), .inr (.inl (some 26)), .inr (.inl (some 27))] m1736 rfl rfl rfl (fun _ => rfl) (fun h1738 s1737 => ?_)
              have z1740 := s1737.1
              have z1740y := s1737.2.1
              have z1740w := s1737.2.2.2.2 z1707w
              refine w_al (fun _ => rfl) (w_getf s1737.2.2.1 rfl (fun _ => rfl) ?_)
              have m1741 := st_fr s1401 m18 (by decide)
              have m1742 := st_fr s1405 m1741 (by decide)
              have m1743 := st_fr s1409 m1742 (by decide)
              have m1744 := st_fr s1416 m1743 (by decide)
              have m1745 := st_fr s1427 m1744 (by decide)
              have m1746 := st_fr s1439 m1745 (by decide)
              have m1747 := st_fr s1448 m1746 (by decide)
              have m1748 := st_fr s1458 m1747 (by decide)
              have m1749 := st_fr s1468 m1748 (by decide)
              have m1750 := st_fr s1478 m1749 (by decide)
              have m1751 := st_fr s1489 m1750 (by decide)
              have m1752 := st_fr s1500 m1751 (by decide)
              have m1753 := st_fr s1511 m1752 (by decide)
              have m1754 := st_fr s1523 m1753 (by decide)
              have m1755 := st_fr s1535 m1754 (by decide)
              have m1756 := st_fr s1547 m1755 (by decide)
              have m1757 := st_fr s1560 m1756 (by decide)
              have m1758 := st_fr s1573 m1757 (by decide)
              have m1759 := st_fr s1586 m1758 (by decide)
              have m1760 := st_fr s1600 m1759 (by decide)
              have m1761 := st_fr s1614 m1760 (by decide)
              have m1762 := st_fr s1628 m1761 (by decide)
              have m1763 := st_fr s1640 m1762 (by decide)
              have m1764 := st_fr s1652 m1763 (by decide)
              have m1765 := st_fr s1664 m1764 (by decide)
              have m1766 := st_fr s1676 m1765 (by decide)
              have m1767 := st_fr s1688 m1766 (by decide)
              have m1768 := st_fr s1700 m1767 (by decide)
              have m1769 := st_fr s1704 m1768 (by decide)
              have m1770 := st_fr s1737 m1769 (by decide)
              refine w_this (fun _ => rfl) m1770 (w_cv (fun _ => rfl) rfl (w_run k_57344 (w_al (fun _ => rfl) (w_icI (x := 0) rfl (w_putf [.inr (.inl (some 19)), .inl (w_i 0), .inr (.inl (some 20)), .inr (.inl (some 21)), .inl (w_i atp18), .inl (w_i tok18), .inl (w_i flt18), .inr (.inl (some 22)), .inl (w_i wri18)] m1770 rfl rfl rfl (fun _ => rfl) (fun h1772 s1771 => ?_))))))
              have z1774 := s1771.1
              have z1774y := s1771.2.1
              have z1774w := s1771.2.2.2.2 z1740w
              refine w_rv ⟨rfl, ?_⟩
              refine w_icI (x := 0) rfl (w_is (fun _ => rfl) (w_il (fun _ => rfl) (w_icI (x := 4) rfl (w_gef (by omega) (by omega) (by omega) (by omega) (by omega)  (w_al (fun _ => rfl) ?_)))))
              have m1775 := st_fr s1771 s1737.2.2.1 (by decide)
              refine w_getf m1775 rfl (fun _ => rfl) (w_il (fun _ => rfl) (w_nul ?_))
              have m1776 := st_fr s1401 m19 (by decide)
              have m1777 := st_fr s1405 m1776 (by decide)
              have m1778 := st_fr s1409 m1777 (by decide)
              have m1779 := st_fr s1416 m1778 (by decide)
              have m1780 := st_fr s1427 m1779 (by decide)
              have m1781 := st_fr s1439 m1780 (by decide)
              have m1782 := st_fr s1448 m1781 (by decide)
              have m1783 := st_fr s1458 m1782 (by decide)
              have m1784 := st_fr s1468 m1783 (by decide)
              have m1785 := st_fr s1478 m1784 (by decide)
              have m1786 := st_fr s1489 m1785 (by decide)
              have m1787 := st_fr s1500 m1786 (by decide)
              have m1788 := st_fr s1511 m1787 (by decide)
              have m1789 := st_fr s1523 m1788 (by decide)
              have m1790 := st_fr s1535 m1789 (by decide)
              have m1791 := st_fr s1547 m1790 (by decide)
              have m1792 := st_fr s1560 m1791 (by decide)
              have m1793 := st_fr s1573 m1792 (by decide)
              have m1794 := st_fr s1586 m1793 (by decide)
              have m1795 := st_fr s1600 m1794 (by decide)
              have m1796 := st_fr s1614 m1795 (by decide)
              have m1797 := st_fr s1628 m1796 (by decide)
              have m1798 := st_fr s1640 m1797 (by decide)
              have m1799 := st_fr s1652 m1798 (by decide)
              have m1800 := st_fr s1664 m1799 (by decide)
              have m1801 := st_fr s1676 m1800 (by decide)
              have m1802 := st_fr s1688 m1801 (by decide)
              have m1803 := st_fr s1700 m1802 (by decide)
              have m1804 := st_fr s1704 m1803 (by decide)
              have m1805 := st_fr s1737 m1804 (by decide)
              have m1806 := st_fr s1771 m1805 (by decide)
              refine w_aastI m1806 (by omega) (by omega) (by decide) isC_no (fun h1808 s1807 => ?_)
              have z1809 := set_no (j := (0).toNat) lp19 ll19 (Or.inl rfl)
              have z1810 := s1807.1
              have z1810y := s1807.2.1
              have z1810w := s1807.2.2.2.2 z1774w
              refine w_inc (c := w_i 1) (fun _ => rfl) (by decide +kernel) (fun _ => rfl) (w_go (w_run k_364611 (w_il (fun _ => rfl) (w_icI (x := 4) rfl (w_gef (by omega) (by omega) (by omega) (by omega) (by omega)  (w_al (fun _ => rfl) ?_))))))
              have m1811 := st_fr s1807 m1775 (by decide)
              refine w_getf m1811 rfl (fun _ => rfl) (w_il (fun _ => rfl) (w_nul (w_aastI s1807.2.2.1 (by omega) (by omega) (by decide) isC_no (fun h1813 s1812 => ?_))))
              have z1814 := set_no (j := (1).toNat) z1809.2 z1809.1 (Or.inl rfl)
              have z1815 := s1812.1
              have z1815y := s1812.2.1
              have z1815w := s1812.2.2.2.2 z1810w
              refine w_inc (c := w_i 2) (fun _ => rfl) (by decide +kernel) (fun _ => rfl) (w_go (w_run k_364611 (w_il (fun _ => rfl) (w_icI (x := 4) rfl (w_gef (by omega) (by omega) (by omega) (by omega) (by omega)  (w_al (fun _ => rfl) ?_))))))
              have m1816 := st_fr s1812 m1811 (by decide)
              refine w_getf m1816 rfl (fun _ => rfl) (w_il (fun _ => rfl) (w_nul (w_aastI s1812.2.2.1 (by omega) (by omega) (by decide) isC_no (fun h1818 s1817 => ?_))))
              have z1819 := set_no (j := (2).toNat) z1814.2 z1814.1 (Or.inl rfl)
              have z1820 := s1817.1
              have z1820y := s1817.2.1
              have z1820w := s1817.2.2.2.2 z1815w
              refine w_inc (c := w_i 3) (fun _ => rfl) (by decide +kernel) (fun _ => rfl) (w_go (w_run k_364611 (w_il (fun _ => rfl) (w_icI (x := 4) rfl (w_gef (by omega) (by omega) (by omega) (by omega) (by omega)  (w_al (fun _ => rfl) ?_))))))
              have m1821 := st_fr s1817 m1816 (by decide)
              refine w_getf m1821 rfl (fun _ => rfl) (w_il (fun _ => rfl) (w_nul (w_aastI s1817.2.2.1 (by omega) (by omega) (by decide) isC_no (fun h1823 s1822 => ?_))))
              have z1824 := set_no (j := (3).toNat) z1819.2 z1819.1 (Or.inl rfl)
              have z1825 := s1822.1
              have z1825y := s1822.2.1
              have z1825w := s1822.2.2.2.2 z1820w
              refine w_inc (c := w_i 4) (fun _ => rfl) (by decide +kernel) (fun _ => rfl) (w_go (w_run k_364611 (w_il (fun _ => rfl) (w_icI (x := 4) rfl (w_get (by omega) (by omega) (by omega) (by omega) (by omega)  (w_run k_364631 (w_al (fun _ => rfl) ?_)))))))
              have m1826 := st_fr s1822 m1821 (by decide)
              refine w_getf m1826 rfl (fun _ => rfl) ?_
              have m1827 := st_fr s1401 m17 (by decide)
              have m1828 := st_fr s1405 m1827 (by decide)
              have m1829 := st_fr s1409 m1828 (by decide)
              have m1830 := st_fr s1416 m1829 (by decide)
              have m1831 := st_fr s1427 m1830 (by decide)
              have m1832 := st_fr s1439 m1831 (by decide)
              have m1833 := st_fr s1448 m1832 (by decide)
              have m1834 := st_fr s1458 m1833 (by decide)
              have m1835 := st_fr s1468 m1834 (by decide)
              have m1836 := st_fr s1478 m1835 (by decide)
              have m1837 := st_fr s1489 m1836 (by decide)
              have m1838 := st_fr s1500 m1837 (by decide)
              have m1839 := st_fr s1511 m1838 (by decide)
              have m1840 := st_fr s1523 m1839 (by decide)
              have m1841 := st_fr s1535 m1840 (by decide)
              have m1842 := st_fr s1547 m1841 (by decide)
              have m1843 := st_fr s1560 m1842 (by decide)
              have m1844 := st_fr s1573 m1843 (by decide)
              have m1845 := st_fr s1586 m1844 (by decide)
              have m1846 := st_fr s1600 m1845 (by decide)
              have m1847 := st_fr s1614 m1846 (by decide)
              have m1848 := st_fr s1628 m1847 (by decide)
              have m1849 := st_fr s1640 m1848 (by decide)
              have m1850 := st_fr s1652 m1849 (by decide)
              have m1851 := st_fr s1664 m1850 (by decide)
              have m1852 := st_fr s1676 m1851 (by decide)
              have m1853 := st_fr s1688 m1852 (by decide)
              have m1854 := st_fr s1700 m1853 (by decide)
              have m1855 := st_fr s1704 m1854 (by decide)
              have m1856 := st_fr s1737 m1855 (by decide)
              have m1857 := st_fr s1771 m1856 (by decide)
              have m1858 := st_fr s1807 m1857 (by decide)
              have m1859 := st_fr s1812 m1858 (by decide)
              have m1860 := st_fr s1817 m1859 (by decide)
              have m1861 := st_fr s1822 m1860 (by decide)
              refine w_this (fun _ => rfl) m1861 (w_cv (fun _ => rfl) rfl (w_run k_151552 (w_al (fun _ => rfl) (w_icI (x := 0) rfl (w_putf [.inr (.inl (some 1)), .inr (.inl (some 10)), .inl (w_i 0), .inr (.inl (some 11)), .inl (w_i sta17), .inr (.inl (some (g_rw g))), .inl (w_i fnd17), .inr (.inl (some (g_stp g))), .inr (.inl (some (g_ahd g))), .inr (.inl (some (g_cst g))), .inr (.inl (some (g_chp g))), .inl (w_i kco17)] m1861 rfl rfl rfl (fun _ => rfl) (fun h1863 s1862 => ?_))))))
              have z1865 := s1862.1
              have z1865y := s1862.2.1
              have z1865w := s1862.2.2.2.2 z1825w
              refine w_al (fun _ => rfl) (w_icI (x := (-1)) wn_1 (w_putf [.inr (.inl (some 1)), .inr (.inl (some 10)), .inl (w_i 0), .inr (.inl (some 11)), .inl (w_i (-1)), .inr (.inl (some (g_rw g))), .inl (w_i fnd17), .inr (.inl (some (g_stp g))), .inr (.inl (some (g_ahd g))), .inr (.inl (some (g_cst g))), .inr (.inl (some (g_chp g))), .inl (w_i kco17)] s1862.2.2.1 rfl rfl rfl (fun _ => rfl) (fun h1867 s1866 => ?_)))
              have z1869 := s1866.1
              have z1869y := s1866.2.1
              have z1869w := s1866.2.2.2.2 z1865w
              refine w_rv ⟨rfl, ?_⟩
              refine w_il (fun _ => rfl) (w_ri ?_)
              have F1 := F.1
              have F2 := F.2.1
              have m1870 := st_fr s1700 s1688.2.2.1 (by decide)
              have m1871 := st_fr s1704 m1870 (by decide)
              have m1872 := st_fr s1737 m1871 (by decide)
              have m1873 := st_fr s1771 m1872 (by decide)
              have m1874 := st_fr s1807 m1873 (by decide)
              have m1875 := st_fr s1812 m1874 (by decide)
              have m1876 := st_fr s1817 m1875 (by decide)
              have m1877 := st_fr s1822 m1876 (by decide)
              have m1878 := st_fr s1862 m1877 (by decide)
              have m1879 := st_fr s1866 m1878 (by decide)
              have m1880 := st_fr s1737 s1704.2.2.1 (by decide)
              have m1881 := st_fr s1771 m1880 (by decide)
              have m1882 := st_fr s1807 m1881 (by decide)
              have m1883 := st_fr s1812 m1882 (by decide)
              have m1884 := st_fr s1817 m1883 (by decide)
              have m1885 := st_fr s1822 m1884 (by decide)
              have m1886 := st_fr s1862 m1885 (by decide)
              have m1887 := st_fr s1866 m1886 (by decide)
              have m1888 := st_fr s1862 s1822.2.2.1 (by decide)
              have m1889 := st_fr s1866 m1888 (by decide)
              have hN : ((((1 * c) * c) * c) * c) = w_pw c hh := by rw [hk, pn_4]
              have gz : g_nt (g_bu g hh c ((((1 * c) * c) * c) * c) A1690) = g_nt g := rfl
              have m1890 := st_fr s1862 m1826 (by decide)
              have m1891 := st_fr s1866 m1890 (by decide)
              have six1892 : ∀ j : Int, 0 ≤ j → j < 6 → 0 ≤ a_g A1690 j ∧ a_g A1690 j ≤ 63 := fun j j0 j1 => by
                rcases (show j = 0 ∨ j = 1 ∨ j = 2 ∨ j = 3 ∨ j = 4 ∨ j = 5 from by omega) with rfl | rfl | rfl | rfl | rfl | rfl
                · rw [q1692]; omega
                · rw [q1693]; omega
                · rw [q1694]; omega
                · rw [q1695]; omega
                · rw [q1696]; omega
                · rw [q1697]; omega
              have m1893 := st_fr s1614 s1600.2.2.1 (by decide)
              have m1894 := st_fr s1628 m1893 (by decide)
              have m1895 := st_fr s1640 m1894 (by decide)
              have m1896 := st_fr s1652 m1895 (by decide)
              have m1897 := st_fr s1664 m1896 (by decide)
              have m1898 := st_fr s1676 m1897 (by decide)
              have m1899 := st_fr s1688 m1898 (by decide)
              have m1900 := st_fr s1700 m1899 (by decide)
              have m1901 := st_fr s1704 m1900 (by decide)
              have m1902 := st_fr s1737 m1901 (by decide)
              have m1903 := st_fr s1771 m1902 (by decide)
              have m1904 := st_fr s1807 m1903 (by decide)
              have m1905 := st_fr s1812 m1904 (by decide)
              have m1906 := st_fr s1817 m1905 (by decide)
              have m1907 := st_fr s1822 m1906 (by decide)
              have m1908 := st_fr s1862 m1907 (by decide)
              have m1909 := st_fr s1866 m1908 (by decide)
              have six1910 : ∀ j : Int, 0 ≤ j → j < 6 → 0 ≤ a_g A1602 j ∧ a_g A1602 j < c := fun j j0 j1 => by
                rcases (show j = 0 ∨ j = 1 ∨ j = 2 ∨ j = 3 ∨ j = 4 ∨ j = 5 from by omega) with rfl | rfl | rfl | rfl | rfl | rfl
                · rw [q1604]; omega
                · rw [q1605]; omega
                · rw [q1606]; omega
                · rw [q1607]; omega
                · rw [q1608]; omega
                · rw [q1609]; omega
              have m1911 := st_fr s1628 s1614.2.2.1 (by decide)
              have m1912 := st_fr s1640 m1911 (by decide)
              have m1913 := st_fr s1652 m1912 (by decide)
              have m1914 := st_fr s1664 m1913 (by decide)
              have m1915 := st_fr s1676 m1914 (by decide)
              have m1916 := st_fr s1688 m1915 (by decide)
              have m1917 := st_fr s1700 m1916 (by decide)
              have m1918 := st_fr s1704 m1917 (by decide)
              have m1919 := st_fr s1737 m1918 (by decide)
              have m1920 := st_fr s1771 m1919 (by decide)
              have m1921 := st_fr s1807 m1920 (by decide)
              have m1922 := st_fr s1812 m1921 (by decide)
              have m1923 := st_fr s1817 m1922 (by decide)
              have m1924 := st_fr s1822 m1923 (by decide)
              have m1925 := st_fr s1862 m1924 (by decide)
              have m1926 := st_fr s1866 m1925 (by decide)
              have m1927 := st_fr s1807 s1771.2.2.1 (by decide)
              have m1928 := st_fr s1812 m1927 (by decide)
              have m1929 := st_fr s1817 m1928 (by decide)
              have m1930 := st_fr s1822 m1929 (by decide)
              have m1931 := st_fr s1862 m1930 (by decide)
              have m1932 := st_fr s1866 m1931 (by decide)
              have ivn := bu_fin (e0 := _) (e1 := _) (e18 := _) (e24 := _) (hh := hh) (c := c) (N := ((((1 * c) * c) * c) * c)) iv (by omega) (by omega) (by omega) (by omega) hN (by omega) z1869w (by omega) (fun q n0 n1 n2 n3 n4 n9 n18 n24 => (s1866.2.2.2.1 q n9).trans ((s1862.2.2.2.1 q n9).trans ((s1822.2.2.2.1 q n24).trans ((s1817.2.2.2.1 q n24).trans ((s1812.2.2.2.1 q n24).trans ((s1807.2.2.2.1 q n24).trans ((s1771.2.2.2.1 q n18).trans ((s1737.2.2.2.1 q n0).trans ((s1704.2.2.2.1 q n1).trans ((s1700.2.2.2.1 q n1).trans ((s1688.2.2.2.1 q n2).trans ((s1676.2.2.2.1 q n2).trans ((s1664.2.2.2.1 q n2).trans ((s1652.2.2.2.1 q n2).trans ((s1640.2.2.2.1 q n2).trans ((s1628.2.2.2.1 q n2).trans ((s1614.2.2.2.1 q n4).trans ((s1600.2.2.2.1 q n3).trans ((s1586.2.2.2.1 q n2).trans ((s1573.2.2.2.1 q n4).trans ((s1560.2.2.2.1 q n3).trans ((s1547.2.2.2.1 q n2).trans ((s1535.2.2.2.1 q n4).trans ((s1523.2.2.2.1 q n3).trans ((s1511.2.2.2.1 q n2).trans ((s1500.2.2.2.1 q n4).trans ((s1489.2.2.2.1 q n3).trans ((s1478.2.2.2.1 q n2).trans ((s1468.2.2.2.1 q n4).trans ((s1458.2.2.2.1 q n3).trans ((s1448.2.2.2.1 q n2).trans ((s1439.2.2.2.1 q n4).trans ((s1427.2.2.2.1 q n3).trans ((s1416.2.2.2.1 q n2).trans ((s1409.2.2.2.1 q n1).trans ((s1405.2.2.2.1 q n1).trans ((s1401.2.2.2.1 q n1).trans (rfl)))))))))))))))))))))))))))))))))))))) m1891 rfl m1887 ⟨_, _, _, rfl, by omega, by omega, by omega, by omega, by omega, by omega, by omega, by omega⟩ m1879 six1892 m1909 six1910 ⟨_, m1926⟩ s1866.2.2.1 ⟨by omega, by omega, by omega, by omega, by omega, by omega⟩ m1932 ⟨_, _, _, _, _, rfl, by omega, by omega, by omega, by omega, by omega, by omega, by omega, by omega, by omega, by omega, by omega, by omega, by omega, by omega, by omega, by omega, by omega⟩ m1889 ⟨_, rfl, z1824.1, z1824.2⟩
              exact k0 _ (g_bu g hh c ((((1 * c) * c) * c) * c) A1690) o h1867 ivn ch_gbu oe_rf (by omega) (by omega)
            · refine w_al (fun _ => rfl) (w_getf m12 rfl (fun _ => rfl) (w_il (fun _ => rfl) (w_il (fun _ => rfl) (w_this (fun _ => rfl) m13 (w_cv (fun _ => rfl) rfl (w_run k_315392 (w_al (fun _ => rfl) (w_il (fun _ => rfl) (w_putf [.inl (w_i hh), .inl (w_i (g_C g)), .inl (w_i (g_N g)), .inr (.inl (some 2)), .inr (.inl (some 3)), .inr (.inl (some 4)), .inl (w_i kp13), .inl (w_i sp13), .inl (w_i rl13)] m13 rfl rfl rfl (fun _ => rfl) (fun h1934 s1933 => ?_))))))))))
              have z1936 := s1933.1
              have z1936y := s1933.2.1
              have z1936w := s1933.2.2.2.2 z20w
              refine w_al (fun _ => rfl) (w_il (fun _ => rfl) (w_putf [.inl (w_i hh), .inl (w_i c), .inl (w_i (g_N g)), .inr (.inl (some 2)), .inr (.inl (some 3)), .inr (.inl (some 4)), .inl (w_i kp13), .inl (w_i sp13), .inl (w_i rl13)] s1933.2.2.1 rfl rfl rfl (fun _ => rfl) (fun h1938 s1937 => ?_)))
              have z1940 := s1937.1
              have z1940y := s1937.2.1
              have z1940w := s1937.2.2.2.2 z1936w
              refine w_al (fun _ => rfl) (w_il (fun _ => rfl) (w_il (fun _ => rfl) (w_ca (fun _ => rfl) rfl (w_run k_507904 (w_icI (x := 1) rfl (w_is (fun _ => rfl) (w_icI (x := 0) rfl (w_is (fun _ => rfl) (w_il (fun _ => rfl) (w_il (fun _ => rfl) (w_gef (by omega) (by omega) (by omega) (by omega) (by omega)  (w_il (fun _ => rfl) (w_il (fun _ => rfl) (w_op (c := w_i (1 * c)) (i_mul 1 c) (w_is (fun _ => rfl) (w_inc (c := w_i 1) (fun _ => rfl) (by decide +kernel) (fun _ => rfl) (w_go (w_run k_507908 (w_il (fun _ => rfl) (w_il (fun _ => rfl) (w_gef (by omega) (by omega) (by omega) (by omega) (by omega)  (w_il (fun _ => rfl) (w_il (fun _ => rfl) (w_op (c := w_i ((1 * c) * c)) (i_mul (1 * c) c) (w_is (fun _ => rfl) (w_inc (c := w_i 2) (fun _ => rfl) (by decide +kernel) (fun _ => rfl) (w_go (w_run k_507908 (w_il (fun _ => rfl) (w_il (fun _ => rfl) (w_gef (by omega) (by omega) (by omega) (by omega) (by omega)  (w_il (fun _ => rfl) (w_il (fun _ => rfl) (w_op (c := w_i (((1 * c) * c) * c)) (i_mul ((1 * c) * c) c) (w_is (fun _ => rfl) (w_inc (c := w_i 3) (fun _ => rfl) (by decide +kernel) (fun _ => rfl) (w_go (w_run k_507908 (w_il (fun _ => rfl) (w_il (fun _ => rfl) (w_gef (by omega) (by omega) (by omega) (by omega) (by omega)  (w_il (fun _ => rfl) (w_il (fun _ => rfl) (w_op (c := w_i ((((1 * c) * c) * c) * c)) (i_mul (((1 * c) * c) * c) c) (w_is (fun _ => rfl) (w_inc (c := w_i 4) (fun _ => rfl) (by decide +kernel) (fun _ => rfl) (w_go (w_run k_507908 (w_il (fun _ => rfl) (w_il (fun _ => rfl) (w_gef (by omega) (by omega) (by omega) (by omega) (by omega)  (w_il (fun _ => rfl) (w_il (fun _ => rfl) (w_op (c := w_i (((((1 * c) * c) * c) * c) * c)) (i_mul ((((1 * c) * c) * c) * c) c) (w_is (fun _ => rfl) (w_inc (c := w_i 5) (fun _ => rfl) (by decide +kernel) (fun _ => rfl) (w_go (w_run k_507908 (w_il (fun _ => rfl) (w_il (fun _ => rfl) (w_get (by omega) (by omega) (by omega) (by omega) (by omega)  (w_run k_507923 (w_il (fun _ => rfl) (w_ri ⟨_, rfl, ?_⟩))))))))))))))))))))))))))))))))))))))))))))))))))))))))))))))))
              refine w_putf [.inl (w_i hh), .inl (w_i c), .inl (w_i (((((1 * c) * c) * c) * c) * c)), .inr (.inl (some 2)), .inr (.inl (some 3)), .inr (.inl (some 4)), .inl (w_i kp13), .inl (w_i sp13), .inl (w_i rl13)] s1937.2.2.1 rfl rfl rfl (fun _ => rfl) (fun h1942 s1941 => ?_)
              have z1944 := s1941.1
              have z1944y := s1941.2.1
              have z1944w := s1941.2.2.2.2 z1940w
              refine w_icI (x := 0) rfl (w_is (fun _ => rfl) (w_il (fun _ => rfl) (w_icI (x := 6) rfl (w_gef (by omega) (by omega) (by omega) (by omega) (by omega)  (w_al (fun _ => rfl) (w_getf s1941.2.2.1 rfl (fun _ => rfl) (w_il (fun _ => rfl) (w_icI (x := 0) rfl ?_))))))))
              have m1945 := st_fr s1933 m14 (by decide)
              have m1946 := st_fr s1937 m1945 (by decide)
              have m1947 := st_fr s1941 m1946 (by decide)
              refine w_astI m1947 (by omega) (by omega) (by omega) (by omega) (by omega) (fun A1950 h1949 w1951 s1948 => ?_)
              have q1952 : a_g A1950 0 = 0 := (w1951 0 (by omega) (by omega)).trans (if_pos rfl)
              have z1953 := s1948.1
              have z1953y := s1948.2.1
              have z1953w := s1948.2.2.2.2 z1944w
              refine w_al (fun _ => rfl) ?_
              have m1954 := st_fr s1948 s1941.2.2.1 (by decide)
              refine w_getf m1954 rfl (fun _ => rfl) (w_il (fun _ => rfl) (w_il (fun _ => rfl) (w_icI (x := 2) rfl (w_opz (c := w_i 0) (by decide +kernel) (by decide +kernel) ?_))))
              have m1955 := st_fr s1933 m15 (by decide)
              have m1956 := st_fr s1937 m1955 (by decide)
              have m1957 := st_fr s1941 m1956 (by decide)
              have m1958 := st_fr s1948 m1957 (by decide)
              refine w_astI m1958 (by omega) (by omega) (by omega) (by omega) (by omega) (fun A1961 h1960 w1962 s1959 => ?_)
              have q1963 : a_g A1961 0 = 0 := (w1962 0 (by omega) (by omega)).trans (if_pos rfl)
              have z1964 := s1959.1
              have z1964y := s1959.2.1
              have z1964w := s1959.2.2.2.2 z1953w
              refine w_al (fun _ => rfl) ?_
              have m1965 := st_fr s1959 m1954 (by decide)
              refine w_getf m1965 rfl (fun _ => rfl) (w_il (fun _ => rfl) (w_icI (x := (-1)) wn_1 ?_))
              have m1966 := st_fr s1933 m16 (by decide)
              have m1967 := st_fr s1937 m1966 (by decide)
              have m1968 := st_fr s1941 m1967 (by decide)
              have m1969 := st_fr s1948 m1968 (by decide)
              have m1970 := st_fr s1959 m1969 (by decide)
              refine w_astI m1970 (by omega) (by omega) (by omega) (by omega) (by omega) (fun A1973 h1972 w1974 s1971 => ?_)
              have q1975 : a_g A1973 0 = (-1) := (w1974 0 (by omega) (by omega)).trans (if_pos rfl)
              have z1976 := s1971.1
              have z1976y := s1971.2.1
              have z1976w := s1971.2.2.2.2 z1964w
              refine w_inc (c := w_i 1) (fun _ => rfl) (by decide +kernel) (fun _ => rfl) (w_go (w_run k_315413 (w_il (fun _ => rfl) (w_icI (x := 6) rfl (w_gef (by omega) (by omega) (by omega) (by omega) (by omega)  (w_al (fun _ => rfl) ?_))))))
              have m1977 := st_fr s1971 m1965 (by decide)
              refine w_getf m1977 rfl (fun _ => rfl) (w_il (fun _ => rfl) (w_icI (x := 0) rfl ?_))
              have m1978 := st_fr s1959 s1948.2.2.1 (by decide)
              have m1979 := st_fr s1971 m1978 (by decide)
              refine w_astI m1979 (by omega) (by omega) (by omega) (by omega) (by omega) (fun A1982 h1981 w1983 s1980 => ?_)
              have q1984 : a_g A1982 0 = 0 := ((w1983 0 (by omega) (by omega)).trans (if_neg (by omega))).trans q1952
              have q1985 : a_g A1982 1 = 0 := (w1983 1 (by omega) (by omega)).trans (if_pos rfl)
              have z1986 := s1980.1
              have z1986y := s1980.2.1
              have z1986w := s1980.2.2.2.2 z1976w
              refine w_al (fun _ => rfl) ?_
              have m1987 := st_fr s1980 m1977 (by decide)
              refine w_getf m1987 rfl (fun _ => rfl) (w_il (fun _ => rfl) (w_il (fun _ => rfl) (w_icI (x := 2) rfl (w_opz (c := w_i 1) (by decide +kernel) (by decide +kernel) ?_))))
              have m1988 := st_fr s1971 s1959.2.2.1 (by decide)
              have m1989 := st_fr s1980 m1988 (by decide)
              refine w_astI m1989 (by omega) (by omega) (by omega) (by omega) (by omega) (fun A1992 h1991 w1993 s1990 => ?_)
              have q1994 : a_g A1992 0 = 0 := ((w1993 0 (by omega) (by omega)).trans (if_neg (by omega))).trans q1963
              have q1995 : a_g A1992 1 = 1 := (w1993 1 (by omega) (by omega)).trans (if_pos rfl)
              have z1996 := s1990.1
              have z1996y := s1990.2.1
              have z1996w := s1990.2.2.2.2 z1986w
              refine w_al (fun _ => rfl) ?_
              have m1997 := st_fr s1990 m1987 (by decide)
              refine w_getf m1997 rfl (fun _ => rfl) (w_il (fun _ => rfl) (w_icI (x := (-1)) wn_1 ?_))
              have m1998 := st_fr s1980 s1971.2.2.1 (by decide)
              have m1999 := st_fr s1990 m1998 (by decide)
              refine w_astI m1999 (by omega) (by omega) (by omega) (by omega) (by omega) (fun A2002 h2001 w2003 s2000 => ?_)
              have q2004 : a_g A2002 0 = (-1) := ((w2003 0 (by omega) (by omega)).trans (if_neg (by omega))).trans q1975
              have q2005 : a_g A2002 1 = (-1) := (w2003 1 (by omega) (by omega)).trans (if_pos rfl)
              have z2006 := s2000.1
              have z2006y := s2000.2.1
              have z2006w := s2000.2.2.2.2 z1996w
              refine w_inc (c := w_i 2) (fun _ => rfl) (by decide +kernel) (fun _ => rfl) (w_go (w_run k_315413 (w_il (fun _ => rfl) (w_icI (x := 6) rfl (w_gef (by omega) (by omega) (by omega) (by omega) (by omega)  (w_al (fun _ => rfl) ?_))))))
              have m2007 := st_fr s2000 m1997 (by decide)
              refine w_getf m2007 rfl (fun _ => rfl) (w_il (fun _ => rfl) (w_icI (x := 0) rfl ?_))
              have m2008 := st_fr s1990 s1980.2.2.1 (by decide)
              have m2009 := st_fr s2000 m2008 (by decide)
              refine w_astI m2009 (by omega) (by omega) (by omega) (by omega) (by omega) (fun A2012 h2011 w2013 s2010 => ?_)
              have q2014 : a_g A2012 0 = 0 := ((w2013 0 (by omega) (by omega)).trans (if_neg (by omega))).trans q1984
              have q2015 : a_g A2012 1 = 0 := ((w2013 1 (by omega) (by omega)).trans (if_neg (by omega))).trans q1985
              have q2016 : a_g A2012 2 = 0 := (w2013 2 (by omega) (by omega)).trans (if_pos rfl)
              have z2017 := s2010.1
              have z2017y := s2010.2.1
              have z2017w := s2010.2.2.2.2 z2006w
              refine w_al (fun _ => rfl) ?_
              have m2018 := st_fr s2010 m2007 (by decide)
              refine w_getf m2018 rfl (fun _ => rfl) (w_il (fun _ => rfl) (w_il (fun _ => rfl) (w_icI (x := 2) rfl (w_opz (c := w_i 0) (by decide +kernel) (by decide +kernel) ?_))))
              have m2019 := st_fr s2000 s1990.2.2.1 (by decide)
              have m2020 := st_fr s2010 m2019 (by decide)
              refine w_astI m2020 (by omega) (by omega) (by omega) (by omega) (by omega) (fun A2023 h2022 w2024 s2021 => ?_)
              have q2025 : a_g A2023 0 = 0 := ((w2024 0 (by omega) (by omega)).trans (if_neg (by omega))).trans q1994
              have q2026 : a_g A2023 1 = 1 := ((w2024 1 (by omega) (by omega)).trans (if_neg (by omega))).trans q1995
              have q2027 : a_g A2023 2 = 0 := (w2024 2 (by omega) (by omega)).trans (if_pos rfl)
              have z2028 := s2021.1
              have z2028y := s2021.2.1
              have z2028w := s2021.2.2.2.2 z2017w
              refine w_al (fun _ => rfl) ?_
              have m2029 := st_fr s2021 m2018 (by decide)
              refine w_getf m2029 rfl (fun _ => rfl) (w_il (fun _ => rfl) (w_icI (x := (-1)) wn_1 ?_))
              have m2030 := st_fr s2010 s2000.2.2.1 (by decide)
              have m2031 := st_fr s2021 m2030 (by decide)
              refine w_astI m2031 (by omega) (by omega) (by omega) (by omega) (by omega) (fun A2034 h2033 w2035 s2032 => ?_)
              have q2036 : a_g A2034 0 = (-1) := ((w2035 0 (by omega) (by omega)).trans (if_neg (by omega))).trans q2004
              have q2037 : a_g A2034 1 = (-1) := ((w2035 1 (by omega) (by omega)).trans (if_neg (by omega))).trans q2005
              have q2038 : a_g A2034 2 = (-1) := (w2035 2 (by omega) (by omega)).trans (if_pos rfl)
              have z2039 := s2032.1
              have z2039y := s2032.2.1
              have z2039w := s2032.2.2.2.2 z2028w
              refine w_inc (c := w_i 3) (fun _ => rfl) (by decide +kernel) (fun _ => rfl) (w_go (w_run k_315413 (w_il (fun _ => rfl) (w_icI (x := 6) rfl (w_gef (by omega) (by omega) (by omega) (by omega) (by omega)  (w_al (fun _ => rfl) ?_))))))
              have m2040 := st_fr s2032 m2029 (by decide)
              refine w_getf m2040 rfl (fun _ => rfl) (w_il (fun _ => rfl) (w_icI (x := 0) rfl ?_))
              have m2041 := st_fr s2021 s2010.2.2.1 (by decide)
              have m2042 := st_fr s2032 m2041 (by decide)
              refine w_astI m2042 (by omega) (by omega) (by omega) (by omega) (by omega) (fun A2045 h2044 w2046 s2043 => ?_)
              have q2047 : a_g A2045 0 = 0 := ((w2046 0 (by omega) (by omega)).trans (if_neg (by omega))).trans q2014
              have q2048 : a_g A2045 1 = 0 := ((w2046 1 (by omega) (by omega)).trans (if_neg (by omega))).trans q2015
              have q2049 : a_g A2045 2 = 0 := ((w2046 2 (by omega) (by omega)).trans (if_neg (by omega))).trans q2016
              have q2050 : a_g A2045 3 = 0 := (w2046 3 (by omega) (by omega)).trans (if_pos rfl)
              have z2051 := s2043.1
              have z2051y := s2043.2.1
              have z2051w := s2043.2.2.2.2 z2039w
              refine w_al (fun _ => rfl) ?_
              have m2052 := st_fr s2043 m2040 (by decide)
              refine w_getf m2052 rfl (fun _ => rfl) (w_il (fun _ => rfl) (w_il (fun _ => rfl) (w_icI (x := 2) rfl (w_opz (c := w_i 1) (by decide +kernel) (by decide +kernel) ?_))))
              have m2053 := st_fr s2032 s2021.2.2.1 (by decide)
              have m2054 := st_fr s2043 m2053 (by decide)
              refine w_astI m2054 (by omega) (by omega) (by omega) (by omega) (by omega) (fun A2057 h2056 w2058 s2055 => ?_)
              have q2059 : a_g A2057 0 = 0 := ((w2058 0 (by omega) (by omega)).trans (if_neg (by omega))).trans q2025
              have q2060 : a_g A2057 1 = 1 := ((w2058 1 (by omega) (by omega)).trans (if_neg (by omega))).trans q2026
              have q2061 : a_g A2057 2 = 0 := ((w2058 2 (by omega) (by omega)).trans (if_neg (by omega))).trans q2027
              have q2062 : a_g A2057 3 = 1 := (w2058 3 (by omega) (by omega)).trans (if_pos rfl)
              have z2063 := s2055.1
              have z2063y := s2055.2.1
              have z2063w := s2055.2.2.2.2 z2051w
              refine w_al (fun _ => rfl) ?_
              have m2064 := st_fr s2055 m2052 (by decide)
              refine w_getf m2064 rfl (fun _ => rfl) (w_il (fun _ => rfl) (w_icI (x := (-1)) wn_1 ?_))
              have m2065 := st_fr s2043 s2032.2.2.1 (by decide)
              have m2066 := st_fr s2055 m2065 (by decide)
              refine w_astI m2066 (by omega) (by omega) (by omega) (by omega) (by omega) (fun A2069 h2068 w2070 s2067 => ?_)
              have q2071 : a_g A2069 0 = (-1) := ((w2070 0 (by omega) (by omega)).trans (if_neg (by omega))).trans q2036
              have q2072 : a_g A2069 1 = (-1) := ((w2070 1 (by omega) (by omega)).trans (if_neg (by omega))).trans q2037
              have q2073 : a_g A2069 2 = (-1) := ((w2070 2 (by omega) (by omega)).trans (if_neg (by omega))).trans q2038
              have q2074 : a_g A2069 3 = (-1) := (w2070 3 (by omega) (by omega)).trans (if_pos rfl)
              have z2075 := s2067.1
              have z2075y := s2067.2.1
              have z2075w := s2067.2.2.2.2 z2063w
              refine w_inc (c := w_i 4) (fun _ => rfl) (by decide +kernel) (fun _ => rfl) (w_go (w_run k_315413 (w_il (fun _ => rfl) (w_icI (x := 6) rfl (w_gef (by omega) (by omega) (by omega) (by omega) (by omega)  (w_al (fun _ => rfl) ?_))))))
              have m2076 := st_fr s2067 m2064 (by decide)
              refine w_getf m2076 rfl (fun _ => rfl) (w_il (fun _ => rfl) (w_icI (x := 0) rfl ?_))
              have m2077 := st_fr s2055 s2043.2.2.1 (by decide)
              have m2078 := st_fr s2067 m2077 (by decide)
              refine w_astI m2078 (by omega) (by omega) (by omega) (by omega) (by omega) (fun A2081 h2080 w2082 s2079 => ?_)
              have q2083 : a_g A2081 0 = 0 := ((w2082 0 (by omega) (by omega)).trans (if_neg (by omega))).trans q2047
              have q2084 : a_g A2081 1 = 0 := ((w2082 1 (by omega) (by omega)).trans (if_neg (by omega))).trans q2048
              have q2085 : a_g A2081 2 = 0 := ((w2082 2 (by omega) (by omega)).trans (if_neg (by omega))).trans q2049
              have q2086 : a_g A2081 3 = 0 := ((w2082 3 (by omega) (by omega)).trans (if_neg (by omega))).trans q2050
              have q2087 : a_g A2081 4 = 0 := (w2082 4 (by omega) (by omega)).trans (if_pos rfl)
              have z2088 := s2079.1
              have z2088y := s2079.2.1
              have z2088w := s2079.2.2.2.2 z2075w
              refine w_al (fun _ => rfl) ?_
              have m2089 := st_fr s2079 m2076 (by decide)
              refine w_getf m2089 rfl (fun _ => rfl) (w_il (fun _ => rfl) (w_il (fun _ => rfl) (w_icI (x := 2) rfl (w_opz (c := w_i 0) (by decide +kernel) (by decide +kernel) ?_))))
              have m2090 := st_fr s2067 s2055.2.2.1 (by decide)
              have m2091 := st_fr s2079 m2090 (by decide)
              refine w_astI m2091 (by omega) (by omega) (by omega) (by omega) (by omega) (fun A2094 h2093 w2095 s2092 => ?_)
              have q2096 : a_g A2094 0 = 0 := ((w2095 0 (by omega) (by omega)).trans (if_neg (by omega))).trans q2059
              have q2097 : a_g A2094 1 = 1 := ((w2095 1 (by omega) (by omega)).trans (if_neg (by omega))).trans q2060
              have q2098 : a_g A2094 2 = 0 := ((w2095 2 (by omega) (by omega)).trans (if_neg (by omega))).trans q2061
              have q2099 : a_g A2094 3 = 1 := ((w2095 3 (by omega) (by omega)).trans (if_neg (by omega))).trans q2062
              have q2100 : a_g A2094 4 = 0 := (w2095 4 (by omega) (by omega)).trans (if_pos rfl)
              have z2101 := s2092.1
              have z2101y := s2092.2.1
              have z2101w := s2092.2.2.2.2 z2088w
              refine w_al (fun _ => rfl) ?_
              have m2102 := st_fr s2092 m2089 (by decide)
              refine w_getf m2102 rfl (fun _ => rfl) (w_il (fun _ => rfl) (w_icI (x := (-1)) wn_1 ?_))
              have m2103 := st_fr s2079 s2067.2.2.1 (by decide)
              have m2104 := st_fr s2092 m2103 (by decide)
              refine w_astI m2104 (by omega) (by omega) (by omega) (by omega) (by omega) (fun A2107 h2106 w2108 s2105 => ?_)
              have q2109 : a_g A2107 0 = (-1) := ((w2108 0 (by omega) (by omega)).trans (if_neg (by omega))).trans q2071
              have q2110 : a_g A2107 1 = (-1) := ((w2108 1 (by omega) (by omega)).trans (if_neg (by omega))).trans q2072
              have q2111 : a_g A2107 2 = (-1) := ((w2108 2 (by omega) (by omega)).trans (if_neg (by omega))).trans q2073
              have q2112 : a_g A2107 3 = (-1) := ((w2108 3 (by omega) (by omega)).trans (if_neg (by omega))).trans q2074
              have q2113 : a_g A2107 4 = (-1) := (w2108 4 (by omega) (by omega)).trans (if_pos rfl)
              have z2114 := s2105.1
              have z2114y := s2105.2.1
              have z2114w := s2105.2.2.2.2 z2101w
              refine w_inc (c := w_i 5) (fun _ => rfl) (by decide +kernel) (fun _ => rfl) (w_go (w_run k_315413 (w_il (fun _ => rfl) (w_icI (x := 6) rfl (w_gef (by omega) (by omega) (by omega) (by omega) (by omega)  (w_al (fun _ => rfl) ?_))))))
              have m2115 := st_fr s2105 m2102 (by decide)
              refine w_getf m2115 rfl (fun _ => rfl) (w_il (fun _ => rfl) (w_icI (x := 0) rfl ?_))
              have m2116 := st_fr s2092 s2079.2.2.1 (by decide)
              have m2117 := st_fr s2105 m2116 (by decide)
              refine w_astI m2117 (by omega) (by omega) (by omega) (by omega) (by omega) (fun A2120 h2119 w2121 s2118 => ?_)
              have q2122 : a_g A2120 0 = 0 := ((w2121 0 (by omega) (by omega)).trans (if_neg (by omega))).trans q2083
              have q2123 : a_g A2120 1 = 0 := ((w2121 1 (by omega) (by omega)).trans (if_neg (by omega))).trans q2084
              have q2124 : a_g A2120 2 = 0 := ((w2121 2 (by omega) (by omega)).trans (if_neg (by omega))).trans q2085
              have q2125 : a_g A2120 3 = 0 := ((w2121 3 (by omega) (by omega)).trans (if_neg (by omega))).trans q2086
              have q2126 : a_g A2120 4 = 0 := ((w2121 4 (by omega) (by omega)).trans (if_neg (by omega))).trans q2087
              have q2127 : a_g A2120 5 = 0 := (w2121 5 (by omega) (by omega)).trans (if_pos rfl)
              have z2128 := s2118.1
              have z2128y := s2118.2.1
              have z2128w := s2118.2.2.2.2 z2114w
              refine w_al (fun _ => rfl) ?_
              have m2129 := st_fr s2118 m2115 (by decide)
              refine w_getf m2129 rfl (fun _ => rfl) (w_il (fun _ => rfl) (w_il (fun _ => rfl) (w_icI (x := 2) rfl (w_opz (c := w_i 1) (by decide +kernel) (by decide +kernel) ?_))))
              have m2130 := st_fr s2105 s2092.2.2.1 (by decide)
              have m2131 := st_fr s2118 m2130 (by decide)
              refine w_astI m2131 (by omega) (by omega) (by omega) (by omega) (by omega) (fun A2134 h2133 w2135 s2132 => ?_)
              have q2136 : a_g A2134 0 = 0 := ((w2135 0 (by omega) (by omega)).trans (if_neg (by omega))).trans q2096
              have q2137 : a_g A2134 1 = 1 := ((w2135 1 (by omega) (by omega)).trans (if_neg (by omega))).trans q2097
              have q2138 : a_g A2134 2 = 0 := ((w2135 2 (by omega) (by omega)).trans (if_neg (by omega))).trans q2098
              have q2139 : a_g A2134 3 = 1 := ((w2135 3 (by omega) (by omega)).trans (if_neg (by omega))).trans q2099
              have q2140 : a_g A2134 4 = 0 := ((w2135 4 (by omega) (by omega)).trans (if_neg (by omega))).trans q2100
              have q2141 : a_g A2134 5 = 1 := (w2135 5 (by omega) (by omega)).trans (if_pos rfl)
              have z2142 := s2132.1
              have z2142y := s2132.2.1
              have z2142w := s2132.2.2.2.2 z2128w
              refine w_al (fun _ => rfl) ?_
              have m2143 := st_fr s2132 m2129 (by decide)
              refine w_getf m2143 rfl (fun _ => rfl) (w_il (fun _ => rfl) (w_icI (x := (-1)) wn_1 ?_))
              have m2144 := st_fr s2118 s2105.2.2.1 (by decide)
              have m2145 := st_fr s2132 m2144 (by decide)
              refine w_astI m2145 (by omega) (by omega) (by omega) (by omega) (by omega) (fun A2148 h2147 w2149 s2146 => ?_)
              have q2150 : a_g A2148 0 = (-1) := ((w2149 0 (by omega) (by omega)).trans (if_neg (by omega))).trans q2109
              have q2151 : a_g A2148 1 = (-1) := ((w2149 1 (by omega) (by omega)).trans (if_neg (by omega))).trans q2110
              have q2152 : a_g A2148 2 = (-1) := ((w2149 2 (by omega) (by omega)).trans (if_neg (by omega))).trans q2111
              have q2153 : a_g A2148 3 = (-1) := ((w2149 3 (by omega) (by omega)).trans (if_neg (by omega))).trans q2112
              have q2154 : a_g A2148 4 = (-1) := ((w2149 4 (by omega) (by omega)).trans (if_neg (by omega))).trans q2113
              have q2155 : a_g A2148 5 = (-1) := (w2149 5 (by omega) (by omega)).trans (if_pos rfl)
              have z2156 := s2146.1
              have z2156y := s2146.2.1
              have z2156w := s2146.2.2.2.2 z2142w
              refine w_inc (c := w_i 6) (fun _ => rfl) (by decide +kernel) (fun _ => rfl) (w_go (w_run k_315413 (w_il (fun _ => rfl) (w_icI (x := 6) rfl (w_get (by omega) (by omega) (by omega) (by omega) (by omega)  (w_run k_315448 (w_icI (x := 0) rfl (w_is (fun _ => rfl) (w_il (fun _ => rfl) (w_icI (x := 1) rfl (w_op (c := w_i 1) (by decide +kernel) (w_il (fun _ => rfl) (w_gef (by omega) (by omega) (by omega) (by omega) (by omega)  (w_al (fun _ => rfl) (w_il (fun _ => rfl) (w_il (fun _ => rfl) (w_icI (x := 1) rfl (w_op (c := w_i 1) (by decide +kernel) (w_icI (x := 1) rfl ?_)))))))))))))))))))
              have m2157 := st_fr s2146 m2143 (by decide)
              refine w_this (fun _ => rfl) m2157 (w_cv (fun _ => rfl) rfl (w_run k_323584 (w_al (fun _ => rfl) (w_getf m2157 rfl (fun _ => rfl) (w_il (fun _ => rfl) (w_al (fun _ => rfl) (w_getf m2157 rfl (fun _ => rfl) (w_il (fun _ => rfl) ?_))))))))
              have m2158 := st_fr s2132 s2118.2.2.1 (by decide)
              have m2159 := st_fr s2146 m2158 (by decide)
              refine w_aldI m2159 (by omega) (by omega) (by omega) ?_
              rw [q2122]
              refine w_icI (x := 1) rfl (w_il (fun _ => rfl) (w_op (c := w_i 2) (by decide +kernel) (w_icI (x := (-1)) wn_1 (w_op (c := w_i (-3)) (by decide +kernel) (w_op (c := w_i 0) (by decide +kernel) (w_il (fun _ => rfl) (w_eqzf (by omega) (by omega) (by omega)  (w_icI (x := 1) rfl (w_il (fun _ => rfl) (w_op (c := w_i 2) (by decide +kernel) (w_go (w_run k_323612 (w_op (c := w_i 2) (by decide +kernel) (w_astI m2159 (by omega) (by omega) (by omega) (by omega) (by omega) (fun A2162 h2161 w2163 s2160 => ?_)))))))))))))))
              have q2164 : a_g A2162 0 = 2 := (w2163 0 (by omega) (by omega)).trans (if_pos rfl)
              have q2165 : a_g A2162 1 = 0 := ((w2163 1 (by omega) (by omega)).trans (if_neg (by omega))).trans q2123
              have q2166 : a_g A2162 2 = 0 := ((w2163 2 (by omega) (by omega)).trans (if_neg (by omega))).trans q2124
              have q2167 : a_g A2162 3 = 0 := ((w2163 3 (by omega) (by omega)).trans (if_neg (by omega))).trans q2125
              have q2168 : a_g A2162 4 = 0 := ((w2163 4 (by omega) (by omega)).trans (if_neg (by omega))).trans q2126
              have q2169 : a_g A2162 5 = 0 := ((w2163 5 (by omega) (by omega)).trans (if_neg (by omega))).trans q2127
              have z2170 := s2160.1
              have z2170y := s2160.2.1
              have z2170w := s2160.2.2.2.2 z2156w
              refine w_al (fun _ => rfl) ?_
              have m2171 := st_fr s2160 m2157 (by decide)
              refine w_getf m2171 rfl (fun _ => rfl) (w_il (fun _ => rfl) (w_al (fun _ => rfl) (w_getf m2171 rfl (fun _ => rfl) (w_il (fun _ => rfl) (w_aldI s2160.2.2.1 (by omega) (by omega) (by omega) ?_)))))
              rw [q2165]
              refine w_icI (x := 1) rfl (w_il (fun _ => rfl) (w_op (c := w_i 1) (by decide +kernel) (w_icI (x := (-1)) wn_1 (w_op (c := w_i (-2)) (by decide +kernel) (w_op (c := w_i 0) (by decide +kernel) (w_il (fun _ => rfl) (w_eqzf (by omega) (by omega) (by omega)  (w_icI (x := 1) rfl (w_il (fun _ => rfl) (w_op (c := w_i 1) (by decide +kernel) (w_go (w_run k_323642 (w_op (c := w_i 1) (by decide +kernel) (w_astI s2160.2.2.1 (by omega) (by omega) (by omega) (by omega) (by omega) (fun A2174 h2173 w2175 s2172 => ?_)))))))))))))))
              have q2176 : a_g A2174 0 = 2 := ((w2175 0 (by omega) (by omega)).trans (if_neg (by omega))).trans q2164
              have q2177 : a_g A2174 1 = 1 := (w2175 1 (by omega) (by omega)).trans (if_pos rfl)
              have q2178 : a_g A2174 2 = 0 := ((w2175 2 (by omega) (by omega)).trans (if_neg (by omega))).trans q2166
              have q2179 : a_g A2174 3 = 0 := ((w2175 3 (by omega) (by omega)).trans (if_neg (by omega))).trans q2167
              have q2180 : a_g A2174 4 = 0 := ((w2175 4 (by omega) (by omega)).trans (if_neg (by omega))).trans q2168
              have q2181 : a_g A2174 5 = 0 := ((w2175 5 (by omega) (by omega)).trans (if_neg (by omega))).trans q2169
              have z2182 := s2172.1
              have z2182y := s2172.2.1
              have z2182w := s2172.2.2.2.2 z2170w
              refine w_rv ⟨rfl, ?_⟩
              refine w_inc (c := w_i 1) (fun _ => rfl) (by decide +kernel) (fun _ => rfl) (w_go (w_run k_315450 (w_il (fun _ => rfl) (w_icI (x := 1) rfl (w_op (c := w_i 2) (by decide +kernel) (w_il (fun _ => rfl) (w_gef (by omega) (by omega) (by omega) (by omega) (by omega)  (w_al (fun _ => rfl) (w_il (fun _ => rfl) (w_il (fun _ => rfl) (w_icI (x := 1) rfl (w_op (c := w_i 2) (by decide +kernel) (w_icI (x := 1) rfl ?_)))))))))))))
              have m2183 := st_fr s2172 m2171 (by decide)
              refine w_this (fun _ => rfl) m2183 (w_cv (fun _ => rfl) rfl (w_run k_323584 (w_al (fun _ => rfl) (w_getf m2183 rfl (fun _ => rfl) (w_il (fun _ => rfl) (w_al (fun _ => rfl) (w_getf m2183 rfl (fun _ => rfl) (w_il (fun _ => rfl) (w_aldI s2172.2.2.1 (by omega) (by omega) (by omega) ?_)))))))))
              rw [q2177]
              refine w_icI (x := 1) rfl (w_il (fun _ => rfl) (w_op (c := w_i 4) (by decide +kernel) (w_icI (x := (-1)) wn_1 (w_op (c := w_i (-5)) (by decide +kernel) (w_op (c := w_i 1) (by decide +kernel) (w_il (fun _ => rfl) (w_eqzf (by omega) (by omega) (by omega)  (w_icI (x := 1) rfl (w_il (fun _ => rfl) (w_op (c := w_i 4) (by decide +kernel) (w_go (w_run k_323612 (w_op (c := w_i 5) (by decide +kernel) (w_astI s2172.2.2.1 (by omega) (by omega) (by omega) (by omega) (by omega) (fun A2186 h2185 w2187 s2184 => ?_)))))))))))))))
              have q2188 : a_g A2186 0 = 2 := ((w2187 0 (by omega) (by omega)).trans (if_neg (by omega))).trans q2176
              have q2189 : a_g A2186 1 = 5 := (w2187 1 (by omega) (by omega)).trans (if_pos rfl)
              have q2190 : a_g A2186 2 = 0 := ((w2187 2 (by omega) (by omega)).trans (if_neg (by omega))).trans q2178
              have q2191 : a_g A2186 3 = 0 := ((w2187 3 (by omega) (by omega)).trans (if_neg (by omega))).trans q2179
              have q2192 : a_g A2186 4 = 0 := ((w2187 4 (by omega) (by omega)).trans (if_neg (by omega))).trans q2180
              have q2193 : a_g A2186 5 = 0 := ((w2187 5 (by omega) (by omega)).trans (if_neg (by omega))).trans q2181
              have z2194 := s2184.1
              have z2194y := s2184.2.1
              have z2194w := s2184.2.2.2.2 z2182w
              refine w_al (fun _ => rfl) ?_
              have m2195 := st_fr s2184 m2183 (by decide)
              refine w_getf m2195 rfl (fun _ => rfl) (w_il (fun _ => rfl) (w_al (fun _ => rfl) (w_getf m2195 rfl (fun _ => rfl) (w_il (fun _ => rfl) (w_aldI s2184.2.2.1 (by omega) (by omega) (by omega) ?_)))))
              rw [q2190]
              refine w_icI (x := 1) rfl (w_il (fun _ => rfl) (w_op (c := w_i 2) (by decide +kernel) (w_icI (x := (-1)) wn_1 (w_op (c := w_i (-3)) (by decide +kernel) (w_op (c := w_i 0) (by decide +kernel) (w_il (fun _ => rfl) (w_eqzf (by omega) (by omega) (by omega)  (w_icI (x := 1) rfl (w_il (fun _ => rfl) (w_op (c := w_i 2) (by decide +kernel) (w_go (w_run k_323642 (w_op (c := w_i 2) (by decide +kernel) (w_astI s2184.2.2.1 (by omega) (by omega) (by omega) (by omega) (by omega) (fun A2198 h2197 w2199 s2196 => ?_)))))))))))))))
              have q2200 : a_g A2198 0 = 2 := ((w2199 0 (by omega) (by omega)).trans (if_neg (by omega))).trans q2188
              have q2201 : a_g A2198 1 = 5 := ((w2199 1 (by omega) (by omega)).trans (if_neg (by omega))).trans q2189
              have q2202 : a_g A2198 2 = 2 := (w2199 2 (by omega) (by omega)).trans (if_pos rfl)
              have q2203 : a_g A2198 3 = 0 := ((w2199 3 (by omega) (by omega)).trans (if_neg (by omega))).trans q2191
              have q2204 : a_g A2198 4 = 0 := ((w2199 4 (by omega) (by omega)).trans (if_neg (by omega))).trans q2192
              have q2205 : a_g A2198 5 = 0 := ((w2199 5 (by omega) (by omega)).trans (if_neg (by omega))).trans q2193
              have z2206 := s2196.1
              have z2206y := s2196.2.1
              have z2206w := s2196.2.2.2.2 z2194w
              refine w_rv ⟨rfl, ?_⟩
              refine w_inc (c := w_i 2) (fun _ => rfl) (by decide +kernel) (fun _ => rfl) (w_go (w_run k_315450 (w_il (fun _ => rfl) (w_icI (x := 1) rfl (w_op (c := w_i 3) (by decide +kernel) (w_il (fun _ => rfl) (w_gef (by omega) (by omega) (by omega) (by omega) (by omega)  (w_al (fun _ => rfl) (w_il (fun _ => rfl) (w_il (fun _ => rfl) (w_icI (x := 1) rfl (w_op (c := w_i 3) (by decide +kernel) (w_icI (x := 1) rfl ?_)))))))))))))
              have m2207 := st_fr s2196 m2195 (by decide)
              refine w_this (fun _ => rfl) m2207 (w_cv (fun _ => rfl) rfl (w_run k_323584 (w_al (fun _ => rfl) (w_getf m2207 rfl (fun _ => rfl) (w_il (fun _ => rfl) (w_al (fun _ => rfl) (w_getf m2207 rfl (fun _ => rfl) (w_il (fun _ => rfl) (w_aldI s2196.2.2.1 (by omega) (by omega) (by omega) ?_)))))))))
              rw [q2202]
              refine w_icI (x := 1) rfl (w_il (fun _ => rfl) (w_op (c := w_i 8) (by decide +kernel) (w_icI (x := (-1)) wn_1 (w_op (c := w_i (-9)) (by decide +kernel) (w_op (c := w_i 2) (by decide +kernel) (w_il (fun _ => rfl) (w_eqzf (by omega) (by omega) (by omega)  (w_icI (x := 1) rfl (w_il (fun _ => rfl) (w_op (c := w_i 8) (by decide +kernel) (w_go (w_run k_323612 (w_op (c := w_i 10) (by decide +kernel) (w_astI s2196.2.2.1 (by omega) (by omega) (by omega) (by omega) (by omega) (fun A2210 h2209 w2211 s2208 => ?_)))))))))))))))
              have q2212 : a_g A2210 0 = 2 := ((w2211 0 (by omega) (by omega)).trans (if_neg (by omega))).trans q2200
              have q2213 : a_g A2210 1 = 5 := ((w2211 1 (by omega) (by omega)).trans (if_neg (by omega))).trans q2201
              have q2214 : a_g A2210 2 = 10 := (w2211 2 (by omega) (by omega)).trans (if_pos rfl)
              have q2215 : a_g A2210 3 = 0 := ((w2211 3 (by omega) (by omega)).trans (if_neg (by omega))).trans q2203
              have q2216 : a_g A2210 4 = 0 := ((w2211 4 (by omega) (by omega)).trans (if_neg (by omega))).trans q2204
              have q2217 : a_g A2210 5 = 0 := ((w2211 5 (by omega) (by omega)).trans (if_neg (by omega))).trans q2205
              have z2218 := s2208.1
              have z2218y := s2208.2.1
              have z2218w := s2208.2.2.2.2 z2206w
              refine w_al (fun _ => rfl) ?_
              have m2219 := st_fr s2208 m2207 (by decide)
              refine w_getf m2219 rfl (fun _ => rfl) (w_il (fun _ => rfl) (w_al (fun _ => rfl) (w_getf m2219 rfl (fun _ => rfl) (w_il (fun _ => rfl) (w_aldI s2208.2.2.1 (by omega) (by omega) (by omega) ?_)))))
              rw [q2215]
              refine w_icI (x := 1) rfl (w_il (fun _ => rfl) (w_op (c := w_i 4) (by decide +kernel) (w_icI (x := (-1)) wn_1 (w_op (c := w_i (-5)) (by decide +kernel) (w_op (c := w_i 0) (by decide +kernel) (w_il (fun _ => rfl) (w_eqzf (by omega) (by omega) (by omega)  (w_icI (x := 1) rfl (w_il (fun _ => rfl) (w_op (c := w_i 4) (by decide +kernel) (w_go (w_run k_323642 (w_op (c := w_i 4) (by decide +kernel) (w_astI s2208.2.2.1 (by omega) (by omega) (by omega) (by omega) (by omega) (fun A2222 h2221 w2223 s2220 => ?_)))))))))))))))
              have q2224 : a_g A2222 0 = 2 := ((w2223 0 (by omega) (by omega)).trans (if_neg (by omega))).trans q2212
              have q2225 : a_g A2222 1 = 5 := ((w2223 1 (by omega) (by omega)).trans (if_neg (by omega))).trans q2213
              have q2226 : a_g A2222 2 = 10 := ((w2223 2 (by omega) (by omega)).trans (if_neg (by omega))).trans q2214
              have q2227 : a_g A2222 3 = 4 := (w2223 3 (by omega) (by omega)).trans (if_pos rfl)
              have q2228 : a_g A2222 4 = 0 := ((w2223 4 (by omega) (by omega)).trans (if_neg (by omega))).trans q2216
              have q2229 : a_g A2222 5 = 0 := ((w2223 5 (by omega) (by omega)).trans (if_neg (by omega))).trans q2217
              have z2230 := s2220.1
              have z2230y := s2220.2.1
              have z2230w := s2220.2.2.2.2 z2218w
              refine w_rv ⟨rfl, ?_⟩
              refine w_inc (c := w_i 3) (fun _ => rfl) (by decide +kernel) (fun _ => rfl) (w_go (w_run k_315450 (w_il (fun _ => rfl) (w_icI (x := 1) rfl (w_op (c := w_i 4) (by decide +kernel) (w_il (fun _ => rfl) (w_gef (by omega) (by omega) (by omega) (by omega) (by omega)  (w_al (fun _ => rfl) (w_il (fun _ => rfl) (w_il (fun _ => rfl) (w_icI (x := 1) rfl (w_op (c := w_i 4) (by decide +kernel) (w_icI (x := 1) rfl ?_)))))))))))))
              have m2231 := st_fr s2220 m2219 (by decide)
              refine w_this (fun _ => rfl) m2231 (w_cv (fun _ => rfl) rfl (w_run k_323584 (w_al (fun _ => rfl) (w_getf m2231 rfl (fun _ => rfl) (w_il (fun _ => rfl) (w_al (fun _ => rfl) (w_getf m2231 rfl (fun _ => rfl) (w_il (fun _ => rfl) (w_aldI s2220.2.2.1 (by omega) (by omega) (by omega) ?_)))))))))
              rw [q2227]
              refine w_icI (x := 1) rfl (w_il (fun _ => rfl) (w_op (c := w_i 16) (by decide +kernel) (w_icI (x := (-1)) wn_1 (w_op (c := w_i (-17)) (by decide +kernel) (w_op (c := w_i 4) (by decide +kernel) (w_il (fun _ => rfl) (w_eqzf (by omega) (by omega) (by omega)  (w_icI (x := 1) rfl (w_il (fun _ => rfl) (w_op (c := w_i 16) (by decide +kernel) (w_go (w_run k_323612 (w_op (c := w_i 20) (by decide +kernel) (w_astI s2220.2.2.1 (by omega) (by omega) (by omega) (by omega) (by omega) (fun A2234 h2233 w2235 s2232 => ?_)))))))))))))))
              have q2236 : a_g A2234 0 = 2 := ((w2235 0 (by omega) (by omega)).trans (if_neg (by omega))).trans q2224
              have q2237 : a_g A2234 1 = 5 := ((w2235 1 (by omega) (by omega)).trans (if_neg (by omega))).trans q2225
              have q2238 : a_g A2234 2 = 10 := ((w2235 2 (by omega) (by omega)).trans (if_neg (by omega))).trans q2226
              have q2239 : a_g A2234 3 = 20 := (w2235 3 (by omega) (by omega)).trans (if_pos rfl)
              have q2240 : a_g A2234 4 = 0 := ((w2235 4 (by omega) (by omega)).trans (if_neg (by omega))).trans q2228
              have q2241 : a_g A2234 5 = 0 := ((w2235 5 (by omega) (by omega)).trans (if_neg (by omega))).trans q2229
              have z2242 := s2232.1
              have z2242y := s2232.2.1
              have z2242w := s2232.2.2.2.2 z2230w
              refine w_al (fun _ => rfl) ?_
              have m2243 := st_fr s2232 m2231 (by decide)
              refine w_getf m2243 rfl (fun _ => rfl) (w_il (fun _ => rfl) (w_al (fun _ => rfl) (w_getf m2243 rfl (fun _ => rfl) (w_il (fun _ => rfl) (w_aldI s2232.2.2.1 (by omega) (by omega) (by omega) ?_)))))
              rw [q2240]
              refine w_icI (x := 1) rfl (w_il (fun _ => rfl) (w_op (c := w_i 8) (by decide +kernel) (w_icI (x := (-1)) wn_1 (w_op (c := w_i (-9)) (by decide +kernel) (w_op (c := w_i 0) (by decide +kernel) (w_il (fun _ => rfl) (w_eqzf (by omega) (by omega) (by omega)  (w_icI (x := 1) rfl (w_il (fun _ => rfl) (w_op (c := w_i 8) (by decide +kernel) (w_go (w_run k_323642 (w_op (c := w_i 8) (by decide +kernel) (w_astI s2232.2.2.1 (by omega) (by omega) (by omega) (by omega) (by omega) (fun A2246 h2245 w2247 s2244 => ?_)))))))))))))))
              have q2248 : a_g A2246 0 = 2 := ((w2247 0 (by omega) (by omega)).trans (if_neg (by omega))).trans q2236
              have q2249 : a_g A2246 1 = 5 := ((w2247 1 (by omega) (by omega)).trans (if_neg (by omega))).trans q2237
              have q2250 : a_g A2246 2 = 10 := ((w2247 2 (by omega) (by omega)).trans (if_neg (by omega))).trans q2238
              have q2251 : a_g A2246 3 = 20 := ((w2247 3 (by omega) (by omega)).trans (if_neg (by omega))).trans q2239
              have q2252 : a_g A2246 4 = 8 := (w2247 4 (by omega) (by omega)).trans (if_pos rfl)
              have q2253 : a_g A2246 5 = 0 := ((w2247 5 (by omega) (by omega)).trans (if_neg (by omega))).trans q2241
              have z2254 := s2244.1
              have z2254y := s2244.2.1
              have z2254w := s2244.2.2.2.2 z2242w
              refine w_rv ⟨rfl, ?_⟩
              refine w_inc (c := w_i 4) (fun _ => rfl) (by decide +kernel) (fun _ => rfl) (w_go (w_run k_315450 (w_il (fun _ => rfl) (w_icI (x := 1) rfl (w_op (c := w_i 5) (by decide +kernel) (w_il (fun _ => rfl) (w_get (by omega) (by omega) (by omega) (by omega) (by omega)  (w_run k_315472 (w_al (fun _ => rfl) (w_icI (x := 0) rfl ?_))))))))))
              have m2255 := st_fr s2244 m2243 (by decide)
              refine w_putf [.inl (w_i hh), .inl (w_i c), .inl (w_i (((((1 * c) * c) * c) * c) * c)), .inr (.inl (some 2)), .inr (.inl (some 3)), .inr (.inl (some 4)), .inl (w_i 0), .inl (w_i sp13), .inl (w_i rl13)] m2255 rfl rfl rfl (fun _ => rfl) (fun h2257 s2256 => ?_)
              have z2259 := s2256.1
              have z2259y := s2256.2.1
              have z2259w := s2256.2.2.2.2 z2254w
              refine w_al (fun _ => rfl) (w_icI (x := 0) rfl (w_putf [.inl (w_i hh), .inl (w_i c), .inl (w_i (((((1 * c) * c) * c) * c) * c)), .inr (.inl (some 2)), .inr (.inl (some 3)), .inr (.inl (some 4)), .inl (w_i 0), .inl (w_i 0), .inl (w_i rl13)] s2256.2.2.1 rfl rfl rfl (fun _ => rfl) (fun h2261 s2260 => ?_)))
              have z2263 := s2260.1
              have z2263y := s2260.2.1
              have z2263w := s2260.2.2.2.2 z2259w
              refine w_rv ⟨rfl, ?_⟩
              refine w_al (fun _ => rfl) (w_icI (x := 0) rfl ?_)
              have m2264 := st_fr s1933 m12 (by decide)
              have m2265 := st_fr s1937 m2264 (by decide)
              have m2266 := st_fr s1941 m2265 (by decide)
              have m2267 := st_fr s1948 m2266 (by decide)
              have m2268 := st_fr s1959 m2267 (by decide)
              have m2269 := st_fr s1971 m2268 (by decide)
              have m2270 := st_fr s1980 m2269 (by decide)
              have m2271 := st_fr s1990 m2270 (by decide)
              have m2272 := st_fr s2000 m2271 (by decide)
              have m2273 := st_fr s2010 m2272 (by decide)
              have m2274 := st_fr s2021 m2273 (by decide)
              have m2275 := st_fr s2032 m2274 (by decide)
              have m2276 := st_fr s2043 m2275 (by decide)
              have m2277 := st_fr s2055 m2276 (by decide)
              have m2278 := st_fr s2067 m2277 (by decide)
              have m2279 := st_fr s2079 m2278 (by decide)
              have m2280 := st_fr s2092 m2279 (by decide)
              have m2281 := st_fr s2105 m2280 (by decide)
              have m2282 := st_fr s2118 m2281 (by decide)
              have m2283 := st_fr s2132 m2282 (by decide)
              have m2284 := st_fr s2146 m2283 (by decide)
              have m2285 := st_fr s2160 m2284 (by decide)
              have m2286 := st_fr s2172 m2285 (by decide)
              have m2287 := st_fr s2184 m2286 (by decide)
              have m2288 := st_fr s2196 m2287 (by decide)
              have m2289 := st_fr s2208 m2288 (by decide)
              have m2290 := st_fr s2220 m2289 (by decide)
              have m2291 := st_fr s2232 m2290 (by decide)
              have m2292 := st_fr s2244 m2291 (by decide)
              have m2293 := st_fr s2256 m2292 (by decide)
              have m2294 := st_fr s2260 m2293 (by decide)
              refine w_putf [.inr (.inl (some 1)), .inr (.inl (some 5)), .inl (w_i 0), .inr (.inl (some 9)), .inr (.inl (some 17)), .inl (w_i (g_np g)), .inr (.inl (some 18)), .inr (.inl (some 23)), .inl (w_i (g_nt g)), .inr (.inl (some 24)), .inr (.inl (some 25)), .inr (.inl (some 26)), .inr (.inl (some 27))] m2294 rfl rfl rfl (fun _ => rfl) (fun h2296 s2295 => ?_)
              have z2298 := s2295.1
              have z2298y := s2295.2.1
              have z2298w := s2295.2.2.2.2 z2263w
              refine w_al (fun _ => rfl) (w_getf s2295.2.2.1 rfl (fun _ => rfl) ?_)
              have m2299 := st_fr s1933 m18 (by decide)
              have m2300 := st_fr s1937 m2299 (by decide)
              have m2301 := st_fr s1941 m2300 (by decide)
              have m2302 := st_fr s1948 m2301 (by decide)
              have m2303 := st_fr s1959 m2302 (by decide)
              have m2304 := st_fr s1971 m2303 (by decide)
              have m2305 := st_fr s1980 m2304 (by decide)
              have m2306 := st_fr s1990 m2305 (by decide)
              have m2307 := st_fr s2000 m2306 (by decide)
              have m2308 := st_fr s2010 m2307 (by decide)
              have m2309 := st_fr s2021 m2308 (by decide)
              have m2310 := st_fr s2032 m2309 (by decide)
              have m2311 := st_fr s2043 m2310 (by decide)
              have m2312 := st_fr s2055 m2311 (by decide)
              have m2313 := st_fr s2067 m2312 (by decide)
              have m2314 := st_fr s2079 m2313 (by decide)
              have m2315 := st_fr s2092 m2314 (by decide)
              have m2316 := st_fr s2105 m2315 (by decide)
              have m2317 := st_fr s2118 m2316 (by decide)
              have m2318 := st_fr s2132 m2317 (by decide)
              have m2319 := st_fr s2146 m2318 (by decide)
              have m2320 := st_fr s2160 m2319 (by decide)
              have m2321 := st_fr s2172 m2320 (by decide)
              have m2322 := st_fr s2184 m2321 (by decide)
              have m2323 := st_fr s2196 m2322 (by decide)
              have m2324 := st_fr s2208 m2323 (by decide)
              have m2325 := st_fr s2220 m2324 (by decide)
              have m2326 := st_fr s2232 m2325 (by decide)
              have m2327 := st_fr s2244 m2326 (by decide)
              have m2328 := st_fr s2256 m2327 (by decide)
              have m2329 := st_fr s2260 m2328 (by decide)
              have m2330 := st_fr s2295 m2329 (by decide)
              refine w_this (fun _ => rfl) m2330 (w_cv (fun _ => rfl) rfl (w_run k_57344 (w_al (fun _ => rfl) (w_icI (x := 0) rfl (w_putf [.inr (.inl (some 19)), .inl (w_i 0), .inr (.inl (some 20)), .inr (.inl (some 21)), .inl (w_i atp18), .inl (w_i tok18), .inl (w_i flt18), .inr (.inl (some 22)), .inl (w_i wri18)] m2330 rfl rfl rfl (fun _ => rfl) (fun h2332 s2331 => ?_))))))
              have z2334 := s2331.1
              have z2334y := s2331.2.1
              have z2334w := s2331.2.2.2.2 z2298w
              refine w_rv ⟨rfl, ?_⟩
              refine w_icI (x := 0) rfl (w_is (fun _ => rfl) (w_il (fun _ => rfl) (w_icI (x := 4) rfl (w_gef (by omega) (by omega) (by omega) (by omega) (by omega)  (w_al (fun _ => rfl) ?_)))))
              have m2335 := st_fr s2331 s2295.2.2.1 (by decide)
              refine w_getf m2335 rfl (fun _ => rfl) (w_il (fun _ => rfl) (w_nul ?_))
              have m2336 := st_fr s1933 m19 (by decide)
              have m2337 := st_fr s1937 m2336 (by decide)
              have m2338 := st_fr s1941 m2337 (by decide)
              have m2339 := st_fr s1948 m2338 (by decide)
              have m2340 := st_fr s1959 m2339 (by decide)
              have m2341 := st_fr s1971 m2340 (by decide)
              have m2342 := st_fr s1980 m2341 (by decide)
              have m2343 := st_fr s1990 m2342 (by decide)
              have m2344 := st_fr s2000 m2343 (by decide)
              have m2345 := st_fr s2010 m2344 (by decide)
              have m2346 := st_fr s2021 m2345 (by decide)
              have m2347 := st_fr s2032 m2346 (by decide)
              have m2348 := st_fr s2043 m2347 (by decide)
              have m2349 := st_fr s2055 m2348 (by decide)
              have m2350 := st_fr s2067 m2349 (by decide)
              have m2351 := st_fr s2079 m2350 (by decide)
              have m2352 := st_fr s2092 m2351 (by decide)
              have m2353 := st_fr s2105 m2352 (by decide)
              have m2354 := st_fr s2118 m2353 (by decide)
              have m2355 := st_fr s2132 m2354 (by decide)
              have m2356 := st_fr s2146 m2355 (by decide)
              have m2357 := st_fr s2160 m2356 (by decide)
              have m2358 := st_fr s2172 m2357 (by decide)
              have m2359 := st_fr s2184 m2358 (by decide)
              have m2360 := st_fr s2196 m2359 (by decide)
              have m2361 := st_fr s2208 m2360 (by decide)
              have m2362 := st_fr s2220 m2361 (by decide)
              have m2363 := st_fr s2232 m2362 (by decide)
              have m2364 := st_fr s2244 m2363 (by decide)
              have m2365 := st_fr s2256 m2364 (by decide)
              have m2366 := st_fr s2260 m2365 (by decide)
              have m2367 := st_fr s2295 m2366 (by decide)
              have m2368 := st_fr s2331 m2367 (by decide)
              refine w_aastI m2368 (by omega) (by omega) (by decide) isC_no (fun h2370 s2369 => ?_)
              have z2371 := set_no (j := (0).toNat) lp19 ll19 (Or.inl rfl)
              have z2372 := s2369.1
              have z2372y := s2369.2.1
              have z2372w := s2369.2.2.2.2 z2334w
              refine w_inc (c := w_i 1) (fun _ => rfl) (by decide +kernel) (fun _ => rfl) (w_go (w_run k_364611 (w_il (fun _ => rfl) (w_icI (x := 4) rfl (w_gef (by omega) (by omega) (by omega) (by omega) (by omega)  (w_al (fun _ => rfl) ?_))))))
              have m2373 := st_fr s2369 m2335 (by decide)
              refine w_getf m2373 rfl (fun _ => rfl) (w_il (fun _ => rfl) (w_nul (w_aastI s2369.2.2.1 (by omega) (by omega) (by decide) isC_no (fun h2375 s2374 => ?_))))
              have z2376 := set_no (j := (1).toNat) z2371.2 z2371.1 (Or.inl rfl)
              have z2377 := s2374.1
              have z2377y := s2374.2.1
              have z2377w := s2374.2.2.2.2 z2372w
              refine w_inc (c := w_i 2) (fun _ => rfl) (by decide +kernel) (fun _ => rfl) (w_go (w_run k_364611 (w_il (fun _ => rfl) (w_icI (x := 4) rfl (w_gef (by omega) (by omega) (by omega) (by omega) (by omega)  (w_al (fun _ => rfl) ?_))))))
              have m2378 := st_fr s2374 m2373 (by decide)
              refine w_getf m2378 rfl (fun _ => rfl) (w_il (fun _ => rfl) (w_nul (w_aastI s2374.2.2.1 (by omega) (by omega) (by decide) isC_no (fun h2380 s2379 => ?_))))
              have z2381 := set_no (j := (2).toNat) z2376.2 z2376.1 (Or.inl rfl)
              have z2382 := s2379.1
              have z2382y := s2379.2.1
              have z2382w := s2379.2.2.2.2 z2377w
              refine w_inc (c := w_i 3) (fun _ => rfl) (by decide +kernel) (fun _ => rfl) (w_go (w_run k_364611 (w_il (fun _ => rfl) (w_icI (x := 4) rfl (w_gef (by omega) (by omega) (by omega) (by omega) (by omega)  (w_al (fun _ => rfl) ?_))))))
              have m2383 := st_fr s2379 m2378 (by decide)
              refine w_getf m2383 rfl (fun _ => rfl) (w_il (fun _ => rfl) (w_nul (w_aastI s2379.2.2.1 (by omega) (by omega) (by decide) isC_no (fun h2385 s2384 => ?_))))
              have z2386 := set_no (j := (3).toNat) z2381.2 z2381.1 (Or.inl rfl)
              have z2387 := s2384.1
              have z2387y := s2384.2.1
              have z2387w := s2384.2.2.2.2 z2382w
              refine w_inc (c := w_i 4) (fun _ => rfl) (by decide +kernel) (fun _ => rfl) (w_go (w_run k_364611 (w_il (fun _ => rfl) (w_icI (x := 4) rfl (w_get (by omega) (by omega) (by omega) (by omega) (by omega)  (w_run k_364631 (w_al (fun _ => rfl) ?_)))))))
              have m2388 := st_fr s2384 m2383 (by decide)
              refine w_getf m2388 rfl (fun _ => rfl) ?_
              have m2389 := st_fr s1933 m17 (by decide)
              have m2390 := st_fr s1937 m2389 (by decide)
              have m2391 := st_fr s1941 m2390 (by decide)
              have m2392 := st_fr s1948 m2391 (by decide)
              have m2393 := st_fr s1959 m2392 (by decide)
              have m2394 := st_fr s1971 m2393 (by decide)
              have m2395 := st_fr s1980 m2394 (by decide)
              have m2396 := st_fr s1990 m2395 (by decide)
              have m2397 := st_fr s2000 m2396 (by decide)
              have m2398 := st_fr s2010 m2397 (by decide)
              have m2399 := st_fr s2021 m2398 (by decide)
              have m2400 := st_fr s2032 m2399 (by decide)
              have m2401 := st_fr s2043 m2400 (by decide)
              have m2402 := st_fr s2055 m2401 (by decide)
              have m2403 := st_fr s2067 m2402 (by decide)
              have m2404 := st_fr s2079 m2403 (by decide)
              have m2405 := st_fr s2092 m2404 (by decide)
              have m2406 := st_fr s2105 m2405 (by decide)
              have m2407 := st_fr s2118 m2406 (by decide)
              have m2408 := st_fr s2132 m2407 (by decide)
              have m2409 := st_fr s2146 m2408 (by decide)
              have m2410 := st_fr s2160 m2409 (by decide)
              have m2411 := st_fr s2172 m2410 (by decide)
              have m2412 := st_fr s2184 m2411 (by decide)
              have m2413 := st_fr s2196 m2412 (by decide)
              have m2414 := st_fr s2208 m2413 (by decide)
              have m2415 := st_fr s2220 m2414 (by decide)
              have m2416 := st_fr s2232 m2415 (by decide)
              have m2417 := st_fr s2244 m2416 (by decide)
              have m2418 := st_fr s2256 m2417 (by decide)
              have m2419 := st_fr s2260 m2418 (by decide)
              have m2420 := st_fr s2295 m2419 (by decide)
              have m2421 := st_fr s2331 m2420 (by decide)
              have m2422 := st_fr s2369 m2421 (by decide)
              have m2423 := st_fr s2374 m2422 (by decide)
              have m2424 := st_fr s2379 m2423 (by decide)
              have m2425 := st_fr s2384 m2424 (by decide)
              refine w_this (fun _ => rfl) m2425 (w_cv (fun _ => rfl) rfl (w_run k_151552 (w_al (fun _ => rfl) (w_icI (x := 0) rfl (w_putf [.inr (.inl (some 1)), .inr (.inl (some 10)), .inl (w_i 0), .inr (.inl (some 11)), .inl (w_i sta17), .inr (.inl (some (g_rw g))), .inl (w_i fnd17), .inr (.inl (some (g_stp g))), .inr (.inl (some (g_ahd g))), .inr (.inl (some (g_cst g))), .inr (.inl (some (g_chp g))), .inl (w_i kco17)] m2425 rfl rfl rfl (fun _ => rfl) (fun h2427 s2426 => ?_))))))
              have z2429 := s2426.1
              have z2429y := s2426.2.1
              have z2429w := s2426.2.2.2.2 z2387w
              refine w_al (fun _ => rfl) (w_icI (x := (-1)) wn_1 (w_putf [.inr (.inl (some 1)), .inr (.inl (some 10)), .inl (w_i 0), .inr (.inl (some 11)), .inl (w_i (-1)), .inr (.inl (some (g_rw g))), .inl (w_i fnd17), .inr (.inl (some (g_stp g))), .inr (.inl (some (g_ahd g))), .inr (.inl (some (g_cst g))), .inr (.inl (some (g_chp g))), .inl (w_i kco17)] s2426.2.2.1 rfl rfl rfl (fun _ => rfl) (fun h2431 s2430 => ?_)))
              have z2433 := s2430.1
              have z2433y := s2430.2.1
              have z2433w := s2430.2.2.2.2 z2429w
              refine w_rv ⟨rfl, ?_⟩
              refine w_il (fun _ => rfl) (w_ri ?_)
              have F1 := F.1
              have F2 := F.2.1
              have m2434 := st_fr s2256 s2244.2.2.1 (by decide)
              have m2435 := st_fr s2260 m2434 (by decide)
              have m2436 := st_fr s2295 m2435 (by decide)
              have m2437 := st_fr s2331 m2436 (by decide)
              have m2438 := st_fr s2369 m2437 (by decide)
              have m2439 := st_fr s2374 m2438 (by decide)
              have m2440 := st_fr s2379 m2439 (by decide)
              have m2441 := st_fr s2384 m2440 (by decide)
              have m2442 := st_fr s2426 m2441 (by decide)
              have m2443 := st_fr s2430 m2442 (by decide)
              have m2444 := st_fr s2295 s2260.2.2.1 (by decide)
              have m2445 := st_fr s2331 m2444 (by decide)
              have m2446 := st_fr s2369 m2445 (by decide)
              have m2447 := st_fr s2374 m2446 (by decide)
              have m2448 := st_fr s2379 m2447 (by decide)
              have m2449 := st_fr s2384 m2448 (by decide)
              have m2450 := st_fr s2426 m2449 (by decide)
              have m2451 := st_fr s2430 m2450 (by decide)
              have m2452 := st_fr s2426 s2384.2.2.1 (by decide)
              have m2453 := st_fr s2430 m2452 (by decide)
              have hN : (((((1 * c) * c) * c) * c) * c) = w_pw c hh := by rw [hk, pn_5]
              have gz : g_nt (g_bu g hh c (((((1 * c) * c) * c) * c) * c) A2246) = g_nt g := rfl
              have m2454 := st_fr s2426 m2388 (by decide)
              have m2455 := st_fr s2430 m2454 (by decide)
              have six2456 : ∀ j : Int, 0 ≤ j → j < 6 → 0 ≤ a_g A2246 j ∧ a_g A2246 j ≤ 63 := fun j j0 j1 => by
                rcases (show j = 0 ∨ j = 1 ∨ j = 2 ∨ j = 3 ∨ j = 4 ∨ j = 5 from by omega) with rfl | rfl | rfl | rfl | rfl | rfl
                · rw [q2248]; omega
                · rw [q2249]; omega
                · rw [q2250]; omega
                · rw [q2251]; omega
                · rw [q2252]; omega
                · rw [q2253]; omega
              have m2457 := st_fr s2146 s2132.2.2.1 (by decide)
              have m2458 := st_fr s2160 m2457 (by decide)
              have m2459 := st_fr s2172 m2458 (by decide)
              have m2460 := st_fr s2184 m2459 (by decide)
              have m2461 := st_fr s2196 m2460 (by decide)
              have m2462 := st_fr s2208 m2461 (by decide)
              have m2463 := st_fr s2220 m2462 (by decide)
              have m2464 := st_fr s2232 m2463 (by decide)
              have m2465 := st_fr s2244 m2464 (by decide)
              have m2466 := st_fr s2256 m2465 (by decide)
              have m2467 := st_fr s2260 m2466 (by decide)
              have m2468 := st_fr s2295 m2467 (by decide)
              have m2469 := st_fr s2331 m2468 (by decide)
              have m2470 := st_fr s2369 m2469 (by decide)
              have m2471 := st_fr s2374 m2470 (by decide)
              have m2472 := st_fr s2379 m2471 (by decide)
              have m2473 := st_fr s2384 m2472 (by decide)
              have m2474 := st_fr s2426 m2473 (by decide)
              have m2475 := st_fr s2430 m2474 (by decide)
              have six2476 : ∀ j : Int, 0 ≤ j → j < 6 → 0 ≤ a_g A2134 j ∧ a_g A2134 j < c := fun j j0 j1 => by
                rcases (show j = 0 ∨ j = 1 ∨ j = 2 ∨ j = 3 ∨ j = 4 ∨ j = 5 from by omega) with rfl | rfl | rfl | rfl | rfl | rfl
                · rw [q2136]; omega
                · rw [q2137]; omega
                · rw [q2138]; omega
                · rw [q2139]; omega
                · rw [q2140]; omega
                · rw [q2141]; omega
              have m2477 := st_fr s2160 s2146.2.2.1 (by decide)
              have m2478 := st_fr s2172 m2477 (by decide)
              have m2479 := st_fr s2184 m2478 (by decide)
              have m2480 := st_fr s2196 m2479 (by decide)
              have m2481 := st_fr s2208 m2480 (by decide)
              have m2482 := st_fr s2220 m2481 (by decide)
              have m2483 := st_fr s2232 m2482 (by decide)
              have m2484 := st_fr s2244 m2483 (by decide)
              have m2485 := st_fr s2256 m2484 (by decide)
              have m2486 := st_fr s2260 m2485 (by decide)
              have m2487 := st_fr s2295 m2486 (by decide)
              have m2488 := st_fr s2331 m2487 (by decide)
              have m2489 := st_fr s2369 m2488 (by decide)
              have m2490 := st_fr s2374 m2489 (by decide)
              have m2491 := st_fr s2379 m2490 (by decide)
              have m2492 := st_fr s2384 m2491 (by decide)
              have m2493 := st_fr s2426 m2492 (by decide)
              have m2494 := st_fr s2430 m2493 (by decide)
              have m2495 := st_fr s2369 s2331.2.2.1 (by decide)
              have m2496 := st_fr s2374 m2495 (by decide)
              have m2497 := st_fr s2379 m2496 (by decide)
              have m2498 := st_fr s2384 m2497 (by decide)
              have m2499 := st_fr s2426 m2498 (by decide)
              have m2500 := st_fr s2430 m2499 (by decide)
              have ivn := bu_fin (e0 := _) (e1 := _) (e18 := _) (e24 := _) (hh := hh) (c := c) (N := (((((1 * c) * c) * c) * c) * c)) iv (by omega) (by omega) (by omega) (by omega) hN (by omega) z2433w (by omega) (fun q n0 n1 n2 n3 n4 n9 n18 n24 => (s2430.2.2.2.1 q n9).trans ((s2426.2.2.2.1 q n9).trans ((s2384.2.2.2.1 q n24).trans ((s2379.2.2.2.1 q n24).trans ((s2374.2.2.2.1 q n24).trans ((s2369.2.2.2.1 q n24).trans ((s2331.2.2.2.1 q n18).trans ((s2295.2.2.2.1 q n0).trans ((s2260.2.2.2.1 q n1).trans ((s2256.2.2.2.1 q n1).trans ((s2244.2.2.2.1 q n2).trans ((s2232.2.2.2.1 q n2).trans ((s2220.2.2.2.1 q n2).trans ((s2208.2.2.2.1 q n2).trans ((s2196.2.2.2.1 q n2).trans ((s2184.2.2.2.1 q n2).trans ((s2172.2.2.2.1 q n2).trans ((s2160.2.2.2.1 q n2).trans ((s2146.2.2.2.1 q n4).trans ((s2132.2.2.2.1 q n3).trans ((s2118.2.2.2.1 q n2).trans ((s2105.2.2.2.1 q n4).trans ((s2092.2.2.2.1 q n3).trans ((s2079.2.2.2.1 q n2).trans ((s2067.2.2.2.1 q n4).trans ((s2055.2.2.2.1 q n3).trans ((s2043.2.2.2.1 q n2).trans ((s2032.2.2.2.1 q n4).trans ((s2021.2.2.2.1 q n3).trans ((s2010.2.2.2.1 q n2).trans ((s2000.2.2.2.1 q n4).trans ((s1990.2.2.2.1 q n3).trans ((s1980.2.2.2.1 q n2).trans ((s1971.2.2.2.1 q n4).trans ((s1959.2.2.2.1 q n3).trans ((s1948.2.2.2.1 q n2).trans ((s1941.2.2.2.1 q n1).trans ((s1937.2.2.2.1 q n1).trans ((s1933.2.2.2.1 q n1).trans (rfl)))))))))))))))))))))))))))))))))))))))) m2455 rfl m2451 ⟨_, _, _, rfl, by omega, by omega, by omega, by omega, by omega, by omega, by omega, by omega⟩ m2443 six2456 m2475 six2476 ⟨_, m2494⟩ s2430.2.2.1 ⟨by omega, by omega, by omega, by omega, by omega, by omega⟩ m2500 ⟨_, _, _, _, _, rfl, by omega, by omega, by omega, by omega, by omega, by omega, by omega, by omega, by omega, by omega, by omega, by omega, by omega, by omega, by omega, by omega, by omega⟩ m2453 ⟨_, rfl, z2386.1, z2386.2⟩
              exact k0 _ (g_bu g hh c (((((1 * c) * c) * c) * c) * c) A2246) o h2431 ivn ch_gbu oe_rf (by omega) (by omega)
            · refine w_al (fun _ => rfl) (w_getf m12 rfl (fun _ => rfl) (w_il (fun _ => rfl) (w_il (fun _ => rfl) (w_this (fun _ => rfl) m13 (w_cv (fun _ => rfl) rfl (w_run k_315392 (w_al (fun _ => rfl) (w_il (fun _ => rfl) (w_putf [.inl (w_i hh), .inl (w_i (g_C g)), .inl (w_i (g_N g)), .inr (.inl (some 2)), .inr (.inl (some 3)), .inr (.inl (some 4)), .inl (w_i kp13), .inl (w_i sp13), .inl (w_i rl13)] m13 rfl rfl rfl (fun _ => rfl) (fun h2502 s2501 => ?_))))))))))
              have z2504 := s2501.1
              have z2504y := s2501.2.1
              have z2504w := s2501.2.2.2.2 z20w
              refine w_al (fun _ => rfl) (w_il (fun _ => rfl) (w_putf [.inl (w_i hh), .inl (w_i c), .inl (w_i (g_N g)), .inr (.inl (some 2)), .inr (.inl (some 3)), .inr (.inl (some 4)), .inl (w_i kp13), .inl (w_i sp13), .inl (w_i rl13)] s2501.2.2.1 rfl rfl rfl (fun _ => rfl) (fun h2506 s2505 => ?_)))
              have z2508 := s2505.1
              have z2508y := s2505.2.1
              have z2508w := s2505.2.2.2.2 z2504w
              refine w_al (fun _ => rfl) (w_il (fun _ => rfl) (w_il (fun _ => rfl) (w_ca (fun _ => rfl) rfl (w_run k_507904 (w_icI (x := 1) rfl (w_is (fun _ => rfl) (w_icI (x := 0) rfl (w_is (fun _ => rfl) (w_il (fun _ => rfl) (w_il (fun _ => rfl) (w_gef (by omega) (by omega) (by omega) (by omega) (by omega)  (w_il (fun _ => rfl) (w_il (fun _ => rfl) (w_op (c := w_i (1 * c)) (i_mul 1 c) (w_is (fun _ => rfl) (w_inc (c := w_i 1) (fun _ => rfl) (by decide +kernel) (fun _ => rfl) (w_go (w_run k_507908 (w_il (fun _ => rfl) (w_il (fun _ => rfl) (w_gef (by omega) (by omega) (by omega) (by omega) (by omega)  (w_il (fun _ => rfl) (w_il (fun _ => rfl) (w_op (c := w_i ((1 * c) * c)) (i_mul (1 * c) c) (w_is (fun _ => rfl) (w_inc (c := w_i 2) (fun _ => rfl) (by decide +kernel) (fun _ => rfl) (w_go (w_run k_507908 (w_il (fun _ => rfl) (w_il (fun _ => rfl) (w_gef (by omega) (by omega) (by omega) (by omega) (by omega)  (w_il (fun _ => rfl) (w_il (fun _ => rfl) (w_op (c := w_i (((1 * c) * c) * c)) (i_mul ((1 * c) * c) c) (w_is (fun _ => rfl) (w_inc (c := w_i 3) (fun _ => rfl) (by decide +kernel) (fun _ => rfl) (w_go (w_run k_507908 (w_il (fun _ => rfl) (w_il (fun _ => rfl) (w_gef (by omega) (by omega) (by omega) (by omega) (by omega)  (w_il (fun _ => rfl) (w_il (fun _ => rfl) (w_op (c := w_i ((((1 * c) * c) * c) * c)) (i_mul (((1 * c) * c) * c) c) (w_is (fun _ => rfl) (w_inc (c := w_i 4) (fun _ => rfl) (by decide +kernel) (fun _ => rfl) (w_go (w_run k_507908 (w_il (fun _ => rfl) (w_il (fun _ => rfl) (w_gef (by omega) (by omega) (by omega) (by omega) (by omega)  (w_il (fun _ => rfl) (w_il (fun _ => rfl) (w_op (c := w_i (((((1 * c) * c) * c) * c) * c)) (i_mul ((((1 * c) * c) * c) * c) c) (w_is (fun _ => rfl) (w_inc (c := w_i 5) (fun _ => rfl) (by decide +kernel) (fun _ => rfl) (w_go (w_run k_507908 (w_il (fun _ => rfl) (w_il (fun _ => rfl) (w_gef (by omega) (by omega) (by omega) (by omega) (by omega)  (w_il (fun _ => rfl) (w_il (fun _ => rfl) (w_op (c := w_i ((((((1 * c) * c) * c) * c) * c) * c)) (i_mul (((((1 * c) * c) * c) * c) * c) c) (w_is (fun _ => rfl) (w_inc (c := w_i 6) (fun _ => rfl) (by decide +kernel) (fun _ => rfl) (w_go (w_run k_507908 (w_il (fun _ => rfl) (w_il (fun _ => rfl) (w_get (by omega) (by omega) (by omega) (by omega) (by omega)  (w_run k_507923 (w_il (fun _ => rfl) (w_ri ⟨_, rfl, ?_⟩))))))))))))))))))))))))))))))))))))))))))))))))))))))))))))))))))))))))))
              refine w_putf [.inl (w_i hh), .inl (w_i c), .inl (w_i ((((((1 * c) * c) * c) * c) * c) * c)), .inr (.inl (some 2)), .inr (.inl (some 3)), .inr (.inl (some 4)), .inl (w_i kp13), .inl (w_i sp13), .inl (w_i rl13)] s2505.2.2.1 rfl rfl rfl (fun _ => rfl) (fun h2510 s2509 => ?_)
              have z2512 := s2509.1
              have z2512y := s2509.2.1
              have z2512w := s2509.2.2.2.2 z2508w
              refine w_icI (x := 0) rfl (w_is (fun _ => rfl) (w_il (fun _ => rfl) (w_icI (x := 6) rfl (w_gef (by omega) (by omega) (by omega) (by omega) (by omega)  (w_al (fun _ => rfl) (w_getf s2509.2.2.1 rfl (fun _ => rfl) (w_il (fun _ => rfl) (w_icI (x := 0) rfl ?_))))))))
              have m2513 := st_fr s2501 m14 (by decide)
              have m2514 := st_fr s2505 m2513 (by decide)
              have m2515 := st_fr s2509 m2514 (by decide)
              refine w_astI m2515 (by omega) (by omega) (by omega) (by omega) (by omega) (fun A2518 h2517 w2519 s2516 => ?_)
              have q2520 : a_g A2518 0 = 0 := (w2519 0 (by omega) (by omega)).trans (if_pos rfl)
              have z2521 := s2516.1
              have z2521y := s2516.2.1
              have z2521w := s2516.2.2.2.2 z2512w
              refine w_al (fun _ => rfl) ?_
              have m2522 := st_fr s2516 s2509.2.2.1 (by decide)
              refine w_getf m2522 rfl (fun _ => rfl) (w_il (fun _ => rfl) (w_il (fun _ => rfl) (w_icI (x := 2) rfl (w_opz (c := w_i 0) (by decide +kernel) (by decide +kernel) ?_))))
              have m2523 := st_fr s2501 m15 (by decide)
              have m2524 := st_fr s2505 m2523 (by decide)
              have m2525 := st_fr s2509 m2524 (by decide)
              have m2526 := st_fr s2516 m2525 (by decide)
              refine w_astI m2526 (by omega) (by omega) (by omega) (by omega) (by omega) (fun A2529 h2528 w2530 s2527 => ?_)
              have q2531 : a_g A2529 0 = 0 := (w2530 0 (by omega) (by omega)).trans (if_pos rfl)
              have z2532 := s2527.1
              have z2532y := s2527.2.1
              have z2532w := s2527.2.2.2.2 z2521w
              refine w_al (fun _ => rfl) ?_
              have m2533 := st_fr s2527 m2522 (by decide)
              refine w_getf m2533 rfl (fun _ => rfl) (w_il (fun _ => rfl) (w_icI (x := (-1)) wn_1 ?_))
              have m2534 := st_fr s2501 m16 (by decide)
              have m2535 := st_fr s2505 m2534 (by decide)
              have m2536 := st_fr s2509 m2535 (by decide)
              have m2537 := st_fr s2516 m2536 (by decide)
              have m2538 := st_fr s2527 m2537 (by decide)
              refine w_astI m2538 (by omega) (by omega) (by omega) (by omega) (by omega) (fun A2541 h2540 w2542 s2539 => ?_)
              have q2543 : a_g A2541 0 = (-1) := (w2542 0 (by omega) (by omega)).trans (if_pos rfl)
              have z2544 := s2539.1
              have z2544y := s2539.2.1
              have z2544w := s2539.2.2.2.2 z2532w
              refine w_inc (c := w_i 1) (fun _ => rfl) (by decide +kernel) (fun _ => rfl) (w_go (w_run k_315413 (w_il (fun _ => rfl) (w_icI (x := 6) rfl (w_gef (by omega) (by omega) (by omega) (by omega) (by omega)  (w_al (fun _ => rfl) ?_))))))
              have m2545 := st_fr s2539 m2533 (by decide)
              refine w_getf m2545 rfl (fun _ => rfl) (w_il (fun _ => rfl) (w_icI (x := 0) rfl ?_))
              have m2546 := st_fr s2527 s2516.2.2.1 (by decide)
              have m2547 := st_fr s2539 m2546 (by decide)
              refine w_astI m2547 (by omega) (by omega) (by omega) (by omega) (by omega) (fun A2550 h2549 w2551 s2548 => ?_)
              have q2552 : a_g A2550 0 = 0 := ((w2551 0 (by omega) (by omega)).trans (if_neg (by omega))).trans q2520
              have q2553 : a_g A2550 1 = 0 := (w2551 1 (by omega) (by omega)).trans (if_pos rfl)
              have z2554 := s2548.1
              have z2554y := s2548.2.1
              have z2554w := s2548.2.2.2.2 z2544w
              refine w_al (fun _ => rfl) ?_
              have m2555 := st_fr s2548 m2545 (by decide)
              refine w_getf m2555 rfl (fun _ => rfl) (w_il (fun _ => rfl) (w_il (fun _ => rfl) (w_icI (x := 2) rfl (w_opz (c := w_i 1) (by decide +kernel) (by decide +kernel) ?_))))
              have m2556 := st_fr s2539 s2527.2.2.1 (by decide)
              have m2557 := st_fr s2548 m2556 (by decide)
              refine w_astI m2557 (by omega) (by omega) (by omega) (by omega) (by omega) (fun A2560 h2559 w2561 s2558 => ?_)
              have q2562 : a_g A2560 0 = 0 := ((w2561 0 (by omega) (by omega)).trans (if_neg (by omega))).trans q2531
              have q2563 : a_g A2560 1 = 1 := (w2561 1 (by omega) (by omega)).trans (if_pos rfl)
              have z2564 := s2558.1
              have z2564y := s2558.2.1
              have z2564w := s2558.2.2.2.2 z2554w
              refine w_al (fun _ => rfl) ?_
              have m2565 := st_fr s2558 m2555 (by decide)
              refine w_getf m2565 rfl (fun _ => rfl) (w_il (fun _ => rfl) (w_icI (x := (-1)) wn_1 ?_))
              have m2566 := st_fr s2548 s2539.2.2.1 (by decide)
              have m2567 := st_fr s2558 m2566 (by decide)
              refine w_astI m2567 (by omega) (by omega) (by omega) (by omega) (by omega) (fun A2570 h2569 w2571 s2568 => ?_)
              have q2572 : a_g A2570 0 = (-1) := ((w2571 0 (by omega) (by omega)).trans (if_neg (by omega))).trans q2543
              have q2573 : a_g A2570 1 = (-1) := (w2571 1 (by omega) (by omega)).trans (if_pos rfl)
              have z2574 := s2568.1
              have z2574y := s2568.2.1
              have z2574w := s2568.2.2.2.2 z2564w
              refine w_inc (c := w_i 2) (fun _ => rfl) (by decide +kernel) (fun _ => rfl) (w_go (w_run k_315413 (w_il (fun _ => rfl) (w_icI (x := 6) rfl (w_gef (by omega) (by omega) (by omega) (by omega) (by omega)  (w_al (fun _ => rfl) ?_))))))
              have m2575 := st_fr s2568 m2565 (by decide)
              refine w_getf m2575 rfl (fun _ => rfl) (w_il (fun _ => rfl) (w_icI (x := 0) rfl ?_))
              have m2576 := st_fr s2558 s2548.2.2.1 (by decide)
              have m2577 := st_fr s2568 m2576 (by decide)
              refine w_astI m2577 (by omega) (by omega) (by omega) (by omega) (by omega) (fun A2580 h2579 w2581 s2578 => ?_)
              have q2582 : a_g A2580 0 = 0 := ((w2581 0 (by omega) (by omega)).trans (if_neg (by omega))).trans q2552
              have q2583 : a_g A2580 1 = 0 := ((w2581 1 (by omega) (by omega)).trans (if_neg (by omega))).trans q2553
              have q2584 : a_g A2580 2 = 0 := (w2581 2 (by omega) (by omega)).trans (if_pos rfl)
              have z2585 := s2578.1
              have z2585y := s2578.2.1
              have z2585w := s2578.2.2.2.2 z2574w
              refine w_al (fun _ => rfl) ?_
              have m2586 := st_fr s2578 m2575 (by decide)
              refine w_getf m2586 rfl (fun _ => rfl) (w_il (fun _ => rfl) (w_il (fun _ => rfl) (w_icI (x := 2) rfl (w_opz (c := w_i 0) (by decide +kernel) (by decide +kernel) ?_))))
              have m2587 := st_fr s2568 s2558.2.2.1 (by decide)
              have m2588 := st_fr s2578 m2587 (by decide)
              refine w_astI m2588 (by omega) (by omega) (by omega) (by omega) (by omega) (fun A2591 h2590 w2592 s2589 => ?_)
              have q2593 : a_g A2591 0 = 0 := ((w2592 0 (by omega) (by omega)).trans (if_neg (by omega))).trans q2562
              have q2594 : a_g A2591 1 = 1 := ((w2592 1 (by omega) (by omega)).trans (if_neg (by omega))).trans q2563
              have q2595 : a_g A2591 2 = 0 := (w2592 2 (by omega) (by omega)).trans (if_pos rfl)
              have z2596 := s2589.1
              have z2596y := s2589.2.1
              have z2596w := s2589.2.2.2.2 z2585w
              refine w_al (fun _ => rfl) ?_
              have m2597 := st_fr s2589 m2586 (by decide)
              refine w_getf m2597 rfl (fun _ => rfl) (w_il (fun _ => rfl) (w_icI (x := (-1)) wn_1 ?_))
              have m2598 := st_fr s2578 s2568.2.2.1 (by decide)
              have m2599 := st_fr s2589 m2598 (by decide)
              refine w_astI m2599 (by omega) (by omega) (by omega) (by omega) (by omega) (fun A2602 h2601 w2603 s2600 => ?_)
              have q2604 : a_g A2602 0 = (-1) := ((w2603 0 (by omega) (by omega)).trans (if_neg (by omega))).trans q2572
              have q2605 : a_g A2602 1 = (-1) := ((w2603 1 (by omega) (by omega)).trans (if_neg (by omega))).trans q2573
              have q2606 : a_g A2602 2 = (-1) := (w2603 2 (by omega) (by omega)).trans (if_pos rfl)
              have z2607 := s2600.1
              have z2607y := s2600.2.1
              have z2607w := s2600.2.2.2.2 z2596w
              refine w_inc (c := w_i 3) (fun _ => rfl) (by decide +kernel) (fun _ => rfl) (w_go (w_run k_315413 (w_il (fun _ => rfl) (w_icI (x := 6) rfl (w_gef (by omega) (by omega) (by omega) (by omega) (by omega)  (w_al (fun _ => rfl) ?_))))))
              have m2608 := st_fr s2600 m2597 (by decide)
              refine w_getf m2608 rfl (fun _ => rfl) (w_il (fun _ => rfl) (w_icI (x := 0) rfl ?_))
              have m2609 := st_fr s2589 s2578.2.2.1 (by decide)
              have m2610 := st_fr s2600 m2609 (by decide)
              refine w_astI m2610 (by omega) (by omega) (by omega) (by omega) (by omega) (fun A2613 h2612 w2614 s2611 => ?_)
              have q2615 : a_g A2613 0 = 0 := ((w2614 0 (by omega) (by omega)).trans (if_neg (by omega))).trans q2582
              have q2616 : a_g A2613 1 = 0 := ((w2614 1 (by omega) (by omega)).trans (if_neg (by omega))).trans q2583
              have q2617 : a_g A2613 2 = 0 := ((w2614 2 (by omega) (by omega)).trans (if_neg (by omega))).trans q2584
              have q2618 : a_g A2613 3 = 0 := (w2614 3 (by omega) (by omega)).trans (if_pos rfl)
              have z2619 := s2611.1
              have z2619y := s2611.2.1
              have z2619w := s2611.2.2.2.2 z2607w
              refine w_al (fun _ => rfl) ?_
              have m2620 := st_fr s2611 m2608 (by decide)
              refine w_getf m2620 rfl (fun _ => rfl) (w_il (fun _ => rfl) (w_il (fun _ => rfl) (w_icI (x := 2) rfl (w_opz (c := w_i 1) (by decide +kernel) (by decide +kernel) ?_))))
              have m2621 := st_fr s2600 s2589.2.2.1 (by decide)
              have m2622 := st_fr s2611 m2621 (by decide)
              refine w_astI m2622 (by omega) (by omega) (by omega) (by omega) (by omega) (fun A2625 h2624 w2626 s2623 => ?_)
              have q2627 : a_g A2625 0 = 0 := ((w2626 0 (by omega) (by omega)).trans (if_neg (by omega))).trans q2593
              have q2628 : a_g A2625 1 = 1 := ((w2626 1 (by omega) (by omega)).trans (if_neg (by omega))).trans q2594
              have q2629 : a_g A2625 2 = 0 := ((w2626 2 (by omega) (by omega)).trans (if_neg (by omega))).trans q2595
              have q2630 : a_g A2625 3 = 1 := (w2626 3 (by omega) (by omega)).trans (if_pos rfl)
              have z2631 := s2623.1
              have z2631y := s2623.2.1
              have z2631w := s2623.2.2.2.2 z2619w
              refine w_al (fun _ => rfl) ?_
              have m2632 := st_fr s2623 m2620 (by decide)
              refine w_getf m2632 rfl (fun _ => rfl) (w_il (fun _ => rfl) (w_icI (x := (-1)) wn_1 ?_))
              have m2633 := st_fr s2611 s2600.2.2.1 (by decide)
              have m2634 := st_fr s2623 m2633 (by decide)
              refine w_astI m2634 (by omega) (by omega) (by omega) (by omega) (by omega) (fun A2637 h2636 w2638 s2635 => ?_)
              have q2639 : a_g A2637 0 = (-1) := ((w2638 0 (by omega) (by omega)).trans (if_neg (by omega))).trans q2604
              have q2640 : a_g A2637 1 = (-1) := ((w2638 1 (by omega) (by omega)).trans (if_neg (by omega))).trans q2605
              have q2641 : a_g A2637 2 = (-1) := ((w2638 2 (by omega) (by omega)).trans (if_neg (by omega))).trans q2606
              have q2642 : a_g A2637 3 = (-1) := (w2638 3 (by omega) (by omega)).trans (if_pos rfl)
              have z2643 := s2635.1
              have z2643y := s2635.2.1
              have z2643w := s2635.2.2.2.2 z2631w
              refine w_inc (c := w_i 4) (fun _ => rfl) (by decide +kernel) (fun _ => rfl) (w_go (w_run k_315413 (w_il (fun _ => rfl) (w_icI (x := 6) rfl (w_gef (by omega) (by omega) (by omega) (by omega) (by omega)  (w_al (fun _ => rfl) ?_))))))
              have m2644 := st_fr s2635 m2632 (by decide)
              refine w_getf m2644 rfl (fun _ => rfl) (w_il (fun _ => rfl) (w_icI (x := 0) rfl ?_))
              have m2645 := st_fr s2623 s2611.2.2.1 (by decide)
              have m2646 := st_fr s2635 m2645 (by decide)
              refine w_astI m2646 (by omega) (by omega) (by omega) (by omega) (by omega) (fun A2649 h2648 w2650 s2647 => ?_)
              have q2651 : a_g A2649 0 = 0 := ((w2650 0 (by omega) (by omega)).trans (if_neg (by omega))).trans q2615
              have q2652 : a_g A2649 1 = 0 := ((w2650 1 (by omega) (by omega)).trans (if_neg (by omega))).trans q2616
              have q2653 : a_g A2649 2 = 0 := ((w2650 2 (by omega) (by omega)).trans (if_neg (by omega))).trans q2617
              have q2654 : a_g A2649 3 = 0 := ((w2650 3 (by omega) (by omega)).trans (if_neg (by omega))).trans q2618
              have q2655 : a_g A2649 4 = 0 := (w2650 4 (by omega) (by omega)).trans (if_pos rfl)
              have z2656 := s2647.1
              have z2656y := s2647.2.1
              have z2656w := s2647.2.2.2.2 z2643w
              refine w_al (fun _ => rfl) ?_
              have m2657 := st_fr s2647 m2644 (by decide)
              refine w_getf m2657 rfl (fun _ => rfl) (w_il (fun _ => rfl) (w_il (fun _ => rfl) (w_icI (x := 2) rfl (w_opz (c := w_i 0) (by decide +kernel) (by decide +kernel) ?_))))
              have m2658 := st_fr s2635 s2623.2.2.1 (by decide)
              have m2659 := st_fr s2647 m2658 (by decide)
              refine w_astI m2659 (by omega) (by omega) (by omega) (by omega) (by omega) (fun A2662 h2661 w2663 s2660 => ?_)
              have q2664 : a_g A2662 0 = 0 := ((w2663 0 (by omega) (by omega)).trans (if_neg (by omega))).trans q2627
              have q2665 : a_g A2662 1 = 1 := ((w2663 1 (by omega) (by omega)).trans (if_neg (by omega))).trans q2628
              have q2666 : a_g A2662 2 = 0 := ((w2663 2 (by omega) (by omega)).trans (if_neg (by omega))).trans q2629
              have q2667 : a_g A2662 3 = 1 := ((w2663 3 (by omega) (by omega)).trans (if_neg (by omega))).trans q2630
              have q2668 : a_g A2662 4 = 0 := (w2663 4 (by omega) (by omega)).trans (if_pos rfl)
              have z2669 := s2660.1
              have z2669y := s2660.2.1
              have z2669w := s2660.2.2.2.2 z2656w
              refine w_al (fun _ => rfl) ?_
              have m2670 := st_fr s2660 m2657 (by decide)
              refine w_getf m2670 rfl (fun _ => rfl) (w_il (fun _ => rfl) (w_icI (x := (-1)) wn_1 ?_))
              have m2671 := st_fr s2647 s2635.2.2.1 (by decide)
              have m2672 := st_fr s2660 m2671 (by decide)
              refine w_astI m2672 (by omega) (by omega) (by omega) (by omega) (by omega) (fun A2675 h2674 w2676 s2673 => ?_)
              have q2677 : a_g A2675 0 = (-1) := ((w2676 0 (by omega) (by omega)).trans (if_neg (by omega))).trans q2639
              have q2678 : a_g A2675 1 = (-1) := ((w2676 1 (by omega) (by omega)).trans (if_neg (by omega))).trans q2640
              have q2679 : a_g A2675 2 = (-1) := ((w2676 2 (by omega) (by omega)).trans (if_neg (by omega))).trans q2641
              have q2680 : a_g A2675 3 = (-1) := ((w2676 3 (by omega) (by omega)).trans (if_neg (by omega))).trans q2642
              have q2681 : a_g A2675 4 = (-1) := (w2676 4 (by omega) (by omega)).trans (if_pos rfl)
              have z2682 := s2673.1
              have z2682y := s2673.2.1
              have z2682w := s2673.2.2.2.2 z2669w
              refine w_inc (c := w_i 5) (fun _ => rfl) (by decide +kernel) (fun _ => rfl) (w_go (w_run k_315413 (w_il (fun _ => rfl) (w_icI (x := 6) rfl (w_gef (by omega) (by omega) (by omega) (by omega) (by omega)  (w_al (fun _ => rfl) ?_))))))
              have m2683 := st_fr s2673 m2670 (by decide)
              refine w_getf m2683 rfl (fun _ => rfl) (w_il (fun _ => rfl) (w_icI (x := 0) rfl ?_))
              have m2684 := st_fr s2660 s2647.2.2.1 (by decide)
              have m2685 := st_fr s2673 m2684 (by decide)
              refine w_astI m2685 (by omega) (by omega) (by omega) (by omega) (by omega) (fun A2688 h2687 w2689 s2686 => ?_)
              have q2690 : a_g A2688 0 = 0 := ((w2689 0 (by omega) (by omega)).trans (if_neg (by omega))).trans q2651
              have q2691 : a_g A2688 1 = 0 := ((w2689 1 (by omega) (by omega)).trans (if_neg (by omega))).trans q2652
              have q2692 : a_g A2688 2 = 0 := ((w2689 2 (by omega) (by omega)).trans (if_neg (by omega))).trans q2653
              have q2693 : a_g A2688 3 = 0 := ((w2689 3 (by omega) (by omega)).trans (if_neg (by omega))).trans q2654
              have q2694 : a_g A2688 4 = 0 := ((w2689 4 (by omega) (by omega)).trans (if_neg (by omega))).trans q2655
              have q2695 : a_g A2688 5 = 0 := (w2689 5 (by omega) (by omega)).trans (if_pos rfl)
              have z2696 := s2686.1
              have z2696y := s2686.2.1
              have z2696w := s2686.2.2.2.2 z2682w
              refine w_al (fun _ => rfl) ?_
              have m2697 := st_fr s2686 m2683 (by decide)
              refine w_getf m2697 rfl (fun _ => rfl) (w_il (fun _ => rfl) (w_il (fun _ => rfl) (w_icI (x := 2) rfl (w_opz (c := w_i 1) (by decide +kernel) (by decide +kernel) ?_))))
              have m2698 := st_fr s2673 s2660.2.2.1 (by decide)
              have m2699 := st_fr s2686 m2698 (by decide)
              refine w_astI m2699 (by omega) (by omega) (by omega) (by omega) (by omega) (fun A2702 h2701 w2703 s2700 => ?_)
              have q2704 : a_g A2702 0 = 0 := ((w2703 0 (by omega) (by omega)).trans (if_neg (by omega))).trans q2664
              have q2705 : a_g A2702 1 = 1 := ((w2703 1 (by omega) (by omega)).trans (if_neg (by omega))).trans q2665
              have q2706 : a_g A2702 2 = 0 := ((w2703 2 (by omega) (by omega)).trans (if_neg (by omega))).trans q2666
              have q2707 : a_g A2702 3 = 1 := ((w2703 3 (by omega) (by omega)).trans (if_neg (by omega))).trans q2667
              have q2708 : a_g A2702 4 = 0 := ((w2703 4 (by omega) (by omega)).trans (if_neg (by omega))).trans q2668
              have q2709 : a_g A2702 5 = 1 := (w2703 5 (by omega) (by omega)).trans (if_pos rfl)
              have z2710 := s2700.1
              have z2710y := s2700.2.1
              have z2710w := s2700.2.2.2.2 z2696w
              refine w_al (fun _ => rfl) ?_
              have m2711 := st_fr s2700 m2697 (by decide)
              refine w_getf m2711 rfl (fun _ => rfl) (w_il (fun _ => rfl) (w_icI (x := (-1)) wn_1 ?_))
              have m2712 := st_fr s2686 s2673.2.2.1 (by decide)
              have m2713 := st_fr s2700 m2712 (by decide)
              refine w_astI m2713 (by omega) (by omega) (by omega) (by omega) (by omega) (fun A2716 h2715 w2717 s2714 => ?_)
              have q2718 : a_g A2716 0 = (-1) := ((w2717 0 (by omega) (by omega)).trans (if_neg (by omega))).trans q2677
              have q2719 : a_g A2716 1 = (-1) := ((w2717 1 (by omega) (by omega)).trans (if_neg (by omega))).trans q2678
              have q2720 : a_g A2716 2 = (-1) := ((w2717 2 (by omega) (by omega)).trans (if_neg (by omega))).trans q2679
              have q2721 : a_g A2716 3 = (-1) := ((w2717 3 (by omega) (by omega)).trans (if_neg (by omega))).trans q2680
              have q2722 : a_g A2716 4 = (-1) := ((w2717 4 (by omega) (by omega)).trans (if_neg (by omega))).trans q2681
              have q2723 : a_g A2716 5 = (-1) := (w2717 5 (by omega) (by omega)).trans (if_pos rfl)
              have z2724 := s2714.1
              have z2724y := s2714.2.1
              have z2724w := s2714.2.2.2.2 z2710w
              refine w_inc (c := w_i 6) (fun _ => rfl) (by decide +kernel) (fun _ => rfl) (w_go (w_run k_315413 (w_il (fun _ => rfl) (w_icI (x := 6) rfl (w_get (by omega) (by omega) (by omega) (by omega) (by omega)  (w_run k_315448 (w_icI (x := 0) rfl (w_is (fun _ => rfl) (w_il (fun _ => rfl) (w_icI (x := 1) rfl (w_op (c := w_i 1) (by decide +kernel) (w_il (fun _ => rfl) (w_gef (by omega) (by omega) (by omega) (by omega) (by omega)  (w_al (fun _ => rfl) (w_il (fun _ => rfl) (w_il (fun _ => rfl) (w_icI (x := 1) rfl (w_op (c := w_i 1) (by decide +kernel) (w_icI (x := 1) rfl ?_)))))))))))))))))))
              have m2725 := st_fr s2714 m2711 (by decide)
              refine w_this (fun _ => rfl) m2725 (w_cv (fun _ => rfl) rfl (w_run k_323584 (w_al (fun _ => rfl) (w_getf m2725 rfl (fun _ => rfl) (w_il (fun _ => rfl) (w_al (fun _ => rfl) (w_getf m2725 rfl (fun _ => rfl) (w_il (fun _ => rfl) ?_))))))))
              have m2726 := st_fr s2700 s2686.2.2.1 (by decide)
              have m2727 := st_fr s2714 m2726 (by decide)
              refine w_aldI m2727 (by omega) (by omega) (by omega) ?_
              rw [q2690]
              refine w_icI (x := 1) rfl (w_il (fun _ => rfl) (w_op (c := w_i 2) (by decide +kernel) (w_icI (x := (-1)) wn_1 (w_op (c := w_i (-3)) (by decide +kernel) (w_op (c := w_i 0) (by decide +kernel) (w_il (fun _ => rfl) (w_eqzf (by omega) (by omega) (by omega)  (w_icI (x := 1) rfl (w_il (fun _ => rfl) (w_op (c := w_i 2) (by decide +kernel) (w_go (w_run k_323612 (w_op (c := w_i 2) (by decide +kernel) (w_astI m2727 (by omega) (by omega) (by omega) (by omega) (by omega) (fun A2730 h2729 w2731 s2728 => ?_)))))))))))))))
              have q2732 : a_g A2730 0 = 2 := (w2731 0 (by omega) (by omega)).trans (if_pos rfl)
              have q2733 : a_g A2730 1 = 0 := ((w2731 1 (by omega) (by omega)).trans (if_neg (by omega))).trans q2691
              have q2734 : a_g A2730 2 = 0 := ((w2731 2 (by omega) (by omega)).trans (if_neg (by omega))).trans q2692
              have q2735 : a_g A2730 3 = 0 := ((w2731 3 (by omega) (by omega)).trans (if_neg (by omega))).trans q2693
              have q2736 : a_g A2730 4 = 0 := ((w2731 4 (by omega) (by omega)).trans (if_neg (by omega))).trans q2694
              have q2737 : a_g A2730 5 = 0 := ((w2731 5 (by omega) (by omega)).trans (if_neg (by omega))).trans q2695
              have z2738 := s2728.1
              have z2738y := s2728.2.1
              have z2738w := s2728.2.2.2.2 z2724w
              refine w_al (fun _ => rfl) ?_
              have m2739 := st_fr s2728 m2725 (by decide)
              refine w_getf m2739 rfl (fun _ => rfl) (w_il (fun _ => rfl) (w_al (fun _ => rfl) (w_getf m2739 rfl (fun _ => rfl) (w_il (fun _ => rfl) (w_aldI s2728.2.2.1 (by omega) (by omega) (by omega) ?_)))))
              rw [q2733]
              refine w_icI (x := 1) rfl (w_il (fun _ => rfl) (w_op (c := w_i 1) (by decide +kernel) (w_icI (x := (-1)) wn_1 (w_op (c := w_i (-2)) (by decide +kernel) (w_op (c := w_i 0) (by decide +kernel) (w_il (fun _ => rfl) (w_eqzf (by omega) (by omega) (by omega)  (w_icI (x := 1) rfl (w_il (fun _ => rfl) (w_op (c := w_i 1) (by decide +kernel) (w_go (w_run k_323642 (w_op (c := w_i 1) (by decide +kernel) (w_astI s2728.2.2.1 (by omega) (by omega) (by omega) (by omega) (by omega) (fun A2742 h2741 w2743 s2740 => ?_)))))))))))))))
              have q2744 : a_g A2742 0 = 2 := ((w2743 0 (by omega) (by omega)).trans (if_neg (by omega))).trans q2732
              have q2745 : a_g A2742 1 = 1 := (w2743 1 (by omega) (by omega)).trans (if_pos rfl)
              have q2746 : a_g A2742 2 = 0 := ((w2743 2 (by omega) (by omega)).trans (if_neg (by omega))).trans q2734
              have q2747 : a_g A2742 3 = 0 := ((w2743 3 (by omega) (by omega)).trans (if_neg (by omega))).trans q2735
              have q2748 : a_g A2742 4 = 0 := ((w2743 4 (by omega) (by omega)).trans (if_neg (by omega))).trans q2736
              have q2749 : a_g A2742 5 = 0 := ((w2743 5 (by omega) (by omega)).trans (if_neg (by omega))).trans q2737
              have z2750 := s2740.1
              have z2750y := s2740.2.1
              have z2750w := s2740.2.2.2.2 z2738w
              refine w_rv ⟨rfl, ?_⟩
              refine w_inc (c := w_i 1) (fun _ => rfl) (by decide +kernel) (fun _ => rfl) (w_go (w_run k_315450 (w_il (fun _ => rfl) (w_icI (x := 1) rfl (w_op (c := w_i 2) (by decide +kernel) (w_il (fun _ => rfl) (w_gef (by omega) (by omega) (by omega) (by omega) (by omega)  (w_al (fun _ => rfl) (w_il (fun _ => rfl) (w_il (fun _ => rfl) (w_icI (x := 1) rfl (w_op (c := w_i 2) (by decide +kernel) (w_icI (x := 1) rfl ?_)))))))))))))
              have m2751 := st_fr s2740 m2739 (by decide)
              refine w_this (fun _ => rfl) m2751 (w_cv (fun _ => rfl) rfl (w_run k_323584 (w_al (fun _ => rfl) (w_getf m2751 rfl (fun _ => rfl) (w_il (fun _ => rfl) (w_al (fun _ => rfl) (w_getf m2751 rfl (fun _ => rfl) (w_il (fun _ => rfl) (w_aldI s2740.2.2.1 (by omega) (by omega) (by omega) ?_)))))))))
              rw [q2745]
              refine w_icI (x := 1) rfl (w_il (fun _ => rfl) (w_op (c := w_i 4) (by decide +kernel) (w_icI (x := (-1)) wn_1 (w_op (c := w_i (-5)) (by decide +kernel) (w_op (c := w_i 1) (by decide +kernel) (w_il (fun _ => rfl) (w_eqzf (by omega) (by omega) (by omega)  (w_icI (x := 1) rfl (w_il (fun _ => rfl) (w_op (c := w_i 4) (by decide +kernel) (w_go (w_run k_323612 (w_op (c := w_i 5) (by decide +kernel) (w_astI s2740.2.2.1 (by omega) (by omega) (by omega) (by omega) (by omega) (fun A2754 h2753 w2755 s2752 => ?_)))))))))))))))
              have q2756 : a_g A2754 0 = 2 := ((w2755 0 (by omega) (by omega)).trans (if_neg (by omega))).trans q2744
              have q2757 : a_g A2754 1 = 5 := (w2755 1 (by omega) (by omega)).trans (if_pos rfl)
              have q2758 : a_g A2754 2 = 0 := ((w2755 2 (by omega) (by omega)).trans (if_neg (by omega))).trans q2746
              have q2759 : a_g A2754 3 = 0 := ((w2755 3 (by omega) (by omega)).trans (if_neg (by omega))).trans q2747
              have q2760 : a_g A2754 4 = 0 := ((w2755 4 (by omega) (by omega)).trans (if_neg (by omega))).trans q2748
              have q2761 : a_g A2754 5 = 0 := ((w2755 5 (by omega) (by omega)).trans (if_neg (by omega))).trans q2749
              have z2762 := s2752.1
              have z2762y := s2752.2.1
              have z2762w := s2752.2.2.2.2 z2750w
              refine w_al (fun _ => rfl) ?_
              have m2763 := st_fr s2752 m2751 (by decide)
              refine w_getf m2763 rfl (fun _ => rfl) (w_il (fun _ => rfl) (w_al (fun _ => rfl) (w_getf m2763 rfl (fun _ => rfl) (w_il (fun _ => rfl) (w_aldI s2752.2.2.1 (by omega) (by omega) (by omega) ?_)))))
              rw [q2758]
              refine w_icI (x := 1) rfl (w_il (fun _ => rfl) (w_op (c := w_i 2) (by decide +kernel) (w_icI (x := (-1)) wn_1 (w_op (c := w_i (-3)) (by decide +kernel) (w_op (c := w_i 0) (by decide +kernel) (w_il (fun _ => rfl) (w_eqzf (by omega) (by omega) (by omega)  (w_icI (x := 1) rfl (w_il (fun _ => rfl) (w_op (c := w_i 2) (by decide +kernel) (w_go (w_run k_323642 (w_op (c := w_i 2) (by decide +kernel) (w_astI s2752.2.2.1 (by omega) (by omega) (by omega) (by omega) (by omega) (fun A2766 h2765 w2767 s2764 => ?_)))))))))))))))
              have q2768 : a_g A2766 0 = 2 := ((w2767 0 (by omega) (by omega)).trans (if_neg (by omega))).trans q2756
              have q2769 : a_g A2766 1 = 5 := ((w2767 1 (by omega) (by omega)).trans (if_neg (by omega))).trans q2757
              have q2770 : a_g A2766 2 = 2 := (w2767 2 (by omega) (by omega)).trans (if_pos rfl)
              have q2771 : a_g A2766 3 = 0 := ((w2767 3 (by omega) (by omega)).trans (if_neg (by omega))).trans q2759
              have q2772 : a_g A2766 4 = 0 := ((w2767 4 (by omega) (by omega)).trans (if_neg (by omega))).trans q2760
              have q2773 : a_g A2766 5 = 0 := ((w2767 5 (by omega) (by omega)).trans (if_neg (by omega))).trans q2761
              have z2774 := s2764.1
              have z2774y := s2764.2.1
              have z2774w := s2764.2.2.2.2 z2762w
              refine w_rv ⟨rfl, ?_⟩
              refine w_inc (c := w_i 2) (fun _ => rfl) (by decide +kernel) (fun _ => rfl) (w_go (w_run k_315450 (w_il (fun _ => rfl) (w_icI (x := 1) rfl (w_op (c := w_i 3) (by decide +kernel) (w_il (fun _ => rfl) (w_gef (by omega) (by omega) (by omega) (by omega) (by omega)  (w_al (fun _ => rfl) (w_il (fun _ => rfl) (w_il (fun _ => rfl) (w_icI (x := 1) rfl (w_op (c := w_i 3) (by decide +kernel) (w_icI (x := 1) rfl ?_)))))))))))))
              have m2775 := st_fr s2764 m2763 (by decide)
              refine w_this (fun _ => rfl) m2775 (w_cv (fun _ => rfl) rfl (w_run k_323584 (w_al (fun _ => rfl) (w_getf m2775 rfl (fun _ => rfl) (w_il (fun _ => rfl) (w_al (fun _ => rfl) (w_getf m2775 rfl (fun _ => rfl) (w_il (fun _ => rfl) (w_aldI s2764.2.2.1 (by omega) (by omega) (by omega) ?_)))))))))
              rw [q2770]
              refine w_icI (x := 1) rfl (w_il (fun _ => rfl) (w_op (c := w_i 8) (by decide +kernel) (w_icI (x := (-1)) wn_1 (w_op (c := w_i (-9)) (by decide +kernel) (w_op (c := w_i 2) (by decide +kernel) (w_il (fun _ => rfl) (w_eqzf (by omega) (by omega) (by omega)  (w_icI (x := 1) rfl (w_il (fun _ => rfl) (w_op (c := w_i 8) (by decide +kernel) (w_go (w_run k_323612 (w_op (c := w_i 10) (by decide +kernel) (w_astI s2764.2.2.1 (by omega) (by omega) (by omega) (by omega) (by omega) (fun A2778 h2777 w2779 s2776 => ?_)))))))))))))))
              have q2780 : a_g A2778 0 = 2 := ((w2779 0 (by omega) (by omega)).trans (if_neg (by omega))).trans q2768
              have q2781 : a_g A2778 1 = 5 := ((w2779 1 (by omega) (by omega)).trans (if_neg (by omega))).trans q2769
              have q2782 : a_g A2778 2 = 10 := (w2779 2 (by omega) (by omega)).trans (if_pos rfl)
              have q2783 : a_g A2778 3 = 0 := ((w2779 3 (by omega) (by omega)).trans (if_neg (by omega))).trans q2771
              have q2784 : a_g A2778 4 = 0 := ((w2779 4 (by omega) (by omega)).trans (if_neg (by omega))).trans q2772
              have q2785 : a_g A2778 5 = 0 := ((w2779 5 (by omega) (by omega)).trans (if_neg (by omega))).trans q2773
              have z2786 := s2776.1
              have z2786y := s2776.2.1
              have z2786w := s2776.2.2.2.2 z2774w
              refine w_al (fun _ => rfl) ?_
              have m2787 := st_fr s2776 m2775 (by decide)
              refine w_getf m2787 rfl (fun _ => rfl) (w_il (fun _ => rfl) (w_al (fun _ => rfl) (w_getf m2787 rfl (fun _ => rfl) (w_il (fun _ => rfl) (w_aldI s2776.2.2.1 (by omega) (by omega) (by omega) ?_)))))
              rw [q2783]
              refine w_icI (x := 1) rfl (w_il (fun _ => rfl) (w_op (c := w_i 4) (by decide +kernel) (w_icI (x := (-1)) wn_1 (w_op (c := w_i (-5)) (by decide +kernel) (w_op (c := w_i 0) (by decide +kernel) (w_il (fun _ => rfl) (w_eqzf (by omega) (by omega) (by omega)  (w_icI (x := 1) rfl (w_il (fun _ => rfl) (w_op (c := w_i 4) (by decide +kernel) (w_go (w_run k_323642 (w_op (c := w_i 4) (by decide +kernel) (w_astI s2776.2.2.1 (by omega) (by omega) (by omega) (by omega) (by omega) (fun A2790 h2789 w2791 s2788 => ?_)))))))))))))))
              have q2792 : a_g A2790 0 = 2 := ((w2791 0 (by omega) (by omega)).trans (if_neg (by omega))).trans q2780
              have q2793 : a_g A2790 1 = 5 := ((w2791 1 (by omega) (by omega)).trans (if_neg (by omega))).trans q2781
              have q2794 : a_g A2790 2 = 10 := ((w2791 2 (by omega) (by omega)).trans (if_neg (by omega))).trans q2782
              have q2795 : a_g A2790 3 = 4 := (w2791 3 (by omega) (by omega)).trans (if_pos rfl)
              have q2796 : a_g A2790 4 = 0 := ((w2791 4 (by omega) (by omega)).trans (if_neg (by omega))).trans q2784
              have q2797 : a_g A2790 5 = 0 := ((w2791 5 (by omega) (by omega)).trans (if_neg (by omega))).trans q2785
              have z2798 := s2788.1
              have z2798y := s2788.2.1
              have z2798w := s2788.2.2.2.2 z2786w
              refine w_rv ⟨rfl, ?_⟩
              refine w_inc (c := w_i 3) (fun _ => rfl) (by decide +kernel) (fun _ => rfl) (w_go (w_run k_315450 (w_il (fun _ => rfl) (w_icI (x := 1) rfl (w_op (c := w_i 4) (by decide +kernel) (w_il (fun _ => rfl) (w_gef (by omega) (by omega) (by omega) (by omega) (by omega)  (w_al (fun _ => rfl) (w_il (fun _ => rfl) (w_il (fun _ => rfl) (w_icI (x := 1) rfl (w_op (c := w_i 4) (by decide +kernel) (w_icI (x := 1) rfl ?_)))))))))))))
              have m2799 := st_fr s2788 m2787 (by decide)
              refine w_this (fun _ => rfl) m2799 (w_cv (fun _ => rfl) rfl (w_run k_323584 (w_al (fun _ => rfl) (w_getf m2799 rfl (fun _ => rfl) (w_il (fun _ => rfl) (w_al (fun _ => rfl) (w_getf m2799 rfl (fun _ => rfl) (w_il (fun _ => rfl) (w_aldI s2788.2.2.1 (by omega) (by omega) (by omega) ?_)))))))))
              rw [q2795]
              refine w_icI (x := 1) rfl (w_il (fun _ => rfl) (w_op (c := w_i 16) (by decide +kernel) (w_icI (x := (-1)) wn_1 (w_op (c := w_i (-17)) (by decide +kernel) (w_op (c := w_i 4) (by decide +kernel) (w_il (fun _ => rfl) (w_eqzf (by omega) (by omega) (by omega)  (w_icI (x := 1) rfl (w_il (fun _ => rfl) (w_op (c := w_i 16) (by decide +kernel) (w_go (w_run k_323612 (w_op (c := w_i 20) (by decide +kernel) (w_astI s2788.2.2.1 (by omega) (by omega) (by omega) (by omega) (by omega) (fun A2802 h2801 w2803 s2800 => ?_)))))))))))))))
              have q2804 : a_g A2802 0 = 2 := ((w2803 0 (by omega) (by omega)).trans (if_neg (by omega))).trans q2792
              have q2805 : a_g A2802 1 = 5 := ((w2803 1 (by omega) (by omega)).trans (if_neg (by omega))).trans q2793
              have q2806 : a_g A2802 2 = 10 := ((w2803 2 (by omega) (by omega)).trans (if_neg (by omega))).trans q2794
              have q2807 : a_g A2802 3 = 20 := (w2803 3 (by omega) (by omega)).trans (if_pos rfl)
              have q2808 : a_g A2802 4 = 0 := ((w2803 4 (by omega) (by omega)).trans (if_neg (by omega))).trans q2796
              have q2809 : a_g A2802 5 = 0 := ((w2803 5 (by omega) (by omega)).trans (if_neg (by omega))).trans q2797
              have z2810 := s2800.1
              have z2810y := s2800.2.1
              have z2810w := s2800.2.2.2.2 z2798w
              refine w_al (fun _ => rfl) ?_
              have m2811 := st_fr s2800 m2799 (by decide)
              refine w_getf m2811 rfl (fun _ => rfl) (w_il (fun _ => rfl) (w_al (fun _ => rfl) (w_getf m2811 rfl (fun _ => rfl) (w_il (fun _ => rfl) (w_aldI s2800.2.2.1 (by omega) (by omega) (by omega) ?_)))))
              rw [q2808]
              refine w_icI (x := 1) rfl (w_il (fun _ => rfl) (w_op (c := w_i 8) (by decide +kernel) (w_icI (x := (-1)) wn_1 (w_op (c := w_i (-9)) (by decide +kernel) (w_op (c := w_i 0) (by decide +kernel) (w_il (fun _ => rfl) (w_eqzf (by omega) (by omega) (by omega)  (w_icI (x := 1) rfl (w_il (fun _ => rfl) (w_op (c := w_i 8) (by decide +kernel) (w_go (w_run k_323642 (w_op (c := w_i 8) (by decide +kernel) (w_astI s2800.2.2.1 (by omega) (by omega) (by omega) (by omega) (by omega) (fun A2814 h2813 w2815 s2812 => ?_)))))))))))))))
              have q2816 : a_g A2814 0 = 2 := ((w2815 0 (by omega) (by omega)).trans (if_neg (by omega))).trans q2804
              have q2817 : a_g A2814 1 = 5 := ((w2815 1 (by omega) (by omega)).trans (if_neg (by omega))).trans q2805
              have q2818 : a_g A2814 2 = 10 := ((w2815 2 (by omega) (by omega)).trans (if_neg (by omega))).trans q2806
              have q2819 : a_g A2814 3 = 20 := ((w2815 3 (by omega) (by omega)).trans (if_neg (by omega))).trans q2807
              have q2820 : a_g A2814 4 = 8 := (w2815 4 (by omega) (by omega)).trans (if_pos rfl)
              have q2821 : a_g A2814 5 = 0 := ((w2815 5 (by omega) (by omega)).trans (if_neg (by omega))).trans q2809
              have z2822 := s2812.1
              have z2822y := s2812.2.1
              have z2822w := s2812.2.2.2.2 z2810w
              refine w_rv ⟨rfl, ?_⟩
              refine w_inc (c := w_i 4) (fun _ => rfl) (by decide +kernel) (fun _ => rfl) (w_go (w_run k_315450 (w_il (fun _ => rfl) (w_icI (x := 1) rfl (w_op (c := w_i 5) (by decide +kernel) (w_il (fun _ => rfl) (w_gef (by omega) (by omega) (by omega) (by omega) (by omega)  (w_al (fun _ => rfl) (w_il (fun _ => rfl) (w_il (fun _ => rfl) (w_icI (x := 1) rfl (w_op (c := w_i 5) (by decide +kernel) (w_icI (x := 1) rfl ?_)))))))))))))
              have m2823 := st_fr s2812 m2811 (by decide)
              refine w_this (fun _ => rfl) m2823 (w_cv (fun _ => rfl) rfl (w_run k_323584 (w_al (fun _ => rfl) (w_getf m2823 rfl (fun _ => rfl) (w_il (fun _ => rfl) (w_al (fun _ => rfl) (w_getf m2823 rfl (fun _ => rfl) (w_il (fun _ => rfl) (w_aldI s2812.2.2.1 (by omega) (by omega) (by omega) ?_)))))))))
              rw [q2820]
              refine w_icI (x := 1) rfl (w_il (fun _ => rfl) (w_op (c := w_i 32) (by decide +kernel) (w_icI (x := (-1)) wn_1 (w_op (c := w_i (-33)) (by decide +kernel) (w_op (c := w_i 8) (by decide +kernel) (w_il (fun _ => rfl) (w_eqzf (by omega) (by omega) (by omega)  (w_icI (x := 1) rfl (w_il (fun _ => rfl) (w_op (c := w_i 32) (by decide +kernel) (w_go (w_run k_323612 (w_op (c := w_i 40) (by decide +kernel) (w_astI s2812.2.2.1 (by omega) (by omega) (by omega) (by omega) (by omega) (fun A2826 h2825 w2827 s2824 => ?_)))))))))))))))
              have q2828 : a_g A2826 0 = 2 := ((w2827 0 (by omega) (by omega)).trans (if_neg (by omega))).trans q2816
              have q2829 : a_g A2826 1 = 5 := ((w2827 1 (by omega) (by omega)).trans (if_neg (by omega))).trans q2817
              have q2830 : a_g A2826 2 = 10 := ((w2827 2 (by omega) (by omega)).trans (if_neg (by omega))).trans q2818
              have q2831 : a_g A2826 3 = 20 := ((w2827 3 (by omega) (by omega)).trans (if_neg (by omega))).trans q2819
              have q2832 : a_g A2826 4 = 40 := (w2827 4 (by omega) (by omega)).trans (if_pos rfl)
              have q2833 : a_g A2826 5 = 0 := ((w2827 5 (by omega) (by omega)).trans (if_neg (by omega))).trans q2821
              have z2834 := s2824.1
              have z2834y := s2824.2.1
              have z2834w := s2824.2.2.2.2 z2822w
              refine w_al (fun _ => rfl) ?_
              have m2835 := st_fr s2824 m2823 (by decide)
              refine w_getf m2835 rfl (fun _ => rfl) (w_il (fun _ => rfl) (w_al (fun _ => rfl) (w_getf m2835 rfl (fun _ => rfl) (w_il (fun _ => rfl) (w_aldI s2824.2.2.1 (by omega) (by omega) (by omega) ?_)))))
              rw [q2833]
              refine w_icI (x := 1) rfl (w_il (fun _ => rfl) (w_op (c := w_i 16) (by decide +kernel) (w_icI (x := (-1)) wn_1 (w_op (c := w_i (-17)) (by decide +kernel) (w_op (c := w_i 0) (by decide +kernel) (w_il (fun _ => rfl) (w_eqzf (by omega) (by omega) (by omega)  (w_icI (x := 1) rfl (w_il (fun _ => rfl) (w_op (c := w_i 16) (by decide +kernel) (w_go (w_run k_323642 (w_op (c := w_i 16) (by decide +kernel) (w_astI s2824.2.2.1 (by omega) (by omega) (by omega) (by omega) (by omega) (fun A2838 h2837 w2839 s2836 => ?_)))))))))))))))
              have q2840 : a_g A2838 0 = 2 := ((w2839 0 (by omega) (by omega)).trans (if_neg (by omega))).trans q2828
              have q2841 : a_g A2838 1 = 5 := ((w2839 1 (by omega) (by omega)).trans (if_neg (by omega))).trans q2829
              have q2842 : a_g A2838 2 = 10 := ((w2839 2 (by omega) (by omega)).trans (if_neg (by omega))).trans q2830
              have q2843 : a_g A2838 3 = 20 := ((w2839 3 (by omega) (by omega)).trans (if_neg (by omega))).trans q2831
              have q2844 : a_g A2838 4 = 40 := ((w2839 4 (by omega) (by omega)).trans (if_neg (by omega))).trans q2832
              have q2845 : a_g A2838 5 = 16 := (w2839 5 (by omega) (by omega)).trans (if_pos rfl)
              have z2846 := s2836.1
              have z2846y := s2836.2.1
              have z2846w := s2836.2.2.2.2 z2834w
              refine w_rv ⟨rfl, ?_⟩
              refine w_inc (c := w_i 5) (fun _ => rfl) (by decide +kernel) (fun _ => rfl) (w_go (w_run k_315450 (w_il (fun _ => rfl) (w_icI (x := 1) rfl (w_op (c := w_i 6) (by decide +kernel) (w_il (fun _ => rfl) (w_get (by omega) (by omega) (by omega) (by omega) (by omega)  (w_run k_315472 (w_al (fun _ => rfl) (w_icI (x := 0) rfl ?_))))))))))
              have m2847 := st_fr s2836 m2835 (by decide)
              refine w_putf [.inl (w_i hh), .inl (w_i c), .inl (w_i ((((((1 * c) * c) * c) * c) * c) * c)), .inr (.inl (some 2)), .inr (.inl (some 3)), .inr (.inl (some 4)), .inl (w_i 0), .inl (w_i sp13), .inl (w_i rl13)] m2847 rfl rfl rfl (fun _ => rfl) (fun h2849 s2848 => ?_)
              have z2851 := s2848.1
              have z2851y := s2848.2.1
              have z2851w := s2848.2.2.2.2 z2846w
              refine w_al (fun _ => rfl) (w_icI (x := 0) rfl (w_putf [.inl (w_i hh), .inl (w_i c), .inl (w_i ((((((1 * c) * c) * c) * c) * c) * c)), .inr (.inl (some 2)), .inr (.inl (some 3)), .inr (.inl (some 4)), .inl (w_i 0), .inl (w_i 0), .inl (w_i rl13)] s2848.2.2.1 rfl rfl rfl (fun _ => rfl) (fun h2853 s2852 => ?_)))
              have z2855 := s2852.1
              have z2855y := s2852.2.1
              have z2855w := s2852.2.2.2.2 z2851w
              refine w_rv ⟨rfl, ?_⟩
              refine w_al (fun _ => rfl) (w_icI (x := 0) rfl ?_)
              have m2856 := st_fr s2501 m12 (by decide)
              have m2857 := st_fr s2505 m2856 (by decide)
              have m2858 := st_fr s2509 m2857 (by decide)
              have m2859 := st_fr s2516 m2858 (by decide)
              have m2860 := st_fr s2527 m2859 (by decide)
              have m2861 := st_fr s2539 m2860 (by decide)
              have m2862 := st_fr s2548 m2861 (by decide)
              have m2863 := st_fr s2558 m2862 (by decide)
              have m2864 := st_fr s2568 m2863 (by decide)
              have m2865 := st_fr s2578 m2864 (by decide)
              have m2866 := st_fr s2589 m2865 (by decide)
              have m2867 := st_fr s2600 m2866 (by decide)
              have m2868 := st_fr s2611 m2867 (by decide)
              have m2869 := st_fr s2623 m2868 (by decide)
              have m2870 := st_fr s2635 m2869 (by decide)
              have m2871 := st_fr s2647 m2870 (by decide)
              have m2872 := st_fr s2660 m2871 (by decide)
              have m2873 := st_fr s2673 m2872 (by decide)
              have m2874 := st_fr s2686 m2873 (by decide)
              have m2875 := st_fr s2700 m2874 (by decide)
              have m2876 := st_fr s2714 m2875 (by decide)
              have m2877 := st_fr s2728 m2876 (by decide)
              have m2878 := st_fr s2740 m2877 (by decide)
              have m2879 := st_fr s2752 m2878 (by decide)
              have m2880 := st_fr s2764 m2879 (by decide)
              have m2881 := st_fr s2776 m2880 (by decide)
              have m2882 := st_fr s2788 m2881 (by decide)
              have m2883 := st_fr s2800 m2882 (by decide)
              have m2884 := st_fr s2812 m2883 (by decide)
              have m2885 := st_fr s2824 m2884 (by decide)
              have m2886 := st_fr s2836 m2885 (by decide)
              have m2887 := st_fr s2848 m2886 (by decide)
              have m2888 := st_fr s2852 m2887 (by decide)
              refine w_putf [.inr (.inl (some 1)), .inr (.inl (some 5)), .inl (w_i 0), .inr (.inl (some 9)), .inr (.inl (some 17)), .inl (w_i (g_np g)), .inr (.inl (some 18)), .inr (.inl (some 23)), .inl (w_i (g_nt g)), .inr (.inl (some 24)), .inr (.inl (some 25)), .inr (.inl (some 26)), .inr (.inl (some 27))] m2888 rfl rfl rfl (fun _ => rfl) (fun h2890 s2889 => ?_)
              have z2892 := s2889.1
              have z2892y := s2889.2.1
              have z2892w := s2889.2.2.2.2 z2855w
              refine w_al (fun _ => rfl) (w_getf s2889.2.2.1 rfl (fun _ => rfl) ?_)
              have m2893 := st_fr s2501 m18 (by decide)
              have m2894 := st_fr s2505 m2893 (by decide)
              have m2895 := st_fr s2509 m2894 (by decide)
              have m2896 := st_fr s2516 m2895 (by decide)
              have m2897 := st_fr s2527 m2896 (by decide)
              have m2898 := st_fr s2539 m2897 (by decide)
              have m2899 := st_fr s2548 m2898 (by decide)
              have m2900 := st_fr s2558 m2899 (by decide)
              have m2901 := st_fr s2568 m2900 (by decide)
              have m2902 := st_fr s2578 m2901 (by decide)
              have m2903 := st_fr s2589 m2902 (by decide)
              have m2904 := st_fr s2600 m2903 (by decide)
              have m2905 := st_fr s2611 m2904 (by decide)
              have m2906 := st_fr s2623 m2905 (by decide)
              have m2907 := st_fr s2635 m2906 (by decide)
              have m2908 := st_fr s2647 m2907 (by decide)
              have m2909 := st_fr s2660 m2908 (by decide)
              have m2910 := st_fr s2673 m2909 (by decide)
              have m2911 := st_fr s2686 m2910 (by decide)
              have m2912 := st_fr s2700 m2911 (by decide)
              have m2913 := st_fr s2714 m2912 (by decide)
              have m2914 := st_fr s2728 m2913 (by decide)
              have m2915 := st_fr s2740 m2914 (by decide)
              have m2916 := st_fr s2752 m2915 (by decide)
              have m2917 := st_fr s2764 m2916 (by decide)
              have m2918 := st_fr s2776 m2917 (by decide)
              have m2919 := st_fr s2788 m2918 (by decide)
              have m2920 := st_fr s2800 m2919 (by decide)
              have m2921 := st_fr s2812 m2920 (by decide)
              have m2922 := st_fr s2824 m2921 (by decide)
              have m2923 := st_fr s2836 m2922 (by decide)
              have m2924 := st_fr s2848 m2923 (by decide)
              have m2925 := st_fr s2852 m2924 (by decide)
              have m2926 := st_fr s2889 m2925 (by decide)
              refine w_this (fun _ => rfl) m2926 (w_cv (fun _ => rfl) rfl (w_run k_57344 (w_al (fun _ => rfl) (w_icI (x := 0) rfl (w_putf [.inr (.inl (some 19)), .inl (w_i 0), .inr (.inl (some 20)), .inr (.inl (some 21)), .inl (w_i atp18), .inl (w_i tok18), .inl (w_i flt18), .inr (.inl (some 22)), .inl (w_i wri18)] m2926 rfl rfl rfl (fun _ => rfl) (fun h2928 s2927 => ?_))))))
              have z2930 := s2927.1
              have z2930y := s2927.2.1
              have z2930w := s2927.2.2.2.2 z2892w
              refine w_rv ⟨rfl, ?_⟩
              refine w_icI (x := 0) rfl (w_is (fun _ => rfl) (w_il (fun _ => rfl) (w_icI (x := 4) rfl (w_gef (by omega) (by omega) (by omega) (by omega) (by omega)  (w_al (fun _ => rfl) ?_)))))
              have m2931 := st_fr s2927 s2889.2.2.1 (by decide)
              refine w_getf m2931 rfl (fun _ => rfl) (w_il (fun _ => rfl) (w_nul ?_))
              have m2932 := st_fr s2501 m19 (by decide)
              have m2933 := st_fr s2505 m2932 (by decide)
              have m2934 := st_fr s2509 m2933 (by decide)
              have m2935 := st_fr s2516 m2934 (by decide)
              have m2936 := st_fr s2527 m2935 (by decide)
              have m2937 := st_fr s2539 m2936 (by decide)
              have m2938 := st_fr s2548 m2937 (by decide)
              have m2939 := st_fr s2558 m2938 (by decide)
              have m2940 := st_fr s2568 m2939 (by decide)
              have m2941 := st_fr s2578 m2940 (by decide)
              have m2942 := st_fr s2589 m2941 (by decide)
              have m2943 := st_fr s2600 m2942 (by decide)
              have m2944 := st_fr s2611 m2943 (by decide)
              have m2945 := st_fr s2623 m2944 (by decide)
              have m2946 := st_fr s2635 m2945 (by decide)
              have m2947 := st_fr s2647 m2946 (by decide)
              have m2948 := st_fr s2660 m2947 (by decide)
              have m2949 := st_fr s2673 m2948 (by decide)
              have m2950 := st_fr s2686 m2949 (by decide)
              have m2951 := st_fr s2700 m2950 (by decide)
              have m2952 := st_fr s2714 m2951 (by decide)
              have m2953 := st_fr s2728 m2952 (by decide)
              have m2954 := st_fr s2740 m2953 (by decide)
              have m2955 := st_fr s2752 m2954 (by decide)
              have m2956 := st_fr s2764 m2955 (by decide)
              have m2957 := st_fr s2776 m2956 (by decide)
              have m2958 := st_fr s2788 m2957 (by decide)
              have m2959 := st_fr s2800 m2958 (by decide)
              have m2960 := st_fr s2812 m2959 (by decide)
              have m2961 := st_fr s2824 m2960 (by decide)
              have m2962 := st_fr s2836 m2961 (by decide)
              have m2963 := st_fr s2848 m2962 (by decide)
              have m2964 := st_fr s2852 m2963 (by decide)
              have m2965 := st_fr s2889 m2964 (by decide)
              have m2966 := st_fr s2927 m2965 (by decide)
              refine w_aastI m2966 (by omega) (by omega) (by decide) isC_no (fun h2968 s2967 => ?_)
              have z2969 := set_no (j := (0).toNat) lp19 ll19 (Or.inl rfl)
              have z2970 := s2967.1
              have z2970y := s2967.2.1
              have z2970w := s2967.2.2.2.2 z2930w
              refine w_inc (c := w_i 1) (fun _ => rfl) (by decide +kernel) (fun _ => rfl) (w_go (w_run k_364611 (w_il (fun _ => rfl) (w_icI (x := 4) rfl (w_gef (by omega) (by omega) (by omega) (by omega) (by omega)  (w_al (fun _ => rfl) ?_))))))
              have m2971 := st_fr s2967 m2931 (by decide)
              refine w_getf m2971 rfl (fun _ => rfl) (w_il (fun _ => rfl) (w_nul (w_aastI s2967.2.2.1 (by omega) (by omega) (by decide) isC_no (fun h2973 s2972 => ?_))))
              have z2974 := set_no (j := (1).toNat) z2969.2 z2969.1 (Or.inl rfl)
              have z2975 := s2972.1
              have z2975y := s2972.2.1
              have z2975w := s2972.2.2.2.2 z2970w
              refine w_inc (c := w_i 2) (fun _ => rfl) (by decide +kernel) (fun _ => rfl) (w_go (w_run k_364611 (w_il (fun _ => rfl) (w_icI (x := 4) rfl (w_gef (by omega) (by omega) (by omega) (by omega) (by omega)  (w_al (fun _ => rfl) ?_))))))
              have m2976 := st_fr s2972 m2971 (by decide)
              refine w_getf m2976 rfl (fun _ => rfl) (w_il (fun _ => rfl) (w_nul (w_aastI s2972.2.2.1 (by omega) (by omega) (by decide) isC_no (fun h2978 s2977 => ?_))))
              have z2979 := set_no (j := (2).toNat) z2974.2 z2974.1 (Or.inl rfl)
              have z2980 := s2977.1
              have z2980y := s2977.2.1
              have z2980w := s2977.2.2.2.2 z2975w
              refine w_inc (c := w_i 3) (fun _ => rfl) (by decide +kernel) (fun _ => rfl) (w_go (w_run k_364611 (w_il (fun _ => rfl) (w_icI (x := 4) rfl (w_gef (by omega) (by omega) (by omega) (by omega) (by omega)  (w_al (fun _ => rfl) ?_))))))
              have m2981 := st_fr s2977 m2976 (by decide)
              refine w_getf m2981 rfl (fun _ => rfl) (w_il (fun _ => rfl) (w_nul (w_aastI s2977.2.2.1 (by omega) (by omega) (by decide) isC_no (fun h2983 s2982 => ?_))))
              have z2984 := set_no (j := (3).toNat) z2979.2 z2979.1 (Or.inl rfl)
              have z2985 := s2982.1
              have z2985y := s2982.2.1
              have z2985w := s2982.2.2.2.2 z2980w
              refine w_inc (c := w_i 4) (fun _ => rfl) (by decide +kernel) (fun _ => rfl) (w_go (w_run k_364611 (w_il (fun _ => rfl) (w_icI (x := 4) rfl (w_get (by omega) (by omega) (by omega) (by omega) (by omega)  (w_run k_364631 (w_al (fun _ => rfl) ?_)))))))
              have m2986 := st_fr s2982 m2981 (by decide)
              refine w_getf m2986 rfl (fun _ => rfl) ?_
              have m2987 := st_fr s2501 m17 (by decide)
              have m2988 := st_fr s2505 m2987 (by decide)
              have m2989 := st_fr s2509 m2988 (by decide)
              have m2990 := st_fr s2516 m2989 (by decide)
              have m2991 := st_fr s2527 m2990 (by decide)
              have m2992 := st_fr s2539 m2991 (by decide)
              have m2993 := st_fr s2548 m2992 (by decide)
              have m2994 := st_fr s2558 m2993 (by decide)
              have m2995 := st_fr s2568 m2994 (by decide)
              have m2996 := st_fr s2578 m2995 (by decide)
              have m2997 := st_fr s2589 m2996 (by decide)
              have m2998 := st_fr s2600 m2997 (by decide)
              have m2999 := st_fr s2611 m2998 (by decide)
              have m3000 := st_fr s2623 m2999 (by decide)
              have m3001 := st_fr s2635 m3000 (by decide)
              have m3002 := st_fr s2647 m3001 (by decide)
              have m3003 := st_fr s2660 m3002 (by decide)
              have m3004 := st_fr s2673 m3003 (by decide)
              have m3005 := st_fr s2686 m3004 (by decide)
              have m3006 := st_fr s2700 m3005 (by decide)
              have m3007 := st_fr s2714 m3006 (by decide)
              have m3008 := st_fr s2728 m3007 (by decide)
              have m3009 := st_fr s2740 m3008 (by decide)
              have m3010 := st_fr s2752 m3009 (by decide)
              have m3011 := st_fr s2764 m3010 (by decide)
              have m3012 := st_fr s2776 m3011 (by decide)
              have m3013 := st_fr s2788 m3012 (by decide)
              have m3014 := st_fr s2800 m3013 (by decide)
              have m3015 := st_fr s2812 m3014 (by decide)
              have m3016 := st_fr s2824 m3015 (by decide)
              have m3017 := st_fr s2836 m3016 (by decide)
              have m3018 := st_fr s2848 m3017 (by decide)
              have m3019 := st_fr s2852 m3018 (by decide)
              have m3020 := st_fr s2889 m3019 (by decide)
              have m3021 := st_fr s2927 m3020 (by decide)
              have m3022 := st_fr s2967 m3021 (by decide)
              have m3023 := st_fr s2972 m3022 (by decide)
              have m3024 := st_fr s2977 m3023 (by decide)
              have m3025 := st_fr s2982 m3024 (by decide)
              refine w_this (fun _ => rfl) m3025 (w_cv (fun _ => rfl) rfl (w_run k_151552 (w_al (fun _ => rfl) (w_icI (x := 0) rfl (w_putf [.inr (.inl (some 1)), .inr (.inl (some 10)), .inl (w_i 0), .inr (.inl (some 11)), .inl (w_i sta17), .inr (.inl (some (g_rw g))), .inl (w_i fnd17), .inr (.inl (some (g_stp g))), .inr (.inl (some (g_ahd g))), .inr (.inl (some (g_cst g))), .inr (.inl (some (g_chp g))), .inl (w_i kco17)] m3025 rfl rfl rfl (fun _ => rfl) (fun h3027 s3026 => ?_))))))
              have z3029 := s3026.1
              have z3029y := s3026.2.1
              have z3029w := s3026.2.2.2.2 z2985w
              refine w_al (fun _ => rfl) (w_icI (x := (-1)) wn_1 (w_putf [.inr (.inl (some 1)), .inr (.inl (some 10)), .inl (w_i 0), .inr (.inl (some 11)), .inl (w_i (-1)), .inr (.inl (some (g_rw g))), .inl (w_i fnd17), .inr (.inl (some (g_stp g))), .inr (.inl (some (g_ahd g))), .inr (.inl (some (g_cst g))), .inr (.inl (some (g_chp g))), .inl (w_i kco17)] s3026.2.2.1 rfl rfl rfl (fun _ => rfl) (fun h3031 s3030 => ?_)))
              have z3033 := s3030.1
              have z3033y := s3030.2.1
              have z3033w := s3030.2.2.2.2 z3029w
              refine w_rv ⟨rfl, ?_⟩
              refine w_il (fun _ => rfl) (w_ri ?_)
              have F1 := F.1
              have F2 := F.2.1
              have m3034 := st_fr s2848 s2836.2.2.1 (by decide)
              have m3035 := st_fr s2852 m3034 (by decide)
              have m3036 := st_fr s2889 m3035 (by decide)
              have m3037 := st_fr s2927 m3036 (by decide)
              have m3038 := st_fr s2967 m3037 (by decide)
              have m3039 := st_fr s2972 m3038 (by decide)
              have m3040 := st_fr s2977 m3039 (by decide)
              have m3041 := st_fr s2982 m3040 (by decide)
              have m3042 := st_fr s3026 m3041 (by decide)
              have m3043 := st_fr s3030 m3042 (by decide)
              have m3044 := st_fr s2889 s2852.2.2.1 (by decide)
              have m3045 := st_fr s2927 m3044 (by decide)
              have m3046 := st_fr s2967 m3045 (by decide)
              have m3047 := st_fr s2972 m3046 (by decide)
              have m3048 := st_fr s2977 m3047 (by decide)
              have m3049 := st_fr s2982 m3048 (by decide)
              have m3050 := st_fr s3026 m3049 (by decide)
              have m3051 := st_fr s3030 m3050 (by decide)
              have m3052 := st_fr s3026 s2982.2.2.1 (by decide)
              have m3053 := st_fr s3030 m3052 (by decide)
              have hN : ((((((1 * c) * c) * c) * c) * c) * c) = w_pw c hh := by rw [hk, pn_6]
              have gz : g_nt (g_bu g hh c ((((((1 * c) * c) * c) * c) * c) * c) A2838) = g_nt g := rfl
              have m3054 := st_fr s3026 m2986 (by decide)
              have m3055 := st_fr s3030 m3054 (by decide)
              have six3056 : ∀ j : Int, 0 ≤ j → j < 6 → 0 ≤ a_g A2838 j ∧ a_g A2838 j ≤ 63 := fun j j0 j1 => by
                rcases (show j = 0 ∨ j = 1 ∨ j = 2 ∨ j = 3 ∨ j = 4 ∨ j = 5 from by omega) with rfl | rfl | rfl | rfl | rfl | rfl
                · rw [q2840]; omega
                · rw [q2841]; omega
                · rw [q2842]; omega
                · rw [q2843]; omega
                · rw [q2844]; omega
                · rw [q2845]; omega
              have m3057 := st_fr s2714 s2700.2.2.1 (by decide)
              have m3058 := st_fr s2728 m3057 (by decide)
              have m3059 := st_fr s2740 m3058 (by decide)
              have m3060 := st_fr s2752 m3059 (by decide)
              have m3061 := st_fr s2764 m3060 (by decide)
              have m3062 := st_fr s2776 m3061 (by decide)
              have m3063 := st_fr s2788 m3062 (by decide)
              have m3064 := st_fr s2800 m3063 (by decide)
              have m3065 := st_fr s2812 m3064 (by decide)
              have m3066 := st_fr s2824 m3065 (by decide)
              have m3067 := st_fr s2836 m3066 (by decide)
              have m3068 := st_fr s2848 m3067 (by decide)
              have m3069 := st_fr s2852 m3068 (by decide)
              have m3070 := st_fr s2889 m3069 (by decide)
              have m3071 := st_fr s2927 m3070 (by decide)
              have m3072 := st_fr s2967 m3071 (by decide)
              have m3073 := st_fr s2972 m3072 (by decide)
              have m3074 := st_fr s2977 m3073 (by decide)
              have m3075 := st_fr s2982 m3074 (by decide)
              have m3076 := st_fr s3026 m3075 (by decide)
              have m3077 := st_fr s3030 m3076 (by decide)
              have six3078 : ∀ j : Int, 0 ≤ j → j < 6 → 0 ≤ a_g A2702 j ∧ a_g A2702 j < c := fun j j0 j1 => by
                rcases (show j = 0 ∨ j = 1 ∨ j = 2 ∨ j = 3 ∨ j = 4 ∨ j = 5 from by omega) with rfl | rfl | rfl | rfl | rfl | rfl
                · rw [q2704]; omega
                · rw [q2705]; omega
                · rw [q2706]; omega
                · rw [q2707]; omega
                · rw [q2708]; omega
                · rw [q2709]; omega
              have m3079 := st_fr s2728 s2714.2.2.1 (by decide)
              have m3080 := st_fr s2740 m3079 (by decide)
              have m3081 := st_fr s2752 m3080 (by decide)
              have m3082 := st_fr s2764 m3081 (by decide)
              have m3083 := st_fr s2776 m3082 (by decide)
              have m3084 := st_fr s2788 m3083 (by decide)
              have m3085 := st_fr s2800 m3084 (by decide)
              have m3086 := st_fr s2812 m3085 (by decide)
              have m3087 := st_fr s2824 m3086 (by decide)
              have m3088 := st_fr s2836 m3087 (by decide)
              have m3089 := st_fr s2848 m3088 (by decide)
              have m3090 := st_fr s2852 m3089 (by decide)
              have m3091 := st_fr s2889 m3090 (by decide)
              have m3092 := st_fr s2927 m3091 (by decide)
              have m3093 := st_fr s2967 m3092 (by decide)
              have m3094 := st_fr s2972 m3093 (by decide)
              have m3095 := st_fr s2977 m3094 (by decide)
              have m3096 := st_fr s2982 m3095 (by decide)
              have m3097 := st_fr s3026 m3096 (by decide)
              have m3098 := st_fr s3030 m3097 (by decide)
              have m3099 := st_fr s2967 s2927.2.2.1 (by decide)
              have m3100 := st_fr s2972 m3099 (by decide)
              have m3101 := st_fr s2977 m3100 (by decide)
              have m3102 := st_fr s2982 m3101 (by decide)
              have m3103 := st_fr s3026 m3102 (by decide)
              have m3104 := st_fr s3030 m3103 (by decide)
              have ivn := bu_fin (e0 := _) (e1 := _) (e18 := _) (e24 := _) (hh := hh) (c := c) (N := ((((((1 * c) * c) * c) * c) * c) * c)) iv (by omega) (by omega) (by omega) (by omega) hN (by omega) z3033w (by omega) (fun q n0 n1 n2 n3 n4 n9 n18 n24 => (s3030.2.2.2.1 q n9).trans ((s3026.2.2.2.1 q n9).trans ((s2982.2.2.2.1 q n24).trans ((s2977.2.2.2.1 q n24).trans ((s2972.2.2.2.1 q n24).trans ((s2967.2.2.2.1 q n24).trans ((s2927.2.2.2.1 q n18).trans ((s2889.2.2.2.1 q n0).trans ((s2852.2.2.2.1 q n1).trans ((s2848.2.2.2.1 q n1).trans ((s2836.2.2.2.1 q n2).trans ((s2824.2.2.2.1 q n2).trans ((s2812.2.2.2.1 q n2).trans ((s2800.2.2.2.1 q n2).trans ((s2788.2.2.2.1 q n2).trans ((s2776.2.2.2.1 q n2).trans ((s2764.2.2.2.1 q n2).trans ((s2752.2.2.2.1 q n2).trans ((s2740.2.2.2.1 q n2).trans ((s2728.2.2.2.1 q n2).trans ((s2714.2.2.2.1 q n4).trans ((s2700.2.2.2.1 q n3).trans ((s2686.2.2.2.1 q n2).trans ((s2673.2.2.2.1 q n4).trans ((s2660.2.2.2.1 q n3).trans ((s2647.2.2.2.1 q n2).trans ((s2635.2.2.2.1 q n4).trans ((s2623.2.2.2.1 q n3).trans ((s2611.2.2.2.1 q n2).trans ((s2600.2.2.2.1 q n4).trans ((s2589.2.2.2.1 q n3).trans ((s2578.2.2.2.1 q n2).trans ((s2568.2.2.2.1 q n4).trans ((s2558.2.2.2.1 q n3).trans ((s2548.2.2.2.1 q n2).trans ((s2539.2.2.2.1 q n4).trans ((s2527.2.2.2.1 q n3).trans ((s2516.2.2.2.1 q n2).trans ((s2509.2.2.2.1 q n1).trans ((s2505.2.2.2.1 q n1).trans ((s2501.2.2.2.1 q n1).trans (rfl)))))))))))))))))))))))))))))))))))))))))) m3055 rfl m3051 ⟨_, _, _, rfl, by omega, by omega, by omega, by omega, by omega, by omega, by omega, by omega⟩ m3043 six3056 m3077 six3078 ⟨_, m3098⟩ s3030.2.2.1 ⟨by omega, by omega, by omega, by omega, by omega, by omega⟩ m3104 ⟨_, _, _, _, _, rfl, by omega, by omega, by omega, by omega, by omega, by omega, by omega, by omega, by omega, by omega, by omega, by omega, by omega, by omega, by omega, by omega, by omega⟩ m3053 ⟨_, rfl, z2984.1, z2984.2⟩
              exact k0 _ (g_bu g hh c ((((((1 * c) * c) * c) * c) * c) * c) A2838) o h3031 ivn ch_gbu oe_rf (by omega) (by omega)
          · refine w_icI (x := (-2)) wn_2 (w_ri ?_)
            exact k1 (-2) h iv F (by omega) (by omega)
theorem k_61440 : m_cg 61440 = g_15_0 := rfl
theorem k_61510 : m_cg 61510 = g_15_70 := rfl
theorem k_61524 : m_cg 61524 = g_15_84 := rfl
theorem k_286720 : m_cg 286720 = g_70_0 := rfl
theorem c_read {g : w_G} {o : w_O} {h : m_H} {d : Nat} {Q : Option m_V → m_H → Prop} (iv : w_Inv g o h) (k0 : ∀ (p : Nat) (o2 : w_O) (h2 : m_H), w_Inv g o2 h2 → w_oe o o2 → (o2 p).1 = 110 → h2.1 ≤ h.1 + 3 → h2.2.1 ≤ h.2.1 + 200 → Q (some (.inr (.inl (some p)))) h2) (k1 : ∀ h2 : m_H, w_Inv g o h2 → w_fr o [18, 20, 21, 22] h h2 → Q (some (.inr (.inl none))) h2) : wp (d + 89) 61440 [.inr (.inl (some 18)), .inr (.inr (.inl 0)), .inr (.inr (.inl 0)), .inr (.inr (.inl 0))] [] h Q := by
  have F := fr_rf (o := o) (h := h) (W := [18, 20, 21, 22])
  have W := iv_wc iv
  refine w_run k_61440 (w_al (fun _ => rfl) ?_)
  obtain ⟨_, m1, siz1, atp1, tok1, flt1, wri1, rfl, l1_siz, u1_siz, l1_atp, u1_atp, l1_tok, u1_tok, l1_flt, u1_flt, l1_wri, u1_wri, f1_0, f1_1, f1_2, f1_3, f1_4, f1_5, f1_6⟩ := iv_18 iv
  refine w_this (fun _ => rfl) m1 ?_
  refine w_cv (fun _ => rfl) rfl (c_splitTape (d := (d + 85)) iv     (fun h2 iv3 F4 => ⟨rfl, ?_⟩))
  have F5 := fr_ca F F4 (fun t ht => by simp at ht ⊢; omega)
  refine w_al (fun _ => rfl) (w_icI (x := (-1)) wn_1 ?_)
  have m6 := fr_at F4 m1 iv (ow_18 iv) rfl rfl
  refine w_putf [.inr (.inl (some 19)), .inl (w_i siz1), .inr (.inl (some 20)), .inr (.inl (some 21)), .inl (w_i atp1), .inl (w_i tok1), .inl (w_i (-1)), .inr (.inl (some 22)), .inl (w_i wri1)] m6 rfl rfl rfl (fun _ => rfl) (fun h8 s7 => ?_)
  have iv9 := is_18 iv3 s7 ⟨_, _, _, _, _, rfl, by omega, by omega, by omega, by omega, by omega, by omega, by omega, by omega, by omega, by omega, by omega, by omega, by omega, by omega, by omega, by omega, by omega⟩
  have F10 := fr_st F5 s7 (by rw [(ow_18 iv3)]; rfl)
  refine w_al (fun _ => rfl) (w_icI (x := 0) rfl (w_putf [.inr (.inl (some 19)), .inl (w_i siz1), .inr (.inl (some 20)), .inr (.inl (some 21)), .inl (w_i atp1), .inl (w_i tok1), .inl (w_i (-1)), .inr (.inl (some 22)), .inl (w_i 0)] s7.2.2.1 rfl rfl rfl (fun _ => rfl) (fun h12 s11 => ?_)))
  have iv13 := is_18 iv9 s11 ⟨_, _, _, _, _, rfl, by omega, by omega, by omega, by omega, by omega, by omega, by omega, by omega, by omega, by omega, by omega, by omega, by omega, by omega, by omega, by omega, by omega⟩
  have F14 := fr_st F10 s11 (by rw [(ow_18 iv9)]; rfl)
  refine w_al (fun _ => rfl) (w_icI (x := 0) rfl (w_putf [.inr (.inl (some 19)), .inl (w_i siz1), .inr (.inl (some 20)), .inr (.inl (some 21)), .inl (w_i 0), .inl (w_i tok1), .inl (w_i (-1)), .inr (.inl (some 22)), .inl (w_i 0)] s11.2.2.1 rfl rfl rfl (fun _ => rfl) (fun h16 s15 => ?_)))
  have iv17 := is_18 iv13 s15 ⟨_, _, _, _, _, rfl, by omega, by omega, by omega, by omega, by omega, by omega, by omega, by omega, by omega, by omega, by omega, by omega, by omega, by omega, by omega, by omega, by omega⟩
  have F18 := fr_st F14 s15 (by rw [(ow_18 iv13)]; rfl)
  refine w_al (fun _ => rfl) (w_al (fun _ => rfl) (w_getf s15.2.2.1 rfl (fun _ => rfl) (w_icI (x := 0) rfl ?_)))
  obtain ⟨_, m19, A19, rfl, e19⟩ := iv_20 iv17
  refine w_aldI m19 (by omega) (by omega) (by omega) ?_
  obtain ⟨b20, b21⟩ := ag_rg A19 0
  have e22 := e19 0 (by omega) (by omega)
  refine w_putf [.inr (.inl (some 19)), .inl (w_i siz1), .inr (.inl (some 20)), .inr (.inl (some 21)), .inl (w_i 0), .inl (w_i (a_g A19 0)), .inl (w_i (-1)), .inr (.inl (some 22)), .inl (w_i 0)] s15.2.2.1 rfl rfl rfl (fun _ => rfl) (fun h24 s23 => ?_)
  have iv25 := is_18 iv17 s23 ⟨_, _, _, _, _, rfl, by omega, by omega, by omega, by omega, by omega, by omega, by omega, by omega, by omega, by omega, by omega, by omega, by omega, by omega, by omega, by omega, by omega⟩
  have F26 := fr_st F18 s23 (by rw [(ow_18 iv17)]; rfl)
  have wr27 : w_wr g o h24 0 := ⟨siz1, 0, (a_g A19 0), (-1), 0, s23.2.2.1, by omega, by omega, by omega, by omega, by omega, by omega, by omega, by omega, by omega, by omega, by omega⟩
  refine w_al (fun _ => rfl) (w_icI (x := 15) rfl (w_this (fun _ => rfl) s23.2.2.1 ?_))
  refine w_cv (fun _ => rfl) rfl (c_readClause (d := d) iv25 (key := 15) (by omega) (by omega)  wr27 (fun h28 iv29 F30 b31 => ⟨rfl, ?_⟩))
  have F32 := fr_ca F26 F30 (fun t ht => by simp at ht ⊢; omega)
  obtain ⟨sizz33, atpz33, tokz33, fltz33, wriz33, pz33, qz33_0, qz33_1, qz33_2, qz33_3, qz33_4, qz33_5, qz33_6, qz33_7, qz33_8, qz33_9, qz33_10⟩ := (id b31)
  refine w_al (fun _ => rfl) (w_getf pz33 rfl (fun _ => rfl) (w_is (fun _ => rfl) ?_))
  have wr34 : w_wr g o h28 wriz33 := ⟨sizz33, atpz33, tokz33, fltz33, wriz33, pz33, by omega, by omega, by omega, by omega, by omega, by omega, by omega, by omega, by omega, by omega, by omega⟩
  refine w_al (fun _ => rfl) (w_icI (x := 16) rfl (w_this (fun _ => rfl) pz33 ?_))
  refine w_cv (fun _ => rfl) rfl (c_readClause (d := d) iv29 (key := 16) (by omega) (by omega)  wr34 (fun h35 iv36 F37 b38 => ⟨rfl, ?_⟩))
  have F39 := fr_ca F32 F37 (fun t ht => by simp at ht ⊢; omega)
  obtain ⟨sizz40, atpz40, tokz40, fltz40, wriz40, pz40, qz40_0, qz40_1, qz40_2, qz40_3, qz40_4, qz40_5, qz40_6, qz40_7, qz40_8, qz40_9, qz40_10⟩ := (id b38)
  refine w_al (fun _ => rfl) (w_getf pz40 rfl (fun _ => rfl) (w_is (fun _ => rfl) ?_))
  have wr41 : w_wr g o h35 wriz40 := ⟨sizz40, atpz40, tokz40, fltz40, wriz40, pz40, by omega, by omega, by omega, by omega, by omega, by omega, by omega, by omega, by omega, by omega, by omega⟩
  refine w_al (fun _ => rfl) (w_icI (x := 17) rfl (w_this (fun _ => rfl) pz40 ?_))
  refine w_cv (fun _ => rfl) rfl (c_readClause (d := d) iv36 (key := 17) (by omega) (by omega)  wr41 (fun h42 iv43 F44 b45 => ⟨rfl, ?_⟩))
  have F46 := fr_ca F39 F44 (fun t ht => by simp at ht ⊢; omega)
  obtain ⟨sizz47, atpz47, tokz47, fltz47, wriz47, pz47, qz47_0, qz47_1, qz47_2, qz47_3, qz47_4, qz47_5, qz47_6, qz47_7, qz47_8, qz47_9, qz47_10⟩ := (id b45)
  refine w_al (fun _ => rfl) (w_getf pz47 rfl (fun _ => rfl) (w_icI (x := 21) rfl ?_))
  refine w_eq2 (by omega) (by omega) (by omega) (by omega)  (fun c48 => ?_) (fun c48 => ?_)
  · refine w_run k_61510 ?_
    refine w_al (fun _ => rfl) (w_this (fun _ => rfl) pz47 ?_)
    refine w_cv (fun _ => rfl) rfl (c_empty (d := (d + 88)) iv43    b45 (fun h49 iv50 F51 b52 => ⟨rfl, ?_⟩))
    have F53 := fr_ca F46 F51 (fun t ht => by simp at ht ⊢; omega)
    obtain ⟨sizz54, atpz54, tokz54, fltz54, wriz54, pz54, qz54_0, qz54_1, qz54_2, qz54_3, qz54_4, qz54_5, qz54_6, qz54_7, qz54_8, qz54_9, qz54_10⟩ := (id b52)
    refine w_al (fun _ => rfl) (w_getf pz54 rfl (fun _ => rfl) (w_icI (x := (-1)) wn_1 ?_))
    refine w_eq2 (by omega) (by omega) (by omega) (by omega)  (fun c55 => ?_) (fun c55 => ?_)
    · refine w_run k_61524 (w_al (fun _ => rfl) (w_getf pz54 rfl (fun _ => rfl) ?_))
      obtain ⟨_, m56, A56, rfl, e56⟩ := iv_22 iv50
      have z57 := iv50.2.2.2.2.1
      have z57w := iv50.1
      refine w_newa z57w (wi_le (by omega) (by omega)) (fun h58 s59 => ?_)
      have z60 := s59.1
      have z60y := s59.2.1
      have z60w := s59.2.2.2.2
      refine w_as (fun _ => rfl) (w_al (fun _ => rfl) ?_)
      have m61 := nw_fr s59 pz54 (by omega)
      refine w_getf m61 rfl (fun _ => rfl) (w_icI (x := 0) rfl (w_al (fun _ => rfl) (w_icI (x := 0) rfl (w_al (fun _ => rfl) (w_getf m61 rfl (fun _ => rfl) ?_)))))
      have m62 := nw_fr s59 m56 (by omega)
      refine w_cpyI m62 s59.2.2.1 (by omega) (by omega) (by omega) (by omega) (by omega) (by omega) (by omega) rfl (fun A66 h64 w67 s63 => ?_)
      have z68 := s63.1
      have z68y := s63.2.1
      have z68w := s63.2.2.2.2 z60w
      refine w_new z68w (fun h69 s70 => ?_)
      have z71 := s70.1
      have z71y := s70.2.1
      have z71w := s70.2.2.2.2
      have z71a : h64.1 = (h49.1 + 1) := by omega
      rw [z71a]
      have z71m : m_at h69.2.2 (h49.1 + 1) = some (.inr (.inr (9, [.inr (.inl none), .inl 0, .inl 0, .inr (.inl none)]))) := by rw [← z71a]; exact s70.2.2.1
      refine w_dup (fun _ => rfl) (w_al (fun _ => rfl) (w_il (fun _ => rfl) (w_il (fun _ => rfl) (w_rcv (fun _ => rfl) (w_cv (fun _ => rfl) rfl (w_run k_286720 (w_al (fun _ => rfl) (w_oi rfl (w_al (fun _ => rfl) (w_icI (x := 31) rfl (w_newa z71w (wi_le (by omega) (by omega)) (fun h72 s73 => ?_))))))))))))
      have z74 := s73.1
      have z74y := s73.2.1
      have z74w := s73.2.2.2.2
      have z74a : h69.1 = (h49.1 + 2) := by omega
      rw [z74a]
      have z74m : m_at h72.2.2 (h49.1 + 2) = some (.inl (false, (w_i 31), 0)) := by rw [← z74a]; exact s73.2.2.1
      have m75 := nw_fr s73 z71m (by omega)
      refine w_putf [.inr (.inl none), .inl (w_i 0), .inl (w_i 0), .inr (.inl (some (h49.1 + 2)))] m75 rfl rfl rfl (fun _ => rfl) (fun h77 s76 => ?_)
      have z79 := s76.1
      have z79y := s76.2.1
      have z79w := s76.2.2.2.2 z74w
      refine w_al (fun _ => rfl) (w_al (fun _ => rfl) (w_putf [.inr (.inl (some h49.1)), .inl (w_i 0), .inl (w_i 0), .inr (.inl (some (h49.1 + 2)))] s76.2.2.1 rfl rfl rfl (fun _ => rfl) (fun h81 s80 => ?_)))
      have z83 := s80.1
      have z83y := s80.2.1
      have z83w := s80.2.2.2.2 z79w
      refine w_al (fun _ => rfl) (w_il (fun _ => rfl) (w_putf [.inr (.inl (some h49.1)), .inl (w_i wriz33), .inl (w_i 0), .inr (.inl (some (h49.1 + 2)))] s80.2.2.1 rfl rfl rfl (fun _ => rfl) (fun h85 s84 => ?_)))
      have z87 := s84.1
      have z87y := s84.2.1
      have z87w := s84.2.2.2.2 z83w
      refine w_al (fun _ => rfl) (w_il (fun _ => rfl) (w_putf [.inr (.inl (some h49.1)), .inl (w_i wriz33), .inl (w_i wriz40), .inr (.inl (some (h49.1 + 2)))] s84.2.2.1 rfl rfl rfl (fun _ => rfl) (fun h89 s88 => ?_)))
      have z91 := s88.1
      have z91y := s88.2.1
      have z91w := s88.2.2.2.2 z87w
      refine w_rv ⟨rfl, ?_⟩
      refine w_ra ?_
      have F1 := F53.1
      have F2 := F53.2.1
      have m92 := nw_fr s70 s63.2.2.1 (by omega)
      have m93 := nw_fr s73 m92 (by omega)
      have m94 := st_fr s76 m93 (by omega)
      have m95 := st_fr s80 m94 (by omega)
      have m96 := st_fr s84 m95 (by omega)
      have m97 := st_fr s88 m96 (by omega)
      have m98 := st_fr s76 z74m (by omega)
      have m99 := st_fr s80 m98 (by omega)
      have m100 := st_fr s84 m99 (by omega)
      have m101 := st_fr s88 m100 (by omega)
      have ivn := rd_fin (me := wriz33) (fe := wriz40) (n := (w_i wriz54)) iv50 (by omega) (by omega) (by omega) (by omega) z91w (by omega) (fun q hq  => (s88.2.2.2.1 q (by omega)).trans ((s84.2.2.2.1 q (by omega)).trans ((s80.2.2.2.1 q (by omega)).trans ((s76.2.2.2.1 q (by omega)).trans ((s73.2.2.2.1 q (by omega)).trans ((s70.2.2.2.1 q (by omega)).trans ((s63.2.2.2.1 q (by omega)).trans ((s59.2.2.2.1 q (by omega)).trans (rfl))))))))) m97 (fun j j0 j1 => by rw [w67 j j0 j1]; split; · exact e56 _ (by omega) (by omega); · rw [ag_0]; exact Int.le_refl _) s88.2.2.1 m101
      exact k0 (h49.1 + 1) (o_tx o h49.1 (w_i wriz54)) h89 ivn (fun q hq => by have : ¬ h49.1 ≤ q := (fun z => hq (iv50.2.2.2.1 q z)); unfold o_tx; rw [if_neg (by omega), if_neg (by omega), if_neg (by omega)]) (by show (o_tx o h49.1 (w_i wriz54) (h49.1 + 1)).1 = 110; unfold o_tx; rw [if_neg (by omega), if_pos rfl]) (by omega) (by omega)
    · refine w_nul (w_ra ?_)
      exact k1 h49 iv50 F53
  · refine w_al (fun _ => rfl) (w_this (fun _ => rfl) pz47 ?_)
    refine w_cv (fun _ => rfl) rfl (c_fail (d := (d + 88)) iv43    b45 (fun h102 iv103 F104 b105 => ⟨rfl, ?_⟩))
    have F106 := fr_ca F46 F104 (fun t ht => by simp at ht ⊢; omega)
    refine w_al (fun _ => rfl) ?_
    obtain ⟨_, m107, siz107, atp107, tok107, flt107, wri107, rfl, l107_siz, u107_siz, l107_atp, u107_atp, l107_tok, u107_tok, l107_flt, u107_flt, l107_wri, u107_wri, f107_0, f107_1, f107_2, f107_3, f107_4, f107_5, f107_6⟩ := iv_18 iv103
    refine w_this (fun _ => rfl) m107 ?_
    refine w_cv (fun _ => rfl) rfl (c_empty (d := (d + 88)) iv103    b105 (fun h108 iv109 F110 b111 => ⟨rfl, ?_⟩))
    have F112 := fr_ca F106 F110 (fun t ht => by simp at ht ⊢; omega)
    obtain ⟨sizz113, atpz113, tokz113, fltz113, wriz113, pz113, qz113_0, qz113_1, qz113_2, qz113_3, qz113_4, qz113_5, qz113_6, qz113_7, qz113_8, qz113_9, qz113_10⟩ := (id b111)
    refine w_al (fun _ => rfl) (w_getf pz113 rfl (fun _ => rfl) (w_icI (x := (-1)) wn_1 ?_))
    refine w_eq2 (by omega) (by omega) (by omega) (by omega)  (fun c114 => ?_) (fun c114 => ?_)
    · refine w_run k_61524 (w_al (fun _ => rfl) (w_getf pz113 rfl (fun _ => rfl) ?_))
      obtain ⟨_, m115, A115, rfl, e115⟩ := iv_22 iv109
      have z116 := iv109.2.2.2.2.1
      have z116w := iv109.1
      refine w_newa z116w (wi_le (by omega) (by omega)) (fun h117 s118 => ?_)
      have z119 := s118.1
      have z119y := s118.2.1
      have z119w := s118.2.2.2.2
      refine w_as (fun _ => rfl) (w_al (fun _ => rfl) ?_)
      have m120 := nw_fr s118 pz113 (by omega)
      refine w_getf m120 rfl (fun _ => rfl) (w_icI (x := 0) rfl (w_al (fun _ => rfl) (w_icI (x := 0) rfl (w_al (fun _ => rfl) (w_getf m120 rfl (fun _ => rfl) ?_)))))
      have m121 := nw_fr s118 m115 (by omega)
      refine w_cpyI m121 s118.2.2.1 (by omega) (by omega) (by omega) (by omega) (by omega) (by omega) (by omega) rfl (fun A125 h123 w126 s122 => ?_)
      have z127 := s122.1
      have z127y := s122.2.1
      have z127w := s122.2.2.2.2 z119w
      refine w_new z127w (fun h128 s129 => ?_)
      have z130 := s129.1
      have z130y := s129.2.1
      have z130w := s129.2.2.2.2
      have z130a : h123.1 = (h108.1 + 1) := by omega
      rw [z130a]
      have z130m : m_at h128.2.2 (h108.1 + 1) = some (.inr (.inr (9, [.inr (.inl none), .inl 0, .inl 0, .inr (.inl none)]))) := by rw [← z130a]; exact s129.2.2.1
      refine w_dup (fun _ => rfl) (w_al (fun _ => rfl) (w_il (fun _ => rfl) (w_il (fun _ => rfl) (w_rcv (fun _ => rfl) (w_cv (fun _ => rfl) rfl (w_run k_286720 (w_al (fun _ => rfl) (w_oi rfl (w_al (fun _ => rfl) (w_icI (x := 31) rfl (w_newa z130w (wi_le (by omega) (by omega)) (fun h131 s132 => ?_))))))))))))
      have z133 := s132.1
      have z133y := s132.2.1
      have z133w := s132.2.2.2.2
      have z133a : h128.1 = (h108.1 + 2) := by omega
      rw [z133a]
      have z133m : m_at h131.2.2 (h108.1 + 2) = some (.inl (false, (w_i 31), 0)) := by rw [← z133a]; exact s132.2.2.1
      have m134 := nw_fr s132 z130m (by omega)
      refine w_putf [.inr (.inl none), .inl (w_i 0), .inl (w_i 0), .inr (.inl (some (h108.1 + 2)))] m134 rfl rfl rfl (fun _ => rfl) (fun h136 s135 => ?_)
      have z138 := s135.1
      have z138y := s135.2.1
      have z138w := s135.2.2.2.2 z133w
      refine w_al (fun _ => rfl) (w_al (fun _ => rfl) (w_putf [.inr (.inl (some h108.1)), .inl (w_i 0), .inl (w_i 0), .inr (.inl (some (h108.1 + 2)))] s135.2.2.1 rfl rfl rfl (fun _ => rfl) (fun h140 s139 => ?_)))
      have z142 := s139.1
      have z142y := s139.2.1
      have z142w := s139.2.2.2.2 z138w
      refine w_al (fun _ => rfl) (w_il (fun _ => rfl) (w_putf [.inr (.inl (some h108.1)), .inl (w_i wriz33), .inl (w_i 0), .inr (.inl (some (h108.1 + 2)))] s139.2.2.1 rfl rfl rfl (fun _ => rfl) (fun h144 s143 => ?_)))
      have z146 := s143.1
      have z146y := s143.2.1
      have z146w := s143.2.2.2.2 z142w
      refine w_al (fun _ => rfl) (w_il (fun _ => rfl) (w_putf [.inr (.inl (some h108.1)), .inl (w_i wriz33), .inl (w_i wriz40), .inr (.inl (some (h108.1 + 2)))] s143.2.2.1 rfl rfl rfl (fun _ => rfl) (fun h148 s147 => ?_)))
      have z150 := s147.1
      have z150y := s147.2.1
      have z150w := s147.2.2.2.2 z146w
      refine w_rv ⟨rfl, ?_⟩
      refine w_ra ?_
      have F1 := F112.1
      have F2 := F112.2.1
      have m151 := nw_fr s129 s122.2.2.1 (by omega)
      have m152 := nw_fr s132 m151 (by omega)
      have m153 := st_fr s135 m152 (by omega)
      have m154 := st_fr s139 m153 (by omega)
      have m155 := st_fr s143 m154 (by omega)
      have m156 := st_fr s147 m155 (by omega)
      have m157 := st_fr s135 z133m (by omega)
      have m158 := st_fr s139 m157 (by omega)
      have m159 := st_fr s143 m158 (by omega)
      have m160 := st_fr s147 m159 (by omega)
      have ivn := rd_fin (me := wriz33) (fe := wriz40) (n := (w_i wriz113)) iv109 (by omega) (by omega) (by omega) (by omega) z150w (by omega) (fun q hq  => (s147.2.2.2.1 q (by omega)).trans ((s143.2.2.2.1 q (by omega)).trans ((s139.2.2.2.1 q (by omega)).trans ((s135.2.2.2.1 q (by omega)).trans ((s132.2.2.2.1 q (by omega)).trans ((s129.2.2.2.1 q (by omega)).trans ((s122.2.2.2.1 q (by omega)).trans ((s118.2.2.2.1 q (by omega)).trans (rfl))))))))) m156 (fun j j0 j1 => by rw [w126 j j0 j1]; split; · exact e115 _ (by omega) (by omega); · rw [ag_0]; exact Int.le_refl _) s147.2.2.1 m160
      exact k0 (h108.1 + 1) (o_tx o h108.1 (w_i wriz113)) h148 ivn (fun q hq => by have : ¬ h108.1 ≤ q := (fun z => hq (iv109.2.2.2.1 q z)); unfold o_tx; rw [if_neg (by omega), if_neg (by omega), if_neg (by omega)]) (by show (o_tx o h108.1 (w_i wriz113) (h108.1 + 1)).1 = 110; unfold o_tx; rw [if_neg (by omega), if_pos rfl]) (by omega) (by omega)
    · refine w_nul (w_ra ?_)
      exact k1 h108 iv109 F112
theorem k_393216 : m_cg 393216 = g_96_0 := rfl
theorem k_393228 : m_cg 393228 = g_96_12 := rfl
theorem k_393251 : m_cg 393251 = g_96_35 := rfl
theorem c_text {g : w_G} {o : w_O} {h : m_H} {d : Nat} {Q : Option m_V → m_H → Prop} (iv : w_Inv g o h) (k0 : ∀ (x : Int) (g2 : w_G) (o2 : w_O) (h2 : m_H), w_Inv g2 o2 h2 → w_ch [4] [] g g2 → w_oe o o2 → h2.1 ≤ h.1 + 3 → h2.2.1 ≤ h.2.1 + 200 → Q (some (.inl (w_i x))) h2) (k1 : ∀ (x : Int), ∀ h2 : m_H, w_Inv g o h2 → w_fr o [18, 20, 21, 22] h h2 → -2147483648 ≤ x → x ≤ 2147483647 → Q (some (.inl (w_i x))) h2) : wp (d + 90) 393216 [.inr (.inl (some 0)), .inr (.inr (.inl 0))] [] h Q := by
  have F := fr_rf (o := o) (h := h) (W := [18, 20, 21, 22])
  have W := iv_wc iv
  refine w_run k_393216 (w_al (fun _ => rfl) ?_)
  obtain ⟨_, m1, rfl⟩ := iv_0 iv
  refine w_getf m1 rfl (fun _ => rfl) (w_icI (x := 6) rfl ?_)
  refine w_lt2 (by omega) (by omega) (by omega) (by omega)  (fun c2 => ?_) (fun c2 => ?_)
  · refine w_run k_393228 (w_al (fun _ => rfl) (w_getf m1 rfl (fun _ => rfl) ?_))
    obtain ⟨_, m3, siz3, atp3, tok3, flt3, wri3, rfl, l3_siz, u3_siz, l3_atp, u3_atp, l3_tok, u3_tok, l3_flt, u3_flt, l3_wri, u3_wri, f3_0, f3_1, f3_2, f3_3, f3_4, f3_5, f3_6⟩ := iv_18 iv
    refine w_this (fun _ => rfl) m3 ?_
    refine w_ca (fun _ => rfl) rfl (c_read (d := d) iv     (fun p o h7 iv8 oeq t110 E1 E2 => ⟨_, rfl, ?_⟩) (fun h9 iv10 F11 => ⟨_, rfl, ?_⟩))
    · have Fq := fr_rf (o := o) (h := h7) (W := [18, 20, 21, 22])
      refine w_as (fun _ => rfl) (w_al (fun _ => rfl) (w_ifnn1 (w_run k_393251 ?_)))
      obtain ⟨_, mtx, xme, xfe, xco, xst, rfl, -⟩ := iv_110 iv8 t110
      obtain ⟨_, m12, rfl⟩ := iv_0 iv8
      obtain ⟨_, m13, l13, rfl, ll13, lp13, ln13⟩ := iv_23 iv8
      have z14 := iv8.2.2.2.2.1
      have z14w := iv8.1
      refine w_al (fun _ => rfl) (w_getf m12 rfl (fun _ => rfl) (w_al (fun _ => rfl) (w_getf m12 rfl (fun _ => rfl) (w_al (fun _ => rfl) (w_aastI m13 (by omega) (by omega) (by decide) (isC_of mtx rfl) (fun h16 s15 => ?_))))))
      have z17 := s15.1
      have z17y := s15.2.1
      have z17w := s15.2.2.2.2 z14w
      refine w_al (fun _ => rfl) (w_dup (fun _ => rfl) ?_)
      have m18 := st_fr s15 m12 (by decide)
      refine w_getf m18 rfl (fun _ => rfl) (w_icI (x := 1) rfl (w_op (c := w_i (g_nt g + 1)) (i_add (g_nt g) 1) (w_putf [.inr (.inl (some 1)), .inr (.inl (some 5)), .inl (w_i (g_hi g)), .inr (.inl (some 9)), .inr (.inl (some 17)), .inl (w_i (g_np g)), .inr (.inl (some 18)), .inr (.inl (some 23)), .inl (w_i (g_nt g + 1)), .inr (.inl (some 24)), .inr (.inl (some 25)), .inr (.inl (some 26)), .inr (.inl (some 27))] m18 rfl rfl rfl (fun _ => rfl) (fun h20 s19 => ?_))))
      have z22 := s19.1
      have z22y := s19.2.1
      have z22w := s19.2.2.2.2 z17w
      refine w_al (fun _ => rfl) (w_getf s19.2.2.1 rfl (fun _ => rfl) (w_icI (x := 1) rfl (w_op (c := w_i ((g_nt g + 1) - 1)) (i_sub (g_nt g + 1) 1) (w_ri ?_))))
      have m23 := st_fr s19 s15.2.2.1 (by decide)
      have ivn := tx_fin (e := _) iv8 (by omega) t110 z22w (by omega) (fun q n0 n23 => (s19.2.2.2.1 q n0).trans ((s15.2.2.2.1 q n23).trans (rfl))) s19.2.2.1 rfl m23 ll13 lp13 ln13
      exact k0 _ (g_tx g) o h20 ivn ch_gtx oeq (by omega) (by omega)
    · have F24 := fr_ca F F11 (fun t ht => by exact ht)
      refine w_as (fun _ => rfl) (w_al (fun _ => rfl) (w_ifnn0 (w_icI (x := (-100)) wn_100 (w_al (fun _ => rfl) ?_))))
      have m25 := fr_at F11 m1 iv (ow_0 iv) rfl rfl
      refine w_getf m25 rfl (fun _ => rfl) ?_
      obtain ⟨_, m26, siz26, atp26, tok26, flt26, wri26, rfl, l26_siz, u26_siz, l26_atp, u26_atp, l26_tok, u26_tok, l26_flt, u26_flt, l26_wri, u26_wri, f26_0, f26_1, f26_2, f26_3, f26_4, f26_5, f26_6⟩ := iv_18 iv10
      refine w_getf m26 rfl (fun _ => rfl) (w_opR sub_lt (fun x27 x270 x271 x27e => ?_))
      refine w_ri ?_
      exact k1 x27 h9 iv10 F24 (by omega) (by omega)
  · refine w_icI (x := (-4)) wn_4 (w_ri ?_)
    exact k1 (-4) h iv F (by omega) (by omega)
theorem k_385024 : m_cg 385024 = g_94_0 := rfl
theorem k_385047 : m_cg 385047 = g_94_23 := rfl
theorem k_385050 : m_cg 385050 = g_94_26 := rfl
theorem k_385117 : m_cg 385117 = g_94_93 := rfl
theorem k_385142 : m_cg 385142 = g_94_118 := rfl
theorem k_385141 : m_cg 385141 = g_94_117 := rfl
theorem k_385140 : m_cg 385140 = g_94_116 := rfl
theorem k_385114 : m_cg 385114 = g_94_90 := rfl
theorem c_asks {g : w_G} {o : w_O} {h : m_H} {d : Nat} {Q : Option m_V → m_H → Prop} (iv : w_Inv g o h) {pa_ : Int} {st : Int} {wh : Int} (pa__lo : -2147483648 ≤ pa_) (pa__hi : pa_ ≤ 2147483647) (st_lo : -2147483648 ≤ st) (st_hi : st ≤ 2147483647) (wh_lo : -2147483648 ≤ wh) (wh_hi : wh ≤ 2147483647) (k0 : ∀ (x : Int), -2147483648 ≤ x → x ≤ 2147483647 → Q (some (.inl (w_i x))) h) : wp (d + 4) 385024 [.inr (.inl (some 0)), .inl (w_i pa_), .inl (w_i st), .inl (w_i wh), .inr (.inr (.inl 0)), .inr (.inr (.inl 0)), .inr (.inr (.inl 0)), .inr (.inr (.inl 0))] [] h Q := by
  have W := iv_wc iv
  refine w_run k_385024 (w_al (fun _ => rfl) (w_il (fun _ => rfl) ?_))
  obtain ⟨_, m1, rfl⟩ := iv_0 iv
  refine w_this (fun _ => rfl) m1 ?_
  refine w_ca (fun _ => rfl) rfl (c_painterOf (d := (d + 2)) iv (n := pa_) (by omega) (by omega)   (fun b2 => ⟨_, rfl, ?_⟩) (fun p3 b4 b5 b6 => ⟨_, rfl, ?_⟩))
  · refine w_as (fun _ => rfl) (w_al (fun _ => rfl) (w_ifn0 (w_run k_385047 (w_icI (x := (-2)) wn_2 (w_ri ?_)))))
    exact k0 (-2) (by omega) (by omega)
  · refine w_as (fun _ => rfl) (w_al (fun _ => rfl) (w_ifn1 (w_il (fun _ => rfl) ?_)))
    refine w_ltz2 (by omega) (by omega)  (fun c7 => ?_) (fun c7 => ?_)
    · refine w_run k_385047 (w_icI (x := (-2)) wn_2 (w_ri ?_))
      exact k0 (-2) (by omega) (by omega)
    · refine w_il (fun _ => rfl) ?_
      refine w_ca (fun _ => rfl) rfl (c_isFlag (d := (d + 3)) iv (n := wh) (by omega) (by omega)   (fun b8 b9 => ⟨_, rfl, ?_⟩) (fun b10 => ⟨_, rfl, ?_⟩))
      · refine w_nezt (by omega) (by omega) (by omega)  (w_run k_385050 (w_il (fun _ => rfl) (w_icI (x := 100) rfl (w_opz (c := w_i (st / 100)) (beq0 (by omega) (by omega) (by omega)) (i_div (by omega) (by omega) (by omega) (by omega)) ?_))))
        have b11 : 0 ≤ (st / 100) ∧ (st / 100) ≤ st := ⟨Int.ediv_nonneg (by omega) (by omega), Int.ediv_le_self _ (by omega)⟩
        refine w_is (fun _ => rfl) (w_il (fun _ => rfl) (w_icI (x := 10) rfl (w_opz (c := w_i (st / 10)) (beq0 (by omega) (by omega) (by omega)) (i_div (by omega) (by omega) (by omega) (by omega)) ?_)))
        have b12 : 0 ≤ (st / 10) ∧ (st / 10) ≤ st := ⟨Int.ediv_nonneg (by omega) (by omega), Int.ediv_le_self _ (by omega)⟩
        refine w_icI (x := 10) rfl (w_opz (c := w_i ((st / 10) % 10)) (beq0 (by omega) (by omega) (by omega)) (i_rem (by omega) (by omega) (by omega) (by omega)) ?_)
        have b13 : 0 ≤ ((st / 10) % 10) ∧ ((st / 10) % 10) < 10 := ⟨Int.emod_nonneg _ (by omega), Int.emod_lt_of_pos _ (by omega)⟩
        refine w_is (fun _ => rfl) (w_il (fun _ => rfl) (w_icI (x := 10) rfl (w_opz (c := w_i (st % 10)) (beq0 (by omega) (by omega) (by omega)) (i_rem (by omega) (by omega) (by omega) (by omega)) ?_)))
        have b14 : 0 ≤ (st % 10) ∧ (st % 10) < 10 := ⟨Int.emod_nonneg _ (by omega), Int.emod_lt_of_pos _ (by omega)⟩
        refine w_is (fun _ => rfl) (w_al (fun _ => rfl) (w_getf m1 rfl (fun _ => rfl) (w_il (fun _ => rfl) ?_)))
        obtain ⟨_, m15, kp15, sp15, rl15, rfl, l15_kp, u15_kp, l15_sp, u15_sp, l15_rl, u15_rl, f15_0, f15_1⟩ := iv_1 iv
        refine w_this (fun _ => rfl) m15 ?_
        refine w_ca (fun _ => rfl) rfl (c_isHouse (d := (d + 3)) iv (n := (st / 100)) (by omega) (by omega)   (fun b16 b17 => ⟨_, rfl, ?_⟩) (fun b18 => ⟨_, rfl, ?_⟩))
        · refine w_eqzf (by omega) (by omega) (by omega)  (w_al (fun _ => rfl) (w_getf m1 rfl (fun _ => rfl) (w_il (fun _ => rfl) (w_this (fun _ => rfl) m15 ?_))))
          refine w_ca (fun _ => rfl) rfl (c_isColour (d := (d + 3)) iv (n := ((st / 10) % 10)) (by omega) (by omega)   (fun b19 b20 => ⟨_, rfl, ?_⟩) (fun b21 => ⟨_, rfl, ?_⟩))
          · refine w_eqzf (by omega) (by omega) (by omega)  (w_al (fun _ => rfl) (w_getf m1 rfl (fun _ => rfl) (w_il (fun _ => rfl) (w_this (fun _ => rfl) m15 ?_))))
            refine w_ca (fun _ => rfl) rfl (c_isColour (d := (d + 3)) iv (n := (st % 10)) (by omega) (by omega)   (fun b22 b23 => ⟨_, rfl, ?_⟩) (fun b24 => ⟨_, rfl, ?_⟩))
            · refine w_eqzf (by omega) (by omega) (by omega)  (w_il (fun _ => rfl) (w_il (fun _ => rfl) ?_))
              refine w_ne2 (by omega) (by omega) (by omega) (by omega)  (fun c25 => ?_) (fun c25 => ?_)
              · refine w_run k_385117 (w_il (fun _ => rfl) (w_icI (x := 1) rfl ?_))
                refine w_ne2 (by omega) (by omega) (by omega) (by omega)  (fun c26 => ?_) (fun c26 => ?_)
                · refine w_run k_385142 (w_icI (x := 0) rfl (w_al (fun _ => rfl) (w_il (fun _ => rfl) (w_il (fun _ => rfl) (w_il (fun _ => rfl) ?_)))))
                  obtain ⟨_, mk27, ck27, rfl, lk27, uk27, nk27, hk27⟩ := iv_120 iv (congrArg Prod.fst b6)
                  rcases hk27 with ⟨kk27, rfl⟩ | ⟨kk27, rfl⟩ | ⟨kk27, rfl⟩ | ⟨kk27, rfl⟩ | ⟨kk27, rfl⟩ | ⟨kk27, rfl⟩
                  · refine w_vc (3, 40960, []) (fun _ => rfl) mk27 (fun _ => rfl) (w_ca (fun _ => rfl) rfl (w_run k_40960 (w_al (fun _ => rfl) (w_getf mk27 rfl (fun _ => rfl) (w_ri ⟨_, rfl, ?_⟩)))))
                    refine w_max (by omega) (by omega) (by omega) (by omega) rfl (fun x28 b29 => ?_)
                    refine w_ri ?_
                    exact k0 x28 (by omega) (by omega)
                  · refine w_vc (8, 282624, []) (fun _ => rfl) mk27 (fun _ => rfl) (w_ca (fun _ => rfl) rfl (w_run k_282624 (w_al (fun _ => rfl) (w_getf mk27 rfl (fun _ => rfl) (w_il (fun _ => rfl) (w_icI (x := 1) rfl (w_op (c := w_i ((st / 100) + 1)) (i_add (st / 100) 1) (w_opR mul_lt (fun x30 x300 x301 x30e => ?_)))))))))
                    refine w_ri ⟨_, rfl, ?_⟩
                    refine w_max (by omega) (by omega) (by omega) (by omega) rfl (fun x31 b32 => ?_)
                    refine w_ri ?_
                    exact k0 x31 (by omega) (by omega)
                  · refine w_vc (7, 270336, []) (fun _ => rfl) mk27 (fun _ => rfl) (w_ca (fun _ => rfl) rfl (w_run k_270336 (w_al (fun _ => rfl) (w_getf mk27 rfl (fun _ => rfl) (w_icI (x := 3) rfl (w_op (c := w_i ((1 + (g_PN g ((o p3).2 : Int))) + 3)) (i_add (1 + (g_PN g ((o p3).2 : Int))) 3) (w_ri ⟨_, rfl, ?_⟩)))))))
                    refine w_max (by omega) (by omega) (by omega) (by omega) rfl (fun x33 b34 => ?_)
                    refine w_ri ?_
                    exact k0 x33 (by omega) (by omega)
                  · refine w_vc (1, 20480, []) (fun _ => rfl) mk27 (fun _ => rfl) (w_ca (fun _ => rfl) rfl (w_run k_20480 (w_al (fun _ => rfl) (w_il (fun _ => rfl) (w_il (fun _ => rfl) (w_il (fun _ => rfl) (w_this (fun _ => rfl) mk27 (w_ca (fun _ => rfl) rfl (w_run k_282624 (w_al (fun _ => rfl) (w_getf mk27 rfl (fun _ => rfl) (w_il (fun _ => rfl) (w_icI (x := 1) rfl (w_op (c := w_i ((st / 100) + 1)) (i_add (st / 100) 1) (w_opR mul_lt (fun x35 x350 x351 x35e => ?_))))))))))))))))
                    refine w_ri ⟨_, rfl, ?_⟩
                    refine w_il (fun _ => rfl) (w_al (fun _ => rfl) (w_getf mk27 rfl (fun _ => rfl) (w_opR mul_lt (fun x36 x360 x361 x36e => ?_))))
                    refine w_opR sub_lt (fun x37 x370 x371 x37e => ?_)
                    refine w_ri ⟨_, rfl, ?_⟩
                    refine w_max (by omega) (by omega) (by omega) (by omega) rfl (fun x38 b39 => ?_)
                    refine w_ri ?_
                    exact k0 x38 (by omega) (by omega)
                  · refine w_vc (2, 32768, []) (fun _ => rfl) mk27 (fun _ => rfl) (w_ca (fun _ => rfl) rfl (w_run k_32768 (w_al (fun _ => rfl) (w_il (fun _ => rfl) (w_il (fun _ => rfl) (w_il (fun _ => rfl) (w_this (fun _ => rfl) mk27 (w_ca (fun _ => rfl) rfl (w_run k_270336 (w_al (fun _ => rfl) (w_getf mk27 rfl (fun _ => rfl) (w_icI (x := 3) rfl (w_op (c := w_i ((1 + (g_PN g ((o p3).2 : Int))) + 3)) (i_add (1 + (g_PN g ((o p3).2 : Int))) 3) (w_ri ⟨_, rfl, ?_⟩))))))))))))))
                    refine w_icI (x := 2) rfl (w_opz (c := w_i (((1 + (g_PN g ((o p3).2 : Int))) + 3) / 2)) (beq0 (by omega) (by omega) (by omega)) (i_div (by omega) (by omega) (by omega) (by omega)) ?_)
                    have b40 : 0 ≤ (((1 + (g_PN g ((o p3).2 : Int))) + 3) / 2) ∧ (((1 + (g_PN g ((o p3).2 : Int))) + 3) / 2) ≤ ((1 + (g_PN g ((o p3).2 : Int))) + 3) := ⟨Int.ediv_nonneg (by omega) (by omega), Int.ediv_le_self _ (by omega)⟩
                    refine w_ri ⟨_, rfl, ?_⟩
                    refine w_max (by omega) (by omega) (by omega) (by omega) rfl (fun x41 b42 => ?_)
                    refine w_ri ?_
                    exact k0 x41 (by omega) (by omega)
                  · refine w_vc (0, 8192, []) (fun _ => rfl) mk27 (fun _ => rfl) (w_ca (fun _ => rfl) rfl (w_run k_8192 (w_al (fun _ => rfl) (w_il (fun _ => rfl) (w_il (fun _ => rfl) (w_il (fun _ => rfl) (w_this (fun _ => rfl) mk27 (w_ca (fun _ => rfl) rfl (w_run k_270336 (w_al (fun _ => rfl) (w_getf mk27 rfl (fun _ => rfl) (w_icI (x := 3) rfl (w_op (c := w_i ((1 + (g_PN g ((o p3).2 : Int))) + 3)) (i_add (1 + (g_PN g ((o p3).2 : Int))) 3) (w_ri ⟨_, rfl, ?_⟩))))))))))))))
                    refine w_il (fun _ => rfl) (w_op (c := w_i (((1 + (g_PN g ((o p3).2 : Int))) + 3) + ((st / 10) % 10))) (i_add ((1 + (g_PN g ((o p3).2 : Int))) + 3) ((st / 10) % 10)) (w_ri ⟨_, rfl, ?_⟩))
                    refine w_max (by omega) (by omega) (by omega) (by omega) rfl (fun x43 b44 => ?_)
                    refine w_ri ?_
                    exact k0 x43 (by omega) (by omega)
                · refine w_al (fun _ => rfl) (w_il (fun _ => rfl) (w_il (fun _ => rfl) (w_il (fun _ => rfl) ?_)))
                  obtain ⟨_, mk45, ck45, rfl, lk45, uk45, nk45, hk45⟩ := iv_120 iv (congrArg Prod.fst b6)
                  rcases hk45 with ⟨kk45, rfl⟩ | ⟨kk45, rfl⟩ | ⟨kk45, rfl⟩ | ⟨kk45, rfl⟩ | ⟨kk45, rfl⟩ | ⟨kk45, rfl⟩
                  · refine w_vc (3, 45056, []) (fun _ => rfl) mk45 (fun _ => rfl) (w_ca (fun _ => rfl) rfl (w_run k_45056 (w_icI (x := 1) rfl (w_rz (by decide) ⟨_, rfl, ?_⟩))))
                    refine w_eqzf (by omega) (by omega) (by omega)  (w_icI (x := 1) rfl (w_go (w_run k_385141 (w_ri ?_))))
                    exact k0 1 (by omega) (by omega)
                  · refine w_vc (8, 45056, []) (fun _ => rfl) mk45 (fun _ => rfl) (w_ca (fun _ => rfl) rfl (w_run k_45056 (w_icI (x := 1) rfl (w_rz (by decide) ⟨_, rfl, ?_⟩))))
                    refine w_eqzf (by omega) (by omega) (by omega)  (w_icI (x := 1) rfl (w_go (w_run k_385141 (w_ri ?_))))
                    exact k0 1 (by omega) (by omega)
                  · refine w_vc (7, 274432, []) (fun _ => rfl) mk45 (fun _ => rfl) (w_ca (fun _ => rfl) rfl (w_run k_274432 (w_il (fun _ => rfl) (w_al (fun _ => rfl) (w_getf mk45 rfl (fun _ => rfl) (w_icI (x := 6) rfl (w_opzR (beq0 (by omega) (by omega) (by omega)) rem_lt (fun x46 x460 x461 x46e => ?_))))))))
                    refine w_eq2 (by omega) (by omega) (by omega) (by omega)  (fun c47 => ?_) (fun c47 => ?_)
                    · refine w_run k_274447 (w_icI (x := 0) rfl (w_rz (by decide) ⟨_, rfl, ?_⟩))
                      refine w_eqzt (by omega) (by omega) (by omega)  (w_run k_385140 (w_icI (x := 0) rfl (w_ri ?_)))
                      exact k0 0 (by omega) (by omega)
                    · refine w_icI (x := 1) rfl (w_go (w_run k_274448 (w_rz (by decide) ⟨_, rfl, ?_⟩)))
                      refine w_eqzf (by omega) (by omega) (by omega)  (w_icI (x := 1) rfl (w_go (w_run k_385141 (w_ri ?_))))
                      exact k0 1 (by omega) (by omega)
                  · refine w_vc (1, 24576, []) (fun _ => rfl) mk45 (fun _ => rfl) (w_ca (fun _ => rfl) rfl (w_run k_24576 (w_il (fun _ => rfl) (w_al (fun _ => rfl) (w_getf mk45 rfl (fun _ => rfl) (w_icI (x := 5) rfl (w_opzR (beq0 (by omega) (by omega) (by omega)) rem_lt (fun x48 x480 x481 x48e => ?_))))))))
                    refine w_eq2 (by omega) (by omega) (by omega) (by omega)  (fun c49 => ?_) (fun c49 => ?_)
                    · refine w_run k_24590 (w_icI (x := 0) rfl (w_rz (by decide) ⟨_, rfl, ?_⟩))
                      refine w_eqzt (by omega) (by omega) (by omega)  (w_run k_385140 (w_icI (x := 0) rfl (w_ri ?_)))
                      exact k0 0 (by omega) (by omega)
                    · refine w_icI (x := 1) rfl (w_go (w_run k_24591 (w_rz (by decide) ⟨_, rfl, ?_⟩)))
                      refine w_eqzf (by omega) (by omega) (by omega)  (w_icI (x := 1) rfl (w_go (w_run k_385141 (w_ri ?_))))
                      exact k0 1 (by omega) (by omega)
                  · refine w_vc (2, 274432, []) (fun _ => rfl) mk45 (fun _ => rfl) (w_ca (fun _ => rfl) rfl (w_run k_274432 (w_il (fun _ => rfl) (w_al (fun _ => rfl) (w_getf mk45 rfl (fun _ => rfl) (w_icI (x := 6) rfl (w_opzR (beq0 (by omega) (by omega) (by omega)) rem_lt (fun x50 x500 x501 x50e => ?_))))))))
                    refine w_eq2 (by omega) (by omega) (by omega) (by omega)  (fun c51 => ?_) (fun c51 => ?_)
                    · refine w_run k_274447 (w_icI (x := 0) rfl (w_rz (by decide) ⟨_, rfl, ?_⟩))
                      refine w_eqzt (by omega) (by omega) (by omega)  (w_run k_385140 (w_icI (x := 0) rfl (w_ri ?_)))
                      exact k0 0 (by omega) (by omega)
                    · refine w_icI (x := 1) rfl (w_go (w_run k_274448 (w_rz (by decide) ⟨_, rfl, ?_⟩)))
                      refine w_eqzf (by omega) (by omega) (by omega)  (w_icI (x := 1) rfl (w_go (w_run k_385141 (w_ri ?_))))
                      exact k0 1 (by omega) (by omega)
                  · refine w_vc (0, 12288, []) (fun _ => rfl) mk45 (fun _ => rfl) (w_ca (fun _ => rfl) rfl (w_run k_12288 (w_al (fun _ => rfl) (w_il (fun _ => rfl) (w_il (fun _ => rfl) (w_il (fun _ => rfl) (w_this (fun _ => rfl) mk45 (w_ca (fun _ => rfl) rfl (w_run k_274432 (w_il (fun _ => rfl) (w_al (fun _ => rfl) (w_getf mk45 rfl (fun _ => rfl) (w_icI (x := 6) rfl (w_opzR (beq0 (by omega) (by omega) (by omega)) rem_lt (fun x52 x520 x521 x52e => ?_)))))))))))))))
                    refine w_eq2 (by omega) (by omega) (by omega) (by omega)  (fun c53 => ?_) (fun c53 => ?_)
                    · refine w_run k_274447 (w_icI (x := 0) rfl (w_rz (by decide) ⟨_, rfl, ?_⟩))
                      refine w_eqzt (by omega) (by omega) (by omega)  (w_run k_12309 (w_icI (x := 0) rfl (w_rz (by decide) ⟨_, rfl, ?_⟩)))
                      refine w_eqzt (by omega) (by omega) (by omega)  (w_run k_385140 (w_icI (x := 0) rfl (w_ri ?_)))
                      exact k0 0 (by omega) (by omega)
                    · refine w_icI (x := 1) rfl (w_go (w_run k_274448 (w_rz (by decide) ⟨_, rfl, ?_⟩)))
                      refine w_eqzf (by omega) (by omega) (by omega)  (w_il (fun _ => rfl) (w_il (fun _ => rfl) (w_icI (x := 1) rfl (w_op (c := w_i (((st / 10) % 10) - 1)) (i_sub ((st / 10) % 10) 1) ?_))))
                      refine w_eq2 (by omega) (by omega) (by omega) (by omega)  (fun c54 => ?_) (fun c54 => ?_)
                      · refine w_run k_12309 (w_icI (x := 0) rfl (w_rz (by decide) ⟨_, rfl, ?_⟩))
                        refine w_eqzt (by omega) (by omega) (by omega)  (w_run k_385140 (w_icI (x := 0) rfl (w_ri ?_)))
                        exact k0 0 (by omega) (by omega)
                      · refine w_icI (x := 1) rfl (w_go (w_run k_12310 (w_rz (by decide) ⟨_, rfl, ?_⟩)))
                        refine w_eqzf (by omega) (by omega) (by omega)  (w_icI (x := 1) rfl (w_go (w_run k_385141 (w_ri ?_))))
                        exact k0 1 (by omega) (by omega)
              · refine w_icI (x := (-2)) wn_2 (w_ri ?_)
                exact k0 (-2) (by omega) (by omega)
            · refine w_eqzt (by omega) (by omega) (by omega)  (w_run k_385114 (w_icI (x := (-2)) wn_2 (w_ri ?_)))
              exact k0 (-2) (by omega) (by omega)
          · refine w_eqzt (by omega) (by omega) (by omega)  (w_run k_385114 (w_icI (x := (-2)) wn_2 (w_ri ?_)))
            exact k0 (-2) (by omega) (by omega)
        · refine w_eqzt (by omega) (by omega) (by omega)  (w_run k_385114 (w_icI (x := (-2)) wn_2 (w_ri ?_)))
          exact k0 (-2) (by omega) (by omega)
      · refine w_nezf (by omega) (by omega) (by omega)  (w_icI (x := (-2)) wn_2 (w_ri ?_))
        exact k0 (-2) (by omega) (by omega)
theorem k_491520 : m_cg 491520 = g_120_0 := rfl
theorem k_491531 : m_cg 491531 = g_120_11 := rfl
theorem k_491544 : m_cg 491544 = g_120_24 := rfl
theorem k_524288 : m_cg 524288 = g_128_0 := rfl
theorem k_524324 : m_cg 524324 = g_128_36 := rfl
theorem k_491559 : m_cg 491559 = g_120_39 := rfl
theorem k_491561 : m_cg 491561 = g_120_41 := rfl
theorem k_524329 : m_cg 524329 = g_128_41 := rfl
theorem k_524334 : m_cg 524334 = g_128_46 := rfl
theorem k_524339 : m_cg 524339 = g_128_51 := rfl
theorem k_524344 : m_cg 524344 = g_128_56 := rfl
theorem k_524349 : m_cg 524349 = g_128_61 := rfl
theorem c_taken {g : w_G} {o : w_O} {h : m_H} {d : Nat} {Q : Option m_V → m_H → Prop} (iv : w_Inv g o h) {pa_ : Int} {kd : Int} (pa__lo : -2147483648 ≤ pa_) (pa__hi : pa_ ≤ 2147483647) (kd_lo : -2147483648 ≤ kd) (kd_hi : kd ≤ 2147483647) (k0 : ∀ (x : Int), -2147483648 ≤ x → x ≤ 2147483647 → Q (some (.inl (w_i x))) h) : wp (d + 2) 491520 [.inr (.inl (some 0)), .inl (w_i pa_), .inl (w_i kd), .inr (.inr (.inl 0))] [] h Q := by
  have W := iv_wc iv
  refine w_run k_491520 (w_il (fun _ => rfl) (w_icI (x := 5) rfl ?_))
  refine w_ca (fun _ => rfl) rfl (c_isWithin (d := (d + 1)) iv (n := kd) (most := 5) (by omega) (by omega) (by omega) (by omega)   (fun b1 b2 => ⟨_, rfl, ?_⟩) (fun b3 => ⟨_, rfl, ?_⟩))
  · refine w_nezt (by omega) (by omega) (by omega)  (w_run k_491531 (w_al (fun _ => rfl) (w_il (fun _ => rfl) ?_)))
    obtain ⟨_, m4, rfl⟩ := iv_0 iv
    refine w_this (fun _ => rfl) m4 ?_
    refine w_ca (fun _ => rfl) rfl (c_painterOf (d := d) iv (n := pa_) (by omega) (by omega)   (fun b5 => ⟨_, rfl, ?_⟩) (fun p6 b7 b8 b9 => ⟨_, rfl, ?_⟩))
    · refine w_as (fun _ => rfl) (w_al (fun _ => rfl) (w_ifnn0 (w_icI (x := (-11)) wn_11 (w_ri ?_))))
      exact k0 (-11) (by omega) (by omega)
    · refine w_as (fun _ => rfl) (w_al (fun _ => rfl) (w_ifnn1 (w_run k_491544 (w_al (fun _ => rfl) (w_il (fun _ => rfl) (w_ca (fun _ => rfl) rfl (w_run k_524288 (w_il (fun _ => rfl) ?_))))))))
      by_cases c10 : kd = 1
      · rw [show (kd : Int) = 1 from c10]
        refine w_tsw (t := 524324) (fun _ => rfl) (w_run k_524324 (w_al (fun _ => rfl) ?_))
        obtain ⟨_, mk11, ck11, rfl, lk11, uk11, nk11, hk11⟩ := iv_120 iv (congrArg Prod.fst b9)
        rcases hk11 with ⟨kk11, rfl⟩ | ⟨kk11, rfl⟩ | ⟨kk11, rfl⟩ | ⟨kk11, rfl⟩ | ⟨kk11, rfl⟩ | ⟨kk11, rfl⟩
        · refine w_ins0 mk11 (by decide) (by decide) (w_rz (by decide) ⟨_, rfl, ?_⟩)
          refine w_eqzt (by omega) (by omega) (by omega)  (w_run k_491559 (w_icI (x := (-13)) wn_13 (w_ri ?_)))
          exact k0 (-13) (by omega) (by omega)
        · refine w_ins1 mk11 (by decide) (w_rz (by decide) ⟨_, rfl, ?_⟩)
          refine w_eqzf (by omega) (by omega) (by omega)  (w_al (fun _ => rfl) (w_getf mk11 rfl (fun _ => rfl) (w_go (w_run k_491561 (w_ri ?_)))))
          exact k0 (g_PN g ((o p6).2 : Int)) (by omega) (by omega)
        · refine w_ins0 mk11 (by decide) (by decide) (w_rz (by decide) ⟨_, rfl, ?_⟩)
          refine w_eqzt (by omega) (by omega) (by omega)  (w_run k_491559 (w_icI (x := (-13)) wn_13 (w_ri ?_)))
          exact k0 (-13) (by omega) (by omega)
        · refine w_ins1 mk11 (by decide) (w_rz (by decide) ⟨_, rfl, ?_⟩)
          refine w_eqzf (by omega) (by omega) (by omega)  (w_al (fun _ => rfl) (w_getf mk11 rfl (fun _ => rfl) (w_go (w_run k_491561 (w_ri ?_)))))
          exact k0 (g_PN g ((o p6).2 : Int)) (by omega) (by omega)
        · refine w_ins0 mk11 (by decide) (by decide) (w_rz (by decide) ⟨_, rfl, ?_⟩)
          refine w_eqzt (by omega) (by omega) (by omega)  (w_run k_491559 (w_icI (x := (-13)) wn_13 (w_ri ?_)))
          exact k0 (-13) (by omega) (by omega)
        · refine w_ins0 mk11 (by decide) (by decide) (w_rz (by decide) ⟨_, rfl, ?_⟩)
          refine w_eqzt (by omega) (by omega) (by omega)  (w_run k_491559 (w_icI (x := (-13)) wn_13 (w_ri ?_)))
          exact k0 (-13) (by omega) (by omega)
      by_cases c12 : kd = 2
      · rw [show (kd : Int) = 2 from c12]
        refine w_tsw (t := 524329) (fun _ => rfl) (w_run k_524329 (w_al (fun _ => rfl) ?_))
        obtain ⟨_, mk13, ck13, rfl, lk13, uk13, nk13, hk13⟩ := iv_120 iv (congrArg Prod.fst b9)
        rcases hk13 with ⟨kk13, rfl⟩ | ⟨kk13, rfl⟩ | ⟨kk13, rfl⟩ | ⟨kk13, rfl⟩ | ⟨kk13, rfl⟩ | ⟨kk13, rfl⟩
        · refine w_ins0 mk13 (by decide) (by decide) (w_rz (by decide) ⟨_, rfl, ?_⟩)
          refine w_eqzt (by omega) (by omega) (by omega)  (w_run k_491559 (w_icI (x := (-13)) wn_13 (w_ri ?_)))
          exact k0 (-13) (by omega) (by omega)
        · refine w_ins0 mk13 (by decide) (by decide) (w_rz (by decide) ⟨_, rfl, ?_⟩)
          refine w_eqzt (by omega) (by omega) (by omega)  (w_run k_491559 (w_icI (x := (-13)) wn_13 (w_ri ?_)))
          exact k0 (-13) (by omega) (by omega)
        · refine w_ins1 mk13 (by decide) (w_rz (by decide) ⟨_, rfl, ?_⟩)
          refine w_eqzf (by omega) (by omega) (by omega)  (w_al (fun _ => rfl) (w_getf mk13 rfl (fun _ => rfl) (w_go (w_run k_491561 (w_ri ?_)))))
          exact k0 (g_PN g ((o p6).2 : Int)) (by omega) (by omega)
        · refine w_ins0 mk13 (by decide) (by decide) (w_rz (by decide) ⟨_, rfl, ?_⟩)
          refine w_eqzt (by omega) (by omega) (by omega)  (w_run k_491559 (w_icI (x := (-13)) wn_13 (w_ri ?_)))
          exact k0 (-13) (by omega) (by omega)
        · refine w_ins1 mk13 (by decide) (w_rz (by decide) ⟨_, rfl, ?_⟩)
          refine w_eqzf (by omega) (by omega) (by omega)  (w_al (fun _ => rfl) (w_getf mk13 rfl (fun _ => rfl) (w_go (w_run k_491561 (w_ri ?_)))))
          exact k0 (g_PN g ((o p6).2 : Int)) (by omega) (by omega)
        · refine w_ins1 mk13 (by decide) (w_rz (by decide) ⟨_, rfl, ?_⟩)
          refine w_eqzf (by omega) (by omega) (by omega)  (w_al (fun _ => rfl) (w_getf mk13 rfl (fun _ => rfl) (w_go (w_run k_491561 (w_ri ?_)))))
          exact k0 (g_PN g ((o p6).2 : Int)) (by omega) (by omega)
      by_cases c14 : kd = 3
      · rw [show (kd : Int) = 3 from c14]
        refine w_tsw (t := 524334) (fun _ => rfl) (w_run k_524334 (w_al (fun _ => rfl) ?_))
        obtain ⟨_, mk15, ck15, rfl, lk15, uk15, nk15, hk15⟩ := iv_120 iv (congrArg Prod.fst b9)
        rcases hk15 with ⟨kk15, rfl⟩ | ⟨kk15, rfl⟩ | ⟨kk15, rfl⟩ | ⟨kk15, rfl⟩ | ⟨kk15, rfl⟩ | ⟨kk15, rfl⟩
        · refine w_ins0 mk15 (by decide) (by decide) (w_rz (by decide) ⟨_, rfl, ?_⟩)
          refine w_eqzt (by omega) (by omega) (by omega)  (w_run k_491559 (w_icI (x := (-13)) wn_13 (w_ri ?_)))
          exact k0 (-13) (by omega) (by omega)
        · refine w_ins0 mk15 (by decide) (by decide) (w_rz (by decide) ⟨_, rfl, ?_⟩)
          refine w_eqzt (by omega) (by omega) (by omega)  (w_run k_491559 (w_icI (x := (-13)) wn_13 (w_ri ?_)))
          exact k0 (-13) (by omega) (by omega)
        · refine w_ins0 mk15 (by decide) (by decide) (w_rz (by decide) ⟨_, rfl, ?_⟩)
          refine w_eqzt (by omega) (by omega) (by omega)  (w_run k_491559 (w_icI (x := (-13)) wn_13 (w_ri ?_)))
          exact k0 (-13) (by omega) (by omega)
        · refine w_ins1 mk15 (by decide) (w_rz (by decide) ⟨_, rfl, ?_⟩)
          refine w_eqzf (by omega) (by omega) (by omega)  (w_al (fun _ => rfl) (w_getf mk15 rfl (fun _ => rfl) (w_go (w_run k_491561 (w_ri ?_)))))
          exact k0 (g_PN g ((o p6).2 : Int)) (by omega) (by omega)
        · refine w_ins0 mk15 (by decide) (by decide) (w_rz (by decide) ⟨_, rfl, ?_⟩)
          refine w_eqzt (by omega) (by omega) (by omega)  (w_run k_491559 (w_icI (x := (-13)) wn_13 (w_ri ?_)))
          exact k0 (-13) (by omega) (by omega)
        · refine w_ins0 mk15 (by decide) (by decide) (w_rz (by decide) ⟨_, rfl, ?_⟩)
          refine w_eqzt (by omega) (by omega) (by omega)  (w_run k_491559 (w_icI (x := (-13)) wn_13 (w_ri ?_)))
          exact k0 (-13) (by omega) (by omega)
      by_cases c16 : kd = 4
      · rw [show (kd : Int) = 4 from c16]
        refine w_tsw (t := 524339) (fun _ => rfl) (w_run k_524339 (w_al (fun _ => rfl) ?_))
        obtain ⟨_, mk17, ck17, rfl, lk17, uk17, nk17, hk17⟩ := iv_120 iv (congrArg Prod.fst b9)
        rcases hk17 with ⟨kk17, rfl⟩ | ⟨kk17, rfl⟩ | ⟨kk17, rfl⟩ | ⟨kk17, rfl⟩ | ⟨kk17, rfl⟩ | ⟨kk17, rfl⟩
        · refine w_ins0 mk17 (by decide) (by decide) (w_rz (by decide) ⟨_, rfl, ?_⟩)
          refine w_eqzt (by omega) (by omega) (by omega)  (w_run k_491559 (w_icI (x := (-13)) wn_13 (w_ri ?_)))
          exact k0 (-13) (by omega) (by omega)
        · refine w_ins0 mk17 (by decide) (by decide) (w_rz (by decide) ⟨_, rfl, ?_⟩)
          refine w_eqzt (by omega) (by omega) (by omega)  (w_run k_491559 (w_icI (x := (-13)) wn_13 (w_ri ?_)))
          exact k0 (-13) (by omega) (by omega)
        · refine w_ins0 mk17 (by decide) (by decide) (w_rz (by decide) ⟨_, rfl, ?_⟩)
          refine w_eqzt (by omega) (by omega) (by omega)  (w_run k_491559 (w_icI (x := (-13)) wn_13 (w_ri ?_)))
          exact k0 (-13) (by omega) (by omega)
        · refine w_ins0 mk17 (by decide) (by decide) (w_rz (by decide) ⟨_, rfl, ?_⟩)
          refine w_eqzt (by omega) (by omega) (by omega)  (w_run k_491559 (w_icI (x := (-13)) wn_13 (w_ri ?_)))
          exact k0 (-13) (by omega) (by omega)
        · refine w_ins1 mk17 (by decide) (w_rz (by decide) ⟨_, rfl, ?_⟩)
          refine w_eqzf (by omega) (by omega) (by omega)  (w_al (fun _ => rfl) (w_getf mk17 rfl (fun _ => rfl) (w_go (w_run k_491561 (w_ri ?_)))))
          exact k0 (g_PN g ((o p6).2 : Int)) (by omega) (by omega)
        · refine w_ins0 mk17 (by decide) (by decide) (w_rz (by decide) ⟨_, rfl, ?_⟩)
          refine w_eqzt (by omega) (by omega) (by omega)  (w_run k_491559 (w_icI (x := (-13)) wn_13 (w_ri ?_)))
          exact k0 (-13) (by omega) (by omega)
      by_cases c18 : kd = 5
      · rw [show (kd : Int) = 5 from c18]
        refine w_tsw (t := 524344) (fun _ => rfl) (w_run k_524344 (w_al (fun _ => rfl) ?_))
        obtain ⟨_, mk19, ck19, rfl, lk19, uk19, nk19, hk19⟩ := iv_120 iv (congrArg Prod.fst b9)
        rcases hk19 with ⟨kk19, rfl⟩ | ⟨kk19, rfl⟩ | ⟨kk19, rfl⟩ | ⟨kk19, rfl⟩ | ⟨kk19, rfl⟩ | ⟨kk19, rfl⟩
        · refine w_ins0 mk19 (by decide) (by decide) (w_rz (by decide) ⟨_, rfl, ?_⟩)
          refine w_eqzt (by omega) (by omega) (by omega)  (w_run k_491559 (w_icI (x := (-13)) wn_13 (w_ri ?_)))
          exact k0 (-13) (by omega) (by omega)
        · refine w_ins0 mk19 (by decide) (by decide) (w_rz (by decide) ⟨_, rfl, ?_⟩)
          refine w_eqzt (by omega) (by omega) (by omega)  (w_run k_491559 (w_icI (x := (-13)) wn_13 (w_ri ?_)))
          exact k0 (-13) (by omega) (by omega)
        · refine w_ins0 mk19 (by decide) (by decide) (w_rz (by decide) ⟨_, rfl, ?_⟩)
          refine w_eqzt (by omega) (by omega) (by omega)  (w_run k_491559 (w_icI (x := (-13)) wn_13 (w_ri ?_)))
          exact k0 (-13) (by omega) (by omega)
        · refine w_ins0 mk19 (by decide) (by decide) (w_rz (by decide) ⟨_, rfl, ?_⟩)
          refine w_eqzt (by omega) (by omega) (by omega)  (w_run k_491559 (w_icI (x := (-13)) wn_13 (w_ri ?_)))
          exact k0 (-13) (by omega) (by omega)
        · refine w_ins0 mk19 (by decide) (by decide) (w_rz (by decide) ⟨_, rfl, ?_⟩)
          refine w_eqzt (by omega) (by omega) (by omega)  (w_run k_491559 (w_icI (x := (-13)) wn_13 (w_ri ?_)))
          exact k0 (-13) (by omega) (by omega)
        · refine w_ins1 mk19 (by decide) (w_rz (by decide) ⟨_, rfl, ?_⟩)
          refine w_eqzf (by omega) (by omega) (by omega)  (w_al (fun _ => rfl) (w_getf mk19 rfl (fun _ => rfl) (w_go (w_run k_491561 (w_ri ?_)))))
          exact k0 (g_PN g ((o p6).2 : Int)) (by omega) (by omega)
      refine w_tswL (by omega) (by omega) (by show _ < ((1 : Nat) : Int) ∨ ((6 : Nat) : Int) ≤ _; omega) (by decide) (w_run k_524349 (w_icI (x := 1) rfl (w_rz (by decide) ⟨_, rfl, ?_⟩)))
      refine w_eqzf (by omega) (by omega) (by omega)  (w_al (fun _ => rfl) ?_)
      obtain ⟨_, mk20, ck20, rfl, lk20, uk20, nk20, hk20⟩ := iv_120 iv (congrArg Prod.fst b9)
      rcases hk20 with ⟨kk20, rfl⟩ | ⟨kk20, rfl⟩ | ⟨kk20, rfl⟩ | ⟨kk20, rfl⟩ | ⟨kk20, rfl⟩ | ⟨kk20, rfl⟩
      · refine w_getf mk20 rfl (fun _ => rfl) (w_go (w_run k_491561 (w_ri ?_)))
        exact k0 (g_PN g ((o p6).2 : Int)) (by omega) (by omega)
      · refine w_getf mk20 rfl (fun _ => rfl) (w_go (w_run k_491561 (w_ri ?_)))
        exact k0 (g_PN g ((o p6).2 : Int)) (by omega) (by omega)
      · refine w_getf mk20 rfl (fun _ => rfl) (w_go (w_run k_491561 (w_ri ?_)))
        exact k0 (g_PN g ((o p6).2 : Int)) (by omega) (by omega)
      · refine w_getf mk20 rfl (fun _ => rfl) (w_go (w_run k_491561 (w_ri ?_)))
        exact k0 (g_PN g ((o p6).2 : Int)) (by omega) (by omega)
      · refine w_getf mk20 rfl (fun _ => rfl) (w_go (w_run k_491561 (w_ri ?_)))
        exact k0 (g_PN g ((o p6).2 : Int)) (by omega) (by omega)
      · refine w_getf mk20 rfl (fun _ => rfl) (w_go (w_run k_491561 (w_ri ?_)))
        exact k0 (g_PN g ((o p6).2 : Int)) (by omega) (by omega)
  · refine w_nezf (by omega) (by omega) (by omega)  (w_icI (x := (-2)) wn_2 (w_ri ?_))
    exact k0 (-2) (by omega) (by omega)
