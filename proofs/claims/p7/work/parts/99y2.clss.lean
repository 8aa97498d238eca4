theorem c_read {g : w_G} {o : w_O} {h : m_H} {d : Nat} {Q : Option m_V → m_H → Prop} (iv : w_Inv g o h) (k0 : ∀ (p : Nat) (o2 : w_O) (h2 : m_H), w_Inv g o2 h2 → w_oe o o2 → (o2 p).1 = 110 → h2.1 ≤ h.1 + 3 → h2.2.1 ≤ h.2.1 + 200 → Q (some (.inr (.inl (some p)))) h2) (k1 : ∀ h2 : m_H, w_Inv g o h2 → w_fr o [18, 20, 21, 22] h h2 → Q (some (.inr (.inl none))) h2) : wp (d + 89) 61440 [.inr (.inl (some 18)), .inr (.inr (.inl 0)), .inr (.inr (.inl 0)), .inr (.inr (.inl 0))] [] h Q := by
  have F := fr_rf (o := o) (h := h) (W := [18, 20, 21, 22])
  have W := iv_wc iv
  refine w_run k_61440 (w_al (fun _ => rfl) ?_)
  obtain ⟨_, m1, siz1, atp1, tok1, flt1, wri1, rfl, l1_siz, u1_siz, l1_atp, u1_atp, l1_tok, u1_tok, l1_flt, u1_flt, l1_wri, u1_wri, f1_0, f1_1, f1_2, f1_3, f1_4, f1_5, f1_6⟩ := iv_18 iv
  refine w_this (fun _ => rfl) m1 ?_
  refine w_cv (fun _ => rfl) rfl (c_splitTape (d := (d + 85)) iv     (fun h2 iv3 F4 => ⟨rfl, ?_⟩))
  have F5 := fr_ca F F4 (fun t ht => by simp at ht ⊢; omega)
  refine w_al (fun _ => rfl) (w_icI (x := (-1)) wn_1 ?_)
  have m6 := fr_at F4 m1 iv (ow_18 iv) rfl rfl
  refine w_putf [.inr (.inl (some 19)), .inl (w_i siz1), .inr (.inl (some 20)), .inr (.inl (some 21)), .inl (w_i atp1), .inl (w_i tok1), .inl (w_i (-1)), .inr (.inl (some 22)), .inl (w_i wri1)] m6 rfl rfl rfl (fun _ => rfl) (fun h8 s7 => ?_)
  have iv9 := is_18 iv3 s7 ⟨_, _, _, _, _, rfl, by omega, by omega, by omega, by omega, by omega, by omega, by omega, by omega, by omega, by omega, by omega, by omega, by omega, by omega, by omega, by omega, by omega⟩
  have F10 := fr_st F5 s7 (by rw [(ow_18 iv3)]; rfl)
  refine w_al (fun _ => rfl) (w_icI (x := 0) rfl (w_putf [.inr (.inl (some 19)), .inl (w_i siz1), .inr (.inl (some 20)), .inr (.inl (some 21)), .inl (w_i atp1), .inl (w_i tok1), .inl (w_i (-1)), .inr (.inl (some 22)), .inl (w_i 0)] s7.2.2.1 rfl rfl rfl (fun _ => rfl) (fun h12 s11 => ?_)))
  have iv13 := is_18 iv9 s11 ⟨_, _, _, _, _, rfl, by omega, by omega, by omega, by omega, by omega, by omega, by omega, by omega, by omega, by omega, by omega, by omega, by omega, by omega, by omega, by omega, by omega⟩
  have F14 := fr_st F10 s11 (by rw [(ow_18 iv9)]; rfl)
  refine w_al (fun _ => rfl) (w_icI (x := 0) rfl (w_putf [.inr (.inl (some 19)), .inl (w_i siz1), .inr (.inl (some 20)), .inr (.inl (some 21)), .inl (w_i 0), .inl (w_i tok1), .inl (w_i (-1)), .inr (.inl (some 22)), .inl (w_i 0)] s11.2.2.1 rfl rfl rfl (fun _ => rfl) (fun h16 s15 => ?_)))
  have iv17 := is_18 iv13 s15 ⟨_, _, _, _, _, rfl, by omega, by omega, by omega, by omega, by omega, by omega, by omega, by omega, by omega, by omega, by omega, by omega, by omega, by omega, by omega, by omega, by omega⟩
  have F18 := fr_st F14 s15 (by rw [(ow_18 iv13)]; rfl)
  refine w_al (fun _ => rfl) (w_al (fun _ => rfl) (w_getf s15.2.2.1 rfl (fun _ => rfl) (w_icI (x := 0) rfl ?_)))
  obtain ⟨_, m19, A19, rfl, e19⟩ := iv_20 iv17
  refine w_aldI m19 (by omega) (by omega) (by omega) ?_
  obtain ⟨b20, b21⟩ := ag_rg A19 0
  have e22 := e19 0 (by omega) (by omega)
  refine w_putf [.inr (.inl (some 19)), .inl (w_i siz1), .inr (.inl (some 20)), .inr (.inl (some 21)), .inl (w_i 0), .inl (w_i (a_g A19 0)), .inl (w_i (-1)), .inr (.inl (some 22)), .inl (w_i 0)] s15.2.2.1 rfl rfl rfl (fun _ => rfl) (fun h24 s23 => ?_)
  have iv25 := is_18 iv17 s23 ⟨_, _, _, _, _, rfl, by omega, by omega, by omega, by omega, by omega, by omega, by omega, by omega, by omega, by omega, by omega, by omega, by omega, by omega, by omega, by omega, by omega⟩
  have F26 := fr_st F18 s23 (by rw [(ow_18 iv17)]; rfl)
  have wr27 : w_wr g o h24 0 := ⟨siz1, 0, (a_g A19 0), (-1), 0, s23.2.2.1, by omega, by omega, by omega, by omega, by omega, by omega, by omega, by omega, by omega, by omega, by omega⟩
  refine w_al (fun _ => rfl) (w_icI (x := 15) rfl (w_this (fun _ => rfl) s23.2.2.1 ?_))
  refine w_cv (fun _ => rfl) rfl (c_readClause (d := d) iv25 (key := 15) (by omega) (by omega)  wr27 (fun h28 iv29 F30 b31 => ⟨rfl, ?_⟩))
  have F32 := fr_ca F26 F30 (fun t ht => by simp at ht ⊢; omega)
  obtain ⟨sizz33, atpz33, tokz33, fltz33, wriz33, pz33, qz33_0, qz33_1, qz33_2, qz33_3, qz33_4, qz33_5, qz33_6, qz33_7, qz33_8, qz33_9, qz33_10⟩ := (id b31)
  refine w_al (fun _ => rfl) (w_getf pz33 rfl (fun _ => rfl) (w_is (fun _ => rfl) ?_))
  have wr34 : w_wr g o h28 wriz33 := ⟨sizz33, atpz33, tokz33, fltz33, wriz33, pz33, by omega, by omega, by omega, by omega, by omega, by omega, by omega, by omega, by omega, by omega, by omega⟩
  refine w_al (fun _ => rfl) (w_icI (x := 16) rfl (w_this (fun _ => rfl) pz33 ?_))
  refine w_cv (fun _ => rfl) rfl (c_readClause (d := d) iv29 (key := 16) (by omega) (by omega)  wr34 (fun h35 iv36 F37 b38 => ⟨rfl, ?_⟩))
  have F39 := fr_ca F32 F37 (fun t ht => by simp at ht ⊢; omega)
  obtain ⟨sizz40, atpz40, tokz40, fltz40, wriz40, pz40, qz40_0, qz40_1, qz40_2, qz40_3, qz40_4, qz40_5, qz40_6, qz40_7, qz40_8, qz40_9, qz40_10⟩ := (id b38)
  refine w_al (fun _ => rfl) (w_getf pz40 rfl (fun _ => rfl) (w_is (fun _ => rfl) ?_))
  have wr41 : w_wr g o h35 wriz40 := ⟨sizz40, atpz40, tokz40, fltz40, wriz40, pz40, by omega, by omega, by omega, by omega, by omega, by omega, by omega, by omega, by omega, by omega, by omega⟩
  refine w_al (fun _ => rfl) (w_icI (x := 17) rfl (w_this (fun _ => rfl) pz40 ?_))
  refine w_cv (fun _ => rfl) rfl (c_readClause (d := d) iv36 (key := 17) (by omega) (by omega)  wr41 (fun h42 iv43 F44 b45 => ⟨rfl, ?_⟩))
  have F46 := fr_ca F39 F44 (fun t ht => by simp at ht ⊢; omega)
  obtain ⟨sizz47, atpz47, tokz47, fltz47, wriz47, pz47, qz47_0, qz47_1, qz47_2, qz47_3, qz47_4, qz47_5, qz47_6, qz47_7, qz47_8, qz47_9, qz47_10⟩ := (id b45)
  refine w_al (fun _ => rfl) (w_getf pz47 rfl (fun _ => rfl) (w_icI (x := 21) rfl ?_))
  refine w_eq2 (by omega) (by omega) (by omega) (by omega)  (fun c48 => ?_) (fun c48 => ?_)
  · refine w_run k_61510 ?_
    refine w_al (fun _ => rfl) (w_this (fun _ => rfl) pz47 ?_)
    refine w_cv (fun _ => rfl) rfl (c_empty (d := (d + 88)) iv43    b45 (fun h49 iv50 F51 b52 => ⟨rfl, ?_⟩))
    have F53 := fr_ca F46 F51 (fun t ht => by simp at ht ⊢; omega)
    obtain ⟨sizz54, atpz54, tokz54, fltz54, wriz54, pz54, qz54_0, qz54_1, qz54_2, qz54_3, qz54_4, qz54_5, qz54_6, qz54_7, qz54_8, qz54_9, qz54_10⟩ := (id b52)
    refine w_al (fun _ => rfl) (w_getf pz54 rfl (fun _ => rfl) (w_icI (x := (-1)) wn_1 ?_))
    refine w_eq2 (by omega) (by omega) (by omega) (by omega)  (fun c55 => ?_) (fun c55 => ?_)
    · refine w_run k_61524 (w_al (fun _ => rfl) (w_getf pz54 rfl (fun _ => rfl) ?_))
      obtain ⟨_, m56, A56, rfl, e56⟩ := iv_22 iv50
      have z57 := iv50.2.2.2.2.1
      have z57w := iv50.1
      refine w_newa z57w (wi_le (by omega) (by omega)) (fun h58 s59 => ?_)
      have hn_0 : ((w_i wriz54 : Nat) : Int) = wriz54 := by rw [wi_int]; omega
      have z60 := s59.1
      have z60y := s59.2.1
      have z60w := s59.2.2.2.2
      refine w_as (fun _ => rfl) (w_al (fun _ => rfl) ?_)
      have m61 := nw_fr s59 pz54 (by omega)
      refine w_getf m61 rfl (fun _ => rfl) (w_icI (x := 0) rfl (w_al (fun _ => rfl) (w_icI (x := 0) rfl (w_al (fun _ => rfl) (w_getf m61 rfl (fun _ => rfl) ?_)))))
      have m62 := nw_fr s59 m56 (by omega)
      refine w_cpyI m62 s59.2.2.1 (by omega) (by omega) (by omega) (by omega) (by omega) (by omega) (by omega) rfl (fun A66 h64 w67 s63 => ?_)
      have z68 := s63.1
      have z68y := s63.2.1
      have z68w := s63.2.2.2.2 z60w
      refine w_new z68w (fun h69 s70 => ?_)
      have z71 := s70.1
      have z71y := s70.2.1
      have z71w := s70.2.2.2.2
      have z71a : h64.1 = (h49.1 + 1) := by omega
      rw [z71a]
      have z71m : m_at h69.2.2 (h49.1 + 1) = some (.inr (.inr (9, [.inr (.inl none), .inl 0, .inl 0, .inr (.inl none)]))) := by rw [← z71a]; exact s70.2.2.1
      refine w_dup (fun _ => rfl) (w_al (fun _ => rfl) (w_il (fun _ => rfl) (w_il (fun _ => rfl) (w_rcv (fun _ => rfl) (w_cv (fun _ => rfl) rfl (w_run k_286720 (w_al (fun _ => rfl) (w_oi rfl (w_al (fun _ => rfl) (w_icI (x := 31) rfl (w_newa z71w (wi_le (by omega) (by omega)) (fun h72 s73 => ?_))))))))))))
      have hn_2 : ((w_i 31 : Nat) : Int) = 31 := by rw [wi_int]; omega
      have z74 := s73.1
      have z74y := s73.2.1
      have z74w := s73.2.2.2.2
      have z74a : h69.1 = (h49.1 + 2) := by omega
      rw [z74a]
      have z74m : m_at h72.2.2 (h49.1 + 2) = some (.inl (false, (w_i 31), 0)) := by rw [← z74a]; exact s73.2.2.1
      have m75 := nw_fr s73 z71m (by omega)
      refine w_putf [.inr (.inl none), .inl (w_i 0), .inl (w_i 0), .inr (.inl (some (h49.1 + 2)))] m75 rfl rfl rfl (fun _ => rfl) (fun h77 s76 => ?_)
      have z79 := s76.1
      have z79y := s76.2.1
      have z79w := s76.2.2.2.2 z74w
      refine w_al (fun _ => rfl) (w_al (fun _ => rfl) (w_putf [.inr (.inl (some h49.1)), .inl (w_i 0), .inl (w_i 0), .inr (.inl (some (h49.1 + 2)))] s76.2.2.1 rfl rfl rfl (fun _ => rfl) (fun h81 s80 => ?_)))
      have z83 := s80.1
      have z83y := s80.2.1
      have z83w := s80.2.2.2.2 z79w
      refine w_al (fun _ => rfl) (w_il (fun _ => rfl) (w_putf [.inr (.inl (some h49.1)), .inl (w_i wriz33), .inl (w_i 0), .inr (.inl (some (h49.1 + 2)))] s80.2.2.1 rfl rfl rfl (fun _ => rfl) (fun h85 s84 => ?_)))
      have z87 := s84.1
      have z87y := s84.2.1
      have z87w := s84.2.2.2.2 z83w
      refine w_al (fun _ => rfl) (w_il (fun _ => rfl) (w_putf [.inr (.inl (some h49.1)), .inl (w_i wriz33), .inl (w_i wriz40), .inr (.inl (some (h49.1 + 2)))] s84.2.2.1 rfl rfl rfl (fun _ => rfl) (fun h89 s88 => ?_)))
      have z91 := s88.1
      have z91y := s88.2.1
      have z91w := s88.2.2.2.2 z87w
      refine w_rv ⟨rfl, ?_⟩
      refine w_ra ?_
      have F1 := F53.1
      have F2 := F53.2.1
      have m92 := nw_fr s70 s63.2.2.1 (by omega)
      have m93 := nw_fr s73 m92 (by omega)
      have m94 := st_fr s76 m93 (by omega)
      have m95 := st_fr s80 m94 (by omega)
      have m96 := st_fr s84 m95 (by omega)
      have m97 := st_fr s88 m96 (by omega)
      have m98 := st_fr s76 z74m (by omega)
      have m99 := st_fr s80 m98 (by omega)
      have m100 := st_fr s84 m99 (by omega)
      have m101 := st_fr s88 m100 (by omega)
      have hAn : ∀ j : Int, 0 ≤ j → j < (((w_i wriz54) : Nat) : Int) → 0 ≤ a_g A66 j := fun j j0 j1 => by
        rw [w67 j j0 j1]
        split
        · exact e56 _ (by omega) (by omega)
        · rw [ag_0]; exact Int.le_refl _
      have ivn := rd_fin (me := wriz33) (fe := wriz40) (n := (w_i wriz54)) iv50 (by omega) (by omega) (by omega) (by omega) z91w (by omega) (fun q hq  => (s88.2.2.2.1 q (by omega)).trans ((s84.2.2.2.1 q (by omega)).trans ((s80.2.2.2.1 q (by omega)).trans ((s76.2.2.2.1 q (by omega)).trans ((s73.2.2.2.1 q (by omega)).trans ((s70.2.2.2.1 q (by omega)).trans ((s63.2.2.2.1 q (by omega)).trans ((s59.2.2.2.1 q (by omega)).trans (rfl))))))))) m97 hAn s88.2.2.1 m101
      exact k0 (h49.1 + 1) (o_tx o h49.1 (w_i wriz54)) h89 ivn (fun q hq => by have : ¬ h49.1 ≤ q := (fun z => hq (iv50.2.2.2.1 q z)); unfold o_tx; rw [if_neg (by omega), if_neg (by omega), if_neg (by omega)]) (by show (o_tx o h49.1 (w_i wriz54) (h49.1 + 1)).1 = 110; unfold o_tx; rw [if_neg (by omega), if_pos rfl]) (by omega) (by omega)
    · refine w_nul (w_ra ?_)
      exact k1 h49 iv50 F53
  · refine w_al (fun _ => rfl) (w_this (fun _ => rfl) pz47 ?_)
    refine w_cv (fun _ => rfl) rfl (c_fail (d := (d + 88)) iv43    b45 (fun h102 iv103 F104 b105 => ⟨rfl, ?_⟩))
    have F106 := fr_ca F46 F104 (fun t ht => by simp at ht ⊢; omega)
    refine w_al (fun _ => rfl) ?_
    obtain ⟨_, m107, siz107, atp107, tok107, flt107, wri107, rfl, l107_siz, u107_siz, l107_atp, u107_atp, l107_tok, u107_tok, l107_flt, u107_flt, l107_wri, u107_wri, f107_0, f107_1, f107_2, f107_3, f107_4, f107_5, f107_6⟩ := iv_18 iv103
    refine w_this (fun _ => rfl) m107 ?_
    refine w_cv (fun _ => rfl) rfl (c_empty (d := (d + 88)) iv103    b105 (fun h108 iv109 F110 b111 => ⟨rfl, ?_⟩))
    have F112 := fr_ca F106 F110 (fun t ht => by simp at ht ⊢; omega)
    obtain ⟨sizz113, atpz113, tokz113, fltz113, wriz113, pz113, qz113_0, qz113_1, qz113_2, qz113_3, qz113_4, qz113_5, qz113_6, qz113_7, qz113_8, qz113_9, qz113_10⟩ := (id b111)
    refine w_al (fun _ => rfl) (w_getf pz113 rfl (fun _ => rfl) (w_icI (x := (-1)) wn_1 ?_))
    refine w_eq2 (by omega) (by omega) (by omega) (by omega)  (fun c114 => ?_) (fun c114 => ?_)
    · refine w_run k_61524 (w_al (fun _ => rfl) (w_getf pz113 rfl (fun _ => rfl) ?_))
      obtain ⟨_, m115, A115, rfl, e115⟩ := iv_22 iv109
      have z116 := iv109.2.2.2.2.1
      have z116w := iv109.1
      refine w_newa z116w (wi_le (by omega) (by omega)) (fun h117 s118 => ?_)
      have hn_0 : ((w_i wriz113 : Nat) : Int) = wriz113 := by rw [wi_int]; omega
      have z119 := s118.1
      have z119y := s118.2.1
      have z119w := s118.2.2.2.2
      refine w_as (fun _ => rfl) (w_al (fun _ => rfl) ?_)
      have m120 := nw_fr s118 pz113 (by omega)
      refine w_getf m120 rfl (fun _ => rfl) (w_icI (x := 0) rfl (w_al (fun _ => rfl) (w_icI (x := 0) rfl (w_al (fun _ => rfl) (w_getf m120 rfl (fun _ => rfl) ?_)))))
      have m121 := nw_fr s118 m115 (by omega)
      refine w_cpyI m121 s118.2.2.1 (by omega) (by omega) (by omega) (by omega) (by omega) (by omega) (by omega) rfl (fun A125 h123 w126 s122 => ?_)
      have z127 := s122.1
      have z127y := s122.2.1
      have z127w := s122.2.2.2.2 z119w
      refine w_new z127w (fun h128 s129 => ?_)
      have z130 := s129.1
      have z130y := s129.2.1
      have z130w := s129.2.2.2.2
      have z130a : h123.1 = (h108.1 + 1) := by omega
      rw [z130a]
      have z130m : m_at h128.2.2 (h108.1 + 1) = some (.inr (.inr (9, [.inr (.inl none), .inl 0, .inl 0, .inr (.inl none)]))) := by rw [← z130a]; exact s129.2.2.1
      refine w_dup (fun _ => rfl) (w_al (fun _ => rfl) (w_il (fun _ => rfl) (w_il (fun _ => rfl) (w_rcv (fun _ => rfl) (w_cv (fun _ => rfl) rfl (w_run k_286720 (w_al (fun _ => rfl) (w_oi rfl (w_al (fun _ => rfl) (w_icI (x := 31) rfl (w_newa z130w (wi_le (by omega) (by omega)) (fun h131 s132 => ?_))))))))))))
      have hn_2 : ((w_i 31 : Nat) : Int) = 31 := by rw [wi_int]; omega
      have z133 := s132.1
      have z133y := s132.2.1
      have z133w := s132.2.2.2.2
      have z133a : h128.1 = (h108.1 + 2) := by omega
      rw [z133a]
      have z133m : m_at h131.2.2 (h108.1 + 2) = some (.inl (false, (w_i 31), 0)) := by rw [← z133a]; exact s132.2.2.1
      have m134 := nw_fr s132 z130m (by omega)
      refine w_putf [.inr (.inl none), .inl (w_i 0), .inl (w_i 0), .inr (.inl (some (h108.1 + 2)))] m134 rfl rfl rfl (fun _ => rfl) (fun h136 s135 => ?_)
      have z138 := s135.1
      have z138y := s135.2.1
      have z138w := s135.2.2.2.2 z133w
      refine w_al (fun _ => rfl) (w_al (fun _ => rfl) (w_putf [.inr (.inl (some h108.1)), .inl (w_i 0), .inl (w_i 0), .inr (.inl (some (h108.1 + 2)))] s135.2.2.1 rfl rfl rfl (fun _ => rfl) (fun h140 s139 => ?_)))
      have z142 := s139.1
      have z142y := s139.2.1
      have z142w := s139.2.2.2.2 z138w
      refine w_al (fun _ => rfl) (w_il (fun _ => rfl) (w_putf [.inr (.inl (some h108.1)), .inl (w_i wriz33), .inl (w_i 0), .inr (.inl (some (h108.1 + 2)))] s139.2.2.1 rfl rfl rfl (fun _ => rfl) (fun h144 s143 => ?_)))
      have z146 := s143.1
      have z146y := s143.2.1
      have z146w := s143.2.2.2.2 z142w
      refine w_al (fun _ => rfl) (w_il (fun _ => rfl) (w_putf [.inr (.inl (some h108.1)), .inl (w_i wriz33), .inl (w_i wriz40), .inr (.inl (some (h108.1 + 2)))] s143.2.2.1 rfl rfl rfl (fun _ => rfl) (fun h148 s147 => ?_)))
      have z150 := s147.1
      have z150y := s147.2.1
      have z150w := s147.2.2.2.2 z146w
      refine w_rv ⟨rfl, ?_⟩
      refine w_ra ?_
      have F1 := F112.1
      have F2 := F112.2.1
      have m151 := nw_fr s129 s122.2.2.1 (by omega)
      have m152 := nw_fr s132 m151 (by omega)
      have m153 := st_fr s135 m152 (by omega)
      have m154 := st_fr s139 m153 (by omega)
      have m155 := st_fr s143 m154 (by omega)
      have m156 := st_fr s147 m155 (by omega)
      have m157 := st_fr s135 z133m (by omega)
      have m158 := st_fr s139 m157 (by omega)
      have m159 := st_fr s143 m158 (by omega)
      have m160 := st_fr s147 m159 (by omega)
      have hAn : ∀ j : Int, 0 ≤ j → j < (((w_i wriz113) : Nat) : Int) → 0 ≤ a_g A125 j := fun j j0 j1 => by
        rw [w126 j j0 j1]
        split
        · exact e115 _ (by omega) (by omega)
        · rw [ag_0]; exact Int.le_refl _
      have ivn := rd_fin (me := wriz33) (fe := wriz40) (n := (w_i wriz113)) iv109 (by omega) (by omega) (by omega) (by omega) z150w (by omega) (fun q hq  => (s147.2.2.2.1 q (by omega)).trans ((s143.2.2.2.1 q (by omega)).trans ((s139.2.2.2.1 q (by omega)).trans ((s135.2.2.2.1 q (by omega)).trans ((s132.2.2.2.1 q (by omega)).trans ((s129.2.2.2.1 q (by omega)).trans ((s122.2.2.2.1 q (by omega)).trans ((s118.2.2.2.1 q (by omega)).trans (rfl))))))))) m156 hAn s147.2.2.1 m160
      exact k0 (h108.1 + 1) (o_tx o h108.1 (w_i wriz113)) h148 ivn (fun q hq => by have : ¬ h108.1 ≤ q := (fun z => hq (iv109.2.2.2.1 q z)); unfold o_tx; rw [if_neg (by omega), if_neg (by omega), if_neg (by omega)]) (by show (o_tx o h108.1 (w_i wriz113) (h108.1 + 1)).1 = 110; unfold o_tx; rw [if_neg (by omega), if_pos rfl]) (by omega) (by omega)
    · refine w_nul (w_ra ?_)
      exact k1 h108 iv109 F112
theorem c_text {g : w_G} {o : w_O} {h : m_H} {d : Nat} {Q : Option m_V → m_H → Prop} (iv : w_Inv g o h) (k0 : ∀ (x : Int) (g2 : w_G) (o2 : w_O) (h2 : m_H), w_Inv g2 o2 h2 → w_ch [4] [] g g2 → w_oe o o2 → h2.1 ≤ h.1 + 3 → h2.2.1 ≤ h.2.1 + 200 → Q (some (.inl (w_i x))) h2) (k1 : ∀ (x : Int), ∀ h2 : m_H, w_Inv g o h2 → w_fr o [18, 20, 21, 22] h h2 → -2147483648 ≤ x → x ≤ 2147483647 → Q (some (.inl (w_i x))) h2) : wp (d + 90) 393216 [.inr (.inl (some 0)), .inr (.inr (.inl 0))] [] h Q := by
  have F := fr_rf (o := o) (h := h) (W := [18, 20, 21, 22])
  have W := iv_wc iv
  refine w_run k_393216 (w_al (fun _ => rfl) ?_)
  obtain ⟨_, m1, rfl⟩ := iv_0 iv
  refine w_getf m1 rfl (fun _ => rfl) (w_icI (x := 6) rfl ?_)
  refine w_lt2 (by omega) (by omega) (by omega) (by omega)  (fun c2 => ?_) (fun c2 => ?_)
  · refine w_run k_393228 (w_al (fun _ => rfl) (w_getf m1 rfl (fun _ => rfl) ?_))
    obtain ⟨_, m3, siz3, atp3, tok3, flt3, wri3, rfl, l3_siz, u3_siz, l3_atp, u3_atp, l3_tok, u3_tok, l3_flt, u3_flt, l3_wri, u3_wri, f3_0, f3_1, f3_2, f3_3, f3_4, f3_5, f3_6⟩ := iv_18 iv
    refine w_this (fun _ => rfl) m3 ?_
    refine w_ca (fun _ => rfl) rfl (c_read (d := d) iv     (fun p o h7 iv8 oeq t110 E1 E2 => ⟨_, rfl, ?_⟩) (fun h9 iv10 F11 => ⟨_, rfl, ?_⟩))
    · have Fq := fr_rf (o := o) (h := h7) (W := [18, 20, 21, 22])
      refine w_as (fun _ => rfl) (w_al (fun _ => rfl) (w_ifnn1 (w_run k_393251 ?_)))
      obtain ⟨_, mtx, xme, xfe, xco, xst, rfl, -⟩ := iv_110 iv8 t110
      obtain ⟨_, m12, rfl⟩ := iv_0 iv8
      obtain ⟨_, m13, l13, rfl, ll13, lp13, ln13⟩ := iv_23 iv8
      have z14 := iv8.2.2.2.2.1
      have z14w := iv8.1
      refine w_al (fun _ => rfl) (w_getf m12 rfl (fun _ => rfl) (w_al (fun _ => rfl) (w_getf m12 rfl (fun _ => rfl) (w_al (fun _ => rfl) (w_aastI m13 (by omega) (by omega) (by decide) (isC_of mtx rfl) (fun h16 s15 => ?_))))))
      have z17 := s15.1
      have z17y := s15.2.1
      have z17w := s15.2.2.2.2 z14w
      refine w_al (fun _ => rfl) (w_dup (fun _ => rfl) ?_)
      have m18 := st_fr s15 m12 (by decide)
      refine w_getf m18 rfl (fun _ => rfl) (w_icI (x := 1) rfl (w_op (c := w_i (g_nt g + 1)) (i_add (g_nt g) 1) (w_putf [.inr (.inl (some 1)), .inr (.inl (some 5)), .inl (w_i (g_hi g)), .inr (.inl (some 9)), .inr (.inl (some 17)), .inl (w_i (g_np g)), .inr (.inl (some 18)), .inr (.inl (some 23)), .inl (w_i (g_nt g + 1)), .inr (.inl (some 24)), .inr (.inl (some 25)), .inr (.inl (some 26)), .inr (.inl (some 27))] m18 rfl rfl rfl (fun _ => rfl) (fun h20 s19 => ?_))))
      have z22 := s19.1
      have z22y := s19.2.1
      have z22w := s19.2.2.2.2 z17w
      refine w_al (fun _ => rfl) (w_getf s19.2.2.1 rfl (fun _ => rfl) (w_icI (x := 1) rfl (w_op (c := w_i ((g_nt g + 1) - 1)) (i_sub (g_nt g + 1) 1) (w_ri ?_))))
      have m23 := st_fr s19 s15.2.2.1 (by decide)
      have ivn := tx_fin (e := _) iv8 (by omega) t110 z22w (by omega) (fun q n0 n23 => (s19.2.2.2.1 q n0).trans ((s15.2.2.2.1 q n23).trans (rfl))) s19.2.2.1 rfl m23 ll13 lp13 ln13
      exact k0 _ (g_tx g) o h20 ivn ch_gtx oeq (by omega) (by omega)
    · have F24 := fr_ca F F11 (fun t ht => by exact ht)
      refine w_as (fun _ => rfl) (w_al (fun _ => rfl) (w_ifnn0 (w_icI (x := (-100)) wn_100 (w_al (fun _ => rfl) ?_))))
      have m25 := fr_at F11 m1 iv (ow_0 iv) rfl rfl
      refine w_getf m25 rfl (fun _ => rfl) ?_
      obtain ⟨_, m26, siz26, atp26, tok26, flt26, wri26, rfl, l26_siz, u26_siz, l26_atp, u26_atp, l26_tok, u26_tok, l26_flt, u26_flt, l26_wri, u26_wri, f26_0, f26_1, f26_2, f26_3, f26_4, f26_5, f26_6⟩ := iv_18 iv10
      refine w_getf m26 rfl (fun _ => rfl) (w_opR sub_lt (fun x27 x270 x271 x27e => ?_))
      refine w_ri ?_
      exact k1 x27 h9 iv10 F24 (by omega) (by omega)
  · refine w_icI (x := (-4)) wn_4 (w_ri ?_)
    exact k1 (-4) h iv F (by omega) (by omega)
theorem c_asks {g : w_G} {o : w_O} {h : m_H} {d : Nat} {Q : Option m_V → m_H → Prop} (iv : w_Inv g o h) {pa_ : Int} {st : Int} {wh : Int} (pa__lo : -2147483648 ≤ pa_) (pa__hi : pa_ ≤ 2147483647) (st_lo : -2147483648 ≤ st) (st_hi : st ≤ 2147483647) (wh_lo : -2147483648 ≤ wh) (wh_hi : wh ≤ 2147483647) (k0 : ∀ (x : Int), -2147483648 ≤ x → x ≤ 2147483647 → Q (some (.inl (w_i x))) h) : wp (d + 4) 385024 [.inr (.inl (some 0)), .inl (w_i pa_), .inl (w_i st), .inl (w_i wh), .inr (.inr (.inl 0)), .inr (.inr (.inl 0)), .inr (.inr (.inl 0)), .inr (.inr (.inl 0))] [] h Q := by
  have W := iv_wc iv
  refine w_run k_385024 (w_al (fun _ => rfl) (w_il (fun _ => rfl) ?_))
  obtain ⟨_, m1, rfl⟩ := iv_0 iv
  refine w_this (fun _ => rfl) m1 ?_
  refine w_ca (fun _ => rfl) rfl (c_painterOf (d := (d + 2)) iv (n := pa_) (by omega) (by omega)   (fun b2 => ⟨_, rfl, ?_⟩) (fun p3 b4 b5 b6 => ⟨_, rfl, ?_⟩))
  · refine w_as (fun _ => rfl) (w_al (fun _ => rfl) (w_ifn0 (w_run k_385047 (w_icI (x := (-2)) wn_2 (w_ri ?_)))))
    exact k0 (-2) (by omega) (by omega)
  · have hp2 : ((o p3).2 : Int) = pa_ := by rw [b6]; show ((pa_.toNat : Nat) : Int) = pa_; omega
    have hp3 := congrArg (g_PK g) hp2
    have hp4 := congrArg (g_PN g) hp2
    refine w_as (fun _ => rfl) (w_al (fun _ => rfl) (w_ifn1 (w_il (fun _ => rfl) ?_)))
    refine w_ltz2 (by omega) (by omega)  (fun c7 => ?_) (fun c7 => ?_)
    · refine w_run k_385047 (w_icI (x := (-2)) wn_2 (w_ri ?_))
      exact k0 (-2) (by omega) (by omega)
    · refine w_il (fun _ => rfl) ?_
      refine w_ca (fun _ => rfl) rfl (c_isFlag (d := (d + 3)) iv (n := wh) (by omega) (by omega)   (fun b8 b9 => ⟨_, rfl, ?_⟩) (fun b10 => ⟨_, rfl, ?_⟩))
      · refine w_nezt (by omega) (by omega) (by omega)  (w_run k_385050 (w_il (fun _ => rfl) (w_icI (x := 100) rfl (w_opz (c := w_i (st / 100)) (beq0 (by omega) (by omega) (by omega)) (i_div (by omega) (by omega) (by omega) (by omega)) ?_))))
        have b11 : 0 ≤ (st / 100) ∧ (st / 100) ≤ st := ⟨Int.ediv_nonneg (by omega) (by omega), Int.ediv_le_self _ (by omega)⟩
        refine w_is (fun _ => rfl) (w_il (fun _ => rfl) (w_icI (x := 10) rfl (w_opz (c := w_i (st / 10)) (beq0 (by omega) (by omega) (by omega)) (i_div (by omega) (by omega) (by omega) (by omega)) ?_)))
        have b12 : 0 ≤ (st / 10) ∧ (st / 10) ≤ st := ⟨Int.ediv_nonneg (by omega) (by omega), Int.ediv_le_self _ (by omega)⟩
        refine w_icI (x := 10) rfl (w_opz (c := w_i ((st / 10) % 10)) (beq0 (by omega) (by omega) (by omega)) (i_rem (by omega) (by omega) (by omega) (by omega)) ?_)
        have b13 : 0 ≤ ((st / 10) % 10) ∧ ((st / 10) % 10) < 10 := ⟨Int.emod_nonneg _ (by omega), Int.emod_lt_of_pos _ (by omega)⟩
        refine w_is (fun _ => rfl) (w_il (fun _ => rfl) (w_icI (x := 10) rfl (w_opz (c := w_i (st % 10)) (beq0 (by omega) (by omega) (by omega)) (i_rem (by omega) (by omega) (by omega) (by omega)) ?_)))
        have b14 : 0 ≤ (st % 10) ∧ (st % 10) < 10 := ⟨Int.emod_nonneg _ (by omega), Int.emod_lt_of_pos _ (by omega)⟩
        refine w_is (fun _ => rfl) (w_al (fun _ => rfl) (w_getf m1 rfl (fun _ => rfl) (w_il (fun _ => rfl) ?_)))
        obtain ⟨_, m15, kp15, sp15, rl15, rfl, l15_kp, u15_kp, l15_sp, u15_sp, l15_rl, u15_rl, f15_0, f15_1⟩ := iv_1 iv
        refine w_this (fun _ => rfl) m15 ?_
        refine w_ca (fun _ => rfl) rfl (c_isHouse (d := (d + 3)) iv (n := (st / 100)) (by omega) (by omega)   (fun b16 b17 => ⟨_, rfl, ?_⟩) (fun b18 => ⟨_, rfl, ?_⟩))
        · refine w_eqzf (by omega) (by omega) (by omega)  (w_al (fun _ => rfl) (w_getf m1 rfl (fun _ => rfl) (w_il (fun _ => rfl) (w_this (fun _ => rfl) m15 ?_))))
          refine w_ca (fun _ => rfl) rfl (c_isColour (d := (d + 3)) iv (n := ((st / 10) % 10)) (by omega) (by omega)   (fun b19 b20 => ⟨_, rfl, ?_⟩) (fun b21 => ⟨_, rfl, ?_⟩))
          · refine w_eqzf (by omega) (by omega) (by omega)  (w_al (fun _ => rfl) (w_getf m1 rfl (fun _ => rfl) (w_il (fun _ => rfl) (w_this (fun _ => rfl) m15 ?_))))
            refine w_ca (fun _ => rfl) rfl (c_isColour (d := (d + 3)) iv (n := (st % 10)) (by omega) (by omega)   (fun b22 b23 => ⟨_, rfl, ?_⟩) (fun b24 => ⟨_, rfl, ?_⟩))
            · refine w_eqzf (by omega) (by omega) (by omega)  (w_il (fun _ => rfl) (w_il (fun _ => rfl) ?_))
              refine w_ne2 (by omega) (by omega) (by omega) (by omega)  (fun c25 => ?_) (fun c25 => ?_)
              · refine w_run k_385117 (w_il (fun _ => rfl) (w_icI (x := 1) rfl ?_))
                refine w_ne2 (by omega) (by omega) (by omega) (by omega)  (fun c26 => ?_) (fun c26 => ?_)
                · refine w_run k_385142 (w_icI (x := 0) rfl (w_al (fun _ => rfl) (w_il (fun _ => rfl) (w_il (fun _ => rfl) (w_il (fun _ => rfl) ?_)))))
                  obtain ⟨_, mk27, ck27, rfl, lk27, uk27, nk27, hk27⟩ := iv_120 iv (congrArg Prod.fst b6)
                  rcases hk27 with ⟨kk27, rfl⟩ | ⟨kk27, rfl⟩ | ⟨kk27, rfl⟩ | ⟨kk27, rfl⟩ | ⟨kk27, rfl⟩ | ⟨kk27, rfl⟩
                  · refine w_vc (3, 40960, []) (fun _ => rfl) mk27 (fun _ => rfl) (w_ca (fun _ => rfl) rfl (w_run k_40960 (w_al (fun _ => rfl) (w_getf mk27 rfl (fun _ => rfl) (w_ri ⟨_, rfl, ?_⟩)))))
                    refine w_max (by omega) (by omega) (by omega) (by omega) rfl (fun x28 b29 => ?_)
                    refine w_ri ?_
                    exact k0 x28 (by omega) (by omega)
                  · refine w_vc (8, 282624, []) (fun _ => rfl) mk27 (fun _ => rfl) (w_ca (fun _ => rfl) rfl (w_run k_282624 (w_al (fun _ => rfl) (w_getf mk27 rfl (fun _ => rfl) (w_il (fun _ => rfl) (w_icI (x := 1) rfl (w_op (c := w_i ((st / 100) + 1)) (i_add (st / 100) 1) (w_opR mul_lt (fun x30 x300 x301 x30e => ?_)))))))))
                    refine w_ri ⟨_, rfl, ?_⟩
                    refine w_max (by omega) (by omega) (by omega) (by omega) rfl (fun x31 b32 => ?_)
                    refine w_ri ?_
                    exact k0 x31 (by omega) (by omega)
                  · refine w_vc (7, 270336, []) (fun _ => rfl) mk27 (fun _ => rfl) (w_ca (fun _ => rfl) rfl (w_run k_270336 (w_al (fun _ => rfl) (w_getf mk27 rfl (fun _ => rfl) (w_icI (x := 3) rfl (w_op (c := w_i ((1 + (g_PN g ((o p3).2 : Int))) + 3)) (i_add (1 + (g_PN g ((o p3).2 : Int))) 3) (w_ri ⟨_, rfl, ?_⟩)))))))
                    refine w_max (by omega) (by omega) (by omega) (by omega) rfl (fun x33 b34 => ?_)
                    refine w_ri ?_
                    exact k0 x33 (by omega) (by omega)
                  · refine w_vc (1, 20480, []) (fun _ => rfl) mk27 (fun _ => rfl) (w_ca (fun _ => rfl) rfl (w_run k_20480 (w_al (fun _ => rfl) (w_il (fun _ => rfl) (w_il (fun _ => rfl) (w_il (fun _ => rfl) (w_this (fun _ => rfl) mk27 (w_ca (fun _ => rfl) rfl (w_run k_282624 (w_al (fun _ => rfl) (w_getf mk27 rfl (fun _ => rfl) (w_il (fun _ => rfl) (w_icI (x := 1) rfl (w_op (c := w_i ((st / 100) + 1)) (i_add (st / 100) 1) (w_opR mul_lt (fun x35 x350 x351 x35e => ?_))))))))))))))))
                    refine w_ri ⟨_, rfl, ?_⟩
                    refine w_il (fun _ => rfl) (w_al (fun _ => rfl) (w_getf mk27 rfl (fun _ => rfl) (w_opR mul_lt (fun x36 x360 x361 x36e => ?_))))
                    refine w_opR sub_lt (fun x37 x370 x371 x37e => ?_)
                    refine w_ri ⟨_, rfl, ?_⟩
                    refine w_max (by omega) (by omega) (by omega) (by omega) rfl (fun x38 b39 => ?_)
                    refine w_ri ?_
                    exact k0 x38 (by omega) (by omega)
                  · refine w_vc (2, 32768, []) (fun _ => rfl) mk27 (fun _ => rfl) (w_ca (fun _ => rfl) rfl (w_run k_32768 (w_al (fun _ => rfl) (w_il (fun _ => rfl) (w_il (fun _ => rfl) (w_il (fun _ => rfl) (w_this (fun _ => rfl) mk27 (w_ca (fun _ => rfl) rfl (w_run k_270336 (w_al (fun _ => rfl) (w_getf mk27 rfl (fun _ => rfl) (w_icI (x := 3) rfl (w_op (c := w_i ((1 + (g_PN g ((o p3).2 : Int))) + 3)) (i_add (1 + (g_PN g ((o p3).2 : Int))) 3) (w_ri ⟨_, rfl, ?_⟩))))))))))))))
                    refine w_icI (x := 2) rfl (w_opz (c := w_i (((1 + (g_PN g ((o p3).2 : Int))) + 3) / 2)) (beq0 (by omega) (by omega) (by omega)) (i_div (by omega) (by omega) (by omega) (by omega)) ?_)
                    have b40 : 0 ≤ (((1 + (g_PN g ((o p3).2 : Int))) + 3) / 2) ∧ (((1 + (g_PN g ((o p3).2 : Int))) + 3) / 2) ≤ ((1 + (g_PN g ((o p3).2 : Int))) + 3) := ⟨Int.ediv_nonneg (by omega) (by omega), Int.ediv_le_self _ (by omega)⟩
                    refine w_ri ⟨_, rfl, ?_⟩
                    refine w_max (by omega) (by omega) (by omega) (by omega) rfl (fun x41 b42 => ?_)
                    refine w_ri ?_
                    exact k0 x41 (by omega) (by omega)
                  · refine w_vc (0, 8192, []) (fun _ => rfl) mk27 (fun _ => rfl) (w_ca (fun _ => rfl) rfl (w_run k_8192 (w_al (fun _ => rfl) (w_il (fun _ => rfl) (w_il (fun _ => rfl) (w_il (fun _ => rfl) (w_this (fun _ => rfl) mk27 (w_ca (fun _ => rfl) rfl (w_run k_270336 (w_al (fun _ => rfl) (w_getf mk27 rfl (fun _ => rfl) (w_icI (x := 3) rfl (w_op (c := w_i ((1 + (g_PN g ((o p3).2 : Int))) + 3)) (i_add (1 + (g_PN g ((o p3).2 : Int))) 3) (w_ri ⟨_, rfl, ?_⟩))))))))))))))
                    refine w_il (fun _ => rfl) (w_op (c := w_i (((1 + (g_PN g ((o p3).2 : Int))) + 3) + ((st / 10) % 10))) (i_add ((1 + (g_PN g ((o p3).2 : Int))) + 3) ((st / 10) % 10)) (w_ri ⟨_, rfl, ?_⟩))
                    refine w_max (by omega) (by omega) (by omega) (by omega) rfl (fun x43 b44 => ?_)
                    refine w_ri ?_
                    exact k0 x43 (by omega) (by omega)
                · refine w_al (fun _ => rfl) (w_il (fun _ => rfl) (w_il (fun _ => rfl) (w_il (fun _ => rfl) ?_)))
                  obtain ⟨_, mk45, ck45, rfl, lk45, uk45, nk45, hk45⟩ := iv_120 iv (congrArg Prod.fst b6)
                  rcases hk45 with ⟨kk45, rfl⟩ | ⟨kk45, rfl⟩ | ⟨kk45, rfl⟩ | ⟨kk45, rfl⟩ | ⟨kk45, rfl⟩ | ⟨kk45, rfl⟩
                  · refine w_vc (3, 45056, []) (fun _ => rfl) mk45 (fun _ => rfl) (w_ca (fun _ => rfl) rfl (w_run k_45056 (w_icI (x := 1) rfl (w_rz (by decide) ⟨_, rfl, ?_⟩))))
                    refine w_eqzf (by omega) (by omega) (by omega)  (w_icI (x := 1) rfl (w_go (w_run k_385141 (w_ri ?_))))
                    exact k0 1 (by omega) (by omega)
                  · refine w_vc (8, 45056, []) (fun _ => rfl) mk45 (fun _ => rfl) (w_ca (fun _ => rfl) rfl (w_run k_45056 (w_icI (x := 1) rfl (w_rz (by decide) ⟨_, rfl, ?_⟩))))
                    refine w_eqzf (by omega) (by omega) (by omega)  (w_icI (x := 1) rfl (w_go (w_run k_385141 (w_ri ?_))))
                    exact k0 1 (by omega) (by omega)
                  · refine w_vc (7, 274432, []) (fun _ => rfl) mk45 (fun _ => rfl) (w_ca (fun _ => rfl) rfl (w_run k_274432 (w_il (fun _ => rfl) (w_al (fun _ => rfl) (w_getf mk45 rfl (fun _ => rfl) (w_icI (x := 6) rfl (w_opzR (beq0 (by omega) (by omega) (by omega)) rem_lt (fun x46 x460 x461 x46e => ?_))))))))
                    refine w_eq2 (by omega) (by omega) (by omega) (by omega)  (fun c47 => ?_) (fun c47 => ?_)
                    · refine w_run k_274447 (w_icI (x := 0) rfl (w_rz (by decide) ⟨_, rfl, ?_⟩))
                      refine w_eqzt (by omega) (by omega) (by omega)  (w_run k_385140 (w_icI (x := 0) rfl (w_ri ?_)))
                      exact k0 0 (by omega) (by omega)
                    · refine w_icI (x := 1) rfl (w_go (w_run k_274448 (w_rz (by decide) ⟨_, rfl, ?_⟩)))
                      refine w_eqzf (by omega) (by omega) (by omega)  (w_icI (x := 1) rfl (w_go (w_run k_385141 (w_ri ?_))))
                      exact k0 1 (by omega) (by omega)
                  · refine w_vc (1, 24576, []) (fun _ => rfl) mk45 (fun _ => rfl) (w_ca (fun _ => rfl) rfl (w_run k_24576 (w_il (fun _ => rfl) (w_al (fun _ => rfl) (w_getf mk45 rfl (fun _ => rfl) (w_icI (x := 5) rfl (w_opzR (beq0 (by omega) (by omega) (by omega)) rem_lt (fun x48 x480 x481 x48e => ?_))))))))
                    refine w_eq2 (by omega) (by omega) (by omega) (by omega)  (fun c49 => ?_) (fun c49 => ?_)
                    · refine w_run k_24590 (w_icI (x := 0) rfl (w_rz (by decide) ⟨_, rfl, ?_⟩))
                      refine w_eqzt (by omega) (by omega) (by omega)  (w_run k_385140 (w_icI (x := 0) rfl (w_ri ?_)))
                      exact k0 0 (by omega) (by omega)
                    · refine w_icI (x := 1) rfl (w_go (w_run k_24591 (w_rz (by decide) ⟨_, rfl, ?_⟩)))
                      refine w_eqzf (by omega) (by omega) (by omega)  (w_icI (x := 1) rfl (w_go (w_run k_385141 (w_ri ?_))))
                      exact k0 1 (by omega) (by omega)
                  · refine w_vc (2, 274432, []) (fun _ => rfl) mk45 (fun _ => rfl) (w_ca (fun _ => rfl) rfl (w_run k_274432 (w_il (fun _ => rfl) (w_al (fun _ => rfl) (w_getf mk45 rfl (fun _ => rfl) (w_icI (x := 6) rfl (w_opzR (beq0 (by omega) (by omega) (by omega)) rem_lt (fun x50 x500 x501 x50e => ?_))))))))
                    refine w_eq2 (by omega) (by omega) (by omega) (by omega)  (fun c51 => ?_) (fun c51 => ?_)
                    · refine w_run k_274447 (w_icI (x := 0) rfl (w_rz (by decide) ⟨_, rfl, ?_⟩))
                      refine w_eqzt (by omega) (by omega) (by omega)  (w_run k_385140 (w_icI (x := 0) rfl (w_ri ?_)))
                      exact k0 0 (by omega) (by omega)
                    · refine w_icI (x := 1) rfl (w_go (w_run k_274448 (w_rz (by decide) ⟨_, rfl, ?_⟩)))
                      refine w_eqzf (by omega) (by omega) (by omega)  (w_icI (x := 1) rfl (w_go (w_run k_385141 (w_ri ?_))))
                      exact k0 1 (by omega) (by omega)
                  · refine w_vc (0, 12288, []) (fun _ => rfl) mk45 (fun _ => rfl) (w_ca (fun _ => rfl) rfl (w_run k_12288 (w_al (fun _ => rfl) (w_il (fun _ => rfl) (w_il (fun _ => rfl) (w_il (fun _ => rfl) (w_this (fun _ => rfl) mk45 (w_ca (fun _ => rfl) rfl (w_run k_274432 (w_il (fun _ => rfl) (w_al (fun _ => rfl) (w_getf mk45 rfl (fun _ => rfl) (w_icI (x := 6) rfl (w_opzR (beq0 (by omega) (by omega) (by omega)) rem_lt (fun x52 x520 x521 x52e => ?_)))))))))))))))
                    refine w_eq2 (by omega) (by omega) (by omega) (by omega)  (fun c53 => ?_) (fun c53 => ?_)
                    · refine w_run k_274447 (w_icI (x := 0) rfl (w_rz (by decide) ⟨_, rfl, ?_⟩))
                      refine w_eqzt (by omega) (by omega) (by omega)  (w_run k_12309 (w_icI (x := 0) rfl (w_rz (by decide) ⟨_, rfl, ?_⟩)))
                      refine w_eqzt (by omega) (by omega) (by omega)  (w_run k_385140 (w_icI (x := 0) rfl (w_ri ?_)))
                      exact k0 0 (by omega) (by omega)
                    · refine w_icI (x := 1) rfl (w_go (w_run k_274448 (w_rz (by decide) ⟨_, rfl, ?_⟩)))
                      refine w_eqzf (by omega) (by omega) (by omega)  (w_il (fun _ => rfl) (w_il (fun _ => rfl) (w_icI (x := 1) rfl (w_op (c := w_i (((st / 10) % 10) - 1)) (i_sub ((st / 10) % 10) 1) ?_))))
                      refine w_eq2 (by omega) (by omega) (by omega) (by omega)  (fun c54 => ?_) (fun c54 => ?_)
                      · refine w_run k_12309 (w_icI (x := 0) rfl (w_rz (by decide) ⟨_, rfl, ?_⟩))
                        refine w_eqzt (by omega) (by omega) (by omega)  (w_run k_385140 (w_icI (x := 0) rfl (w_ri ?_)))
                        exact k0 0 (by omega) (by omega)
                      · refine w_icI (x := 1) rfl (w_go (w_run k_12310 (w_rz (by decide) ⟨_, rfl, ?_⟩)))
                        refine w_eqzf (by omega) (by omega) (by omega)  (w_icI (x := 1) rfl (w_go (w_run k_385141 (w_ri ?_))))
                        exact k0 1 (by omega) (by omega)
              · refine w_icI (x := (-2)) wn_2 (w_ri ?_)
                exact k0 (-2) (by omega) (by omega)
            · refine w_eqzt (by omega) (by omega) (by omega)  (w_run k_385114 (w_icI (x := (-2)) wn_2 (w_ri ?_)))
              exact k0 (-2) (by omega) (by omega)
          · refine w_eqzt (by omega) (by omega) (by omega)  (w_run k_385114 (w_icI (x := (-2)) wn_2 (w_ri ?_)))
            exact k0 (-2) (by omega) (by omega)
        · refine w_eqzt (by omega) (by omega) (by omega)  (w_run k_385114 (w_icI (x := (-2)) wn_2 (w_ri ?_)))
          exact k0 (-2) (by omega) (by omega)
      · refine w_nezf (by omega) (by omega) (by omega)  (w_icI (x := (-2)) wn_2 (w_ri ?_))
        exact k0 (-2) (by omega) (by omega)
theorem c_taken {g : w_G} {o : w_O} {h : m_H} {d : Nat} {Q : Option m_V → m_H → Prop} (iv : w_Inv g o h) {pa_ : Int} {kd : Int} (pa__lo : -2147483648 ≤ pa_) (pa__hi : pa_ ≤ 2147483647) (kd_lo : -2147483648 ≤ kd) (kd_hi : kd ≤ 2147483647) (k0 : ∀ (x : Int), -2147483648 ≤ x → x ≤ 2147483647 → w_tk (g_PK g pa_) (g_PN g pa_) (g_np g) pa_ kd x → Q (some (.inl (w_i x))) h) : wp (d + 2) 491520 [.inr (.inl (some 0)), .inl (w_i pa_), .inl (w_i kd), .inr (.inr (.inl 0))] [] h Q := by
  have W := iv_wc iv
  refine w_run k_491520 (w_il (fun _ => rfl) (w_icI (x := 5) rfl ?_))
  refine w_ca (fun _ => rfl) rfl (c_isWithin (d := (d + 1)) iv (n := kd) (most := 5) (by omega) (by omega) (by omega) (by omega)   (fun b1 b2 => ⟨_, rfl, ?_⟩) (fun b3 => ⟨_, rfl, ?_⟩))
  · refine w_nezt (by omega) (by omega) (by omega)  (w_run k_491531 (w_al (fun _ => rfl) (w_il (fun _ => rfl) ?_)))
    obtain ⟨_, m4, rfl⟩ := iv_0 iv
    refine w_this (fun _ => rfl) m4 ?_
    refine w_ca (fun _ => rfl) rfl (c_painterOf (d := d) iv (n := pa_) (by omega) (by omega)   (fun b5 => ⟨_, rfl, ?_⟩) (fun p6 b7 b8 b9 => ⟨_, rfl, ?_⟩))
    · refine w_as (fun _ => rfl) (w_al (fun _ => rfl) (w_ifnn0 (w_icI (x := (-11)) wn_11 (w_ri ?_))))
      exact k0 (-11) (by omega) (by omega) (by unfold w_tk; omega)
    · have hp2 : ((o p6).2 : Int) = pa_ := by rw [b9]; show ((pa_.toNat : Nat) : Int) = pa_; omega
      have hp3 := congrArg (g_PK g) hp2
      have hp4 := congrArg (g_PN g) hp2
      refine w_as (fun _ => rfl) (w_al (fun _ => rfl) (w_ifnn1 (w_run k_491544 (w_al (fun _ => rfl) (w_il (fun _ => rfl) (w_ca (fun _ => rfl) rfl (w_run k_524288 (w_il (fun _ => rfl) ?_))))))))
      by_cases c10 : kd = 1
      · rw [show (kd : Int) = 1 from c10]
        refine w_tsw (t := 524324) (fun _ => rfl) (w_run k_524324 (w_al (fun _ => rfl) ?_))
        obtain ⟨_, mk11, ck11, rfl, lk11, uk11, nk11, hk11⟩ := iv_120 iv (congrArg Prod.fst b9)
        rcases hk11 with ⟨kk11, rfl⟩ | ⟨kk11, rfl⟩ | ⟨kk11, rfl⟩ | ⟨kk11, rfl⟩ | ⟨kk11, rfl⟩ | ⟨kk11, rfl⟩
        · refine w_ins0 mk11 (by decide) (by decide) (w_rz (by decide) ⟨_, rfl, ?_⟩)
          refine w_eqzt (by omega) (by omega) (by omega)  (w_run k_491559 (w_icI (x := (-13)) wn_13 (w_ri ?_)))
          exact k0 (-13) (by omega) (by omega) (by unfold w_tk; omega)
        · refine w_ins1 mk11 (by decide) (w_rz (by decide) ⟨_, rfl, ?_⟩)
          refine w_eqzf (by omega) (by omega) (by omega)  (w_al (fun _ => rfl) (w_getf mk11 rfl (fun _ => rfl) (w_go (w_run k_491561 (w_ri ?_)))))
          exact k0 (g_PN g ((o p6).2 : Int)) (by omega) (by omega) (by unfold w_tk; omega)
        · refine w_ins0 mk11 (by decide) (by decide) (w_rz (by decide) ⟨_, rfl, ?_⟩)
          refine w_eqzt (by omega) (by omega) (by omega)  (w_run k_491559 (w_icI (x := (-13)) wn_13 (w_ri ?_)))
          exact k0 (-13) (by omega) (by omega) (by unfold w_tk; omega)
        · refine w_ins1 mk11 (by decide) (w_rz (by decide) ⟨_, rfl, ?_⟩)
          refine w_eqzf (by omega) (by omega) (by omega)  (w_al (fun _ => rfl) (w_getf mk11 rfl (fun _ => rfl) (w_go (w_run k_491561 (w_ri ?_)))))
          exact k0 (g_PN g ((o p6).2 : Int)) (by omega) (by omega) (by unfold w_tk; omega)
        · refine w_ins0 mk11 (by decide) (by decide) (w_rz (by decide) ⟨_, rfl, ?_⟩)
          refine w_eqzt (by omega) (by omega) (by omega)  (w_run k_491559 (w_icI (x := (-13)) wn_13 (w_ri ?_)))
          exact k0 (-13) (by omega) (by omega) (by unfold w_tk; omega)
        · refine w_ins0 mk11 (by decide) (by decide) (w_rz (by decide) ⟨_, rfl, ?_⟩)
          refine w_eqzt (by omega) (by omega) (by omega)  (w_run k_491559 (w_icI (x := (-13)) wn_13 (w_ri ?_)))
          exact k0 (-13) (by omega) (by omega) (by unfold w_tk; omega)
      by_cases c12 : kd = 2
      · rw [show (kd : Int) = 2 from c12]
        refine w_tsw (t := 524329) (fun _ => rfl) (w_run k_524329 (w_al (fun _ => rfl) ?_))
        obtain ⟨_, mk13, ck13, rfl, lk13, uk13, nk13, hk13⟩ := iv_120 iv (congrArg Prod.fst b9)
        rcases hk13 with ⟨kk13, rfl⟩ | ⟨kk13, rfl⟩ | ⟨kk13, rfl⟩ | ⟨kk13, rfl⟩ | ⟨kk13, rfl⟩ | ⟨kk13, rfl⟩
        · refine w_ins0 mk13 (by decide) (by decide) (w_rz (by decide) ⟨_, rfl, ?_⟩)
          refine w_eqzt (by omega) (by omega) (by omega)  (w_run k_491559 (w_icI (x := (-13)) wn_13 (w_ri ?_)))
          exact k0 (-13) (by omega) (by omega) (by unfold w_tk; omega)
        · refine w_ins0 mk13 (by decide) (by decide) (w_rz (by decide) ⟨_, rfl, ?_⟩)
          refine w_eqzt (by omega) (by omega) (by omega)  (w_run k_491559 (w_icI (x := (-13)) wn_13 (w_ri ?_)))
          exact k0 (-13) (by omega) (by omega) (by unfold w_tk; omega)
        · refine w_ins1 mk13 (by decide) (w_rz (by decide) ⟨_, rfl, ?_⟩)
          refine w_eqzf (by omega) (by omega) (by omega)  (w_al (fun _ => rfl) (w_getf mk13 rfl (fun _ => rfl) (w_go (w_run k_491561 (w_ri ?_)))))
          exact k0 (g_PN g ((o p6).2 : Int)) (by omega) (by omega) (by unfold w_tk; omega)
        · refine w_ins0 mk13 (by decide) (by decide) (w_rz (by decide) ⟨_, rfl, ?_⟩)
          refine w_eqzt (by omega) (by omega) (by omega)  (w_run k_491559 (w_icI (x := (-13)) wn_13 (w_ri ?_)))
          exact k0 (-13) (by omega) (by omega) (by unfold w_tk; omega)
        · refine w_ins1 mk13 (by decide) (w_rz (by decide) ⟨_, rfl, ?_⟩)
          refine w_eqzf (by omega) (by omega) (by omega)  (w_al (fun _ => rfl) (w_getf mk13 rfl (fun _ => rfl) (w_go (w_run k_491561 (w_ri ?_)))))
          exact k0 (g_PN g ((o p6).2 : Int)) (by omega) (by omega) (by unfold w_tk; omega)
        · refine w_ins1 mk13 (by decide) (w_rz (by decide) ⟨_, rfl, ?_⟩)
          refine w_eqzf (by omega) (by omega) (by omega)  (w_al (fun _ => rfl) (w_getf mk13 rfl (fun _ => rfl) (w_go (w_run k_491561 (w_ri ?_)))))
          exact k0 (g_PN g ((o p6).2 : Int)) (by omega) (by omega) (by unfold w_tk; omega)
      by_cases c14 : kd = 3
      · rw [show (kd : Int) = 3 from c14]
        refine w_tsw (t := 524334) (fun _ => rfl) (w_run k_524334 (w_al (fun _ => rfl) ?_))
        obtain ⟨_, mk15, ck15, rfl, lk15, uk15, nk15, hk15⟩ := iv_120 iv (congrArg Prod.fst b9)
        rcases hk15 with ⟨kk15, rfl⟩ | ⟨kk15, rfl⟩ | ⟨kk15, rfl⟩ | ⟨kk15, rfl⟩ | ⟨kk15, rfl⟩ | ⟨kk15, rfl⟩
        · refine w_ins0 mk15 (by decide) (by decide) (w_rz (by decide) ⟨_, rfl, ?_⟩)
          refine w_eqzt (by omega) (by omega) (by omega)  (w_run k_491559 (w_icI (x := (-13)) wn_13 (w_ri ?_)))
          exact k0 (-13) (by omega) (by omega) (by unfold w_tk; omega)
        · refine w_ins0 mk15 (by decide) (by decide) (w_rz (by decide) ⟨_, rfl, ?_⟩)
          refine w_eqzt (by omega) (by omega) (by omega)  (w_run k_491559 (w_icI (x := (-13)) wn_13 (w_ri ?_)))
          exact k0 (-13) (by omega) (by omega) (by unfold w_tk; omega)
        · refine w_ins0 mk15 (by decide) (by decide) (w_rz (by decide) ⟨_, rfl, ?_⟩)
          refine w_eqzt (by omega) (by omega) (by omega)  (w_run k_491559 (w_icI (x := (-13)) wn_13 (w_ri ?_)))
          exact k0 (-13) (by omega) (by omega) (by unfold w_tk; omega)
        · refine w_ins1 mk15 (by decide) (w_rz (by decide) ⟨_, rfl, ?_⟩)
          refine w_eqzf (by omega) (by omega) (by omega)  (w_al (fun _ => rfl) (w_getf mk15 rfl (fun _ => rfl) (w_go (w_run k_491561 (w_ri ?_)))))
          exact k0 (g_PN g ((o p6).2 : Int)) (by omega) (by omega) (by unfold w_tk; omega)
        · refine w_ins0 mk15 (by decide) (by decide) (w_rz (by decide) ⟨_, rfl, ?_⟩)
          refine w_eqzt (by omega) (by omega) (by omega)  (w_run k_491559 (w_icI (x := (-13)) wn_13 (w_ri ?_)))
          exact k0 (-13) (by omega) (by omega) (by unfold w_tk; omega)
        · refine w_ins0 mk15 (by decide) (by decide) (w_rz (by decide) ⟨_, rfl, ?_⟩)
          refine w_eqzt (by omega) (by omega) (by omega)  (w_run k_491559 (w_icI (x := (-13)) wn_13 (w_ri ?_)))
          exact k0 (-13) (by omega) (by omega) (by unfold w_tk; omega)
      by_cases c16 : kd = 4
      · rw [show (kd : Int) = 4 from c16]
        refine w_tsw (t := 524339) (fun _ => rfl) (w_run k_524339 (w_al (fun _ => rfl) ?_))
        obtain ⟨_, mk17, ck17, rfl, lk17, uk17, nk17, hk17⟩ := iv_120 iv (congrArg Prod.fst b9)
        rcases hk17 with ⟨kk17, rfl⟩ | ⟨kk17, rfl⟩ | ⟨kk17, rfl⟩ | ⟨kk17, rfl⟩ | ⟨kk17, rfl⟩ | ⟨kk17, rfl⟩
        · refine w_ins0 mk17 (by decide) (by decide) (w_rz (by decide) ⟨_, rfl, ?_⟩)
          refine w_eqzt (by omega) (by omega) (by omega)  (w_run k_491559 (w_icI (x := (-13)) wn_13 (w_ri ?_)))
          exact k0 (-13) (by omega) (by omega) (by unfold w_tk; omega)
        · refine w_ins0 mk17 (by decide) (by decide) (w_rz (by decide) ⟨_, rfl, ?_⟩)
          refine w_eqzt (by omega) (by omega) (by omega)  (w_run k_491559 (w_icI (x := (-13)) wn_13 (w_ri ?_)))
          exact k0 (-13) (by omega) (by omega) (by unfold w_tk; omega)
        · refine w_ins0 mk17 (by decide) (by decide) (w_rz (by decide) ⟨_, rfl, ?_⟩)
          refine w_eqzt (by omega) (by omega) (by omega)  (w_run k_491559 (w_icI (x := (-13)) wn_13 (w_ri ?_)))
          exact k0 (-13) (by omega) (by omega) (by unfold w_tk; omega)
        · refine w_ins0 mk17 (by decide) (by decide) (w_rz (by decide) ⟨_, rfl, ?_⟩)
          refine w_eqzt (by omega) (by omega) (by omega)  (w_run k_491559 (w_icI (x := (-13)) wn_13 (w_ri ?_)))
          exact k0 (-13) (by omega) (by omega) (by unfold w_tk; omega)
        · refine w_ins1 mk17 (by decide) (w_rz (by decide) ⟨_, rfl, ?_⟩)
          refine w_eqzf (by omega) (by omega) (by omega)  (w_al (fun _ => rfl) (w_getf mk17 rfl (fun _ => rfl) (w_go (w_run k_491561 (w_ri ?_)))))
          exact k0 (g_PN g ((o p6).2 : Int)) (by omega) (by omega) (by unfold w_tk; omega)
        · refine w_ins0 mk17 (by decide) (by decide) (w_rz (by decide) ⟨_, rfl, ?_⟩)
          refine w_eqzt (by omega) (by omega) (by omega)  (w_run k_491559 (w_icI (x := (-13)) wn_13 (w_ri ?_)))
          exact k0 (-13) (by omega) (by omega) (by unfold w_tk; omega)
      by_cases c18 : kd = 5
      · rw [show (kd : Int) = 5 from c18]
        refine w_tsw (t := 524344) (fun _ => rfl) (w_run k_524344 (w_al (fun _ => rfl) ?_))
        obtain ⟨_, mk19, ck19, rfl, lk19, uk19, nk19, hk19⟩ := iv_120 iv (congrArg Prod.fst b9)
        rcases hk19 with ⟨kk19, rfl⟩ | ⟨kk19, rfl⟩ | ⟨kk19, rfl⟩ | ⟨kk19, rfl⟩ | ⟨kk19, rfl⟩ | ⟨kk19, rfl⟩
        · refine w_ins0 mk19 (by decide) (by decide) (w_rz (by decide) ⟨_, rfl, ?_⟩)
          refine w_eqzt (by omega) (by omega) (by omega)  (w_run k_491559 (w_icI (x := (-13)) wn_13 (w_ri ?_)))
          exact k0 (-13) (by omega) (by omega) (by unfold w_tk; omega)
        · refine w_ins0 mk19 (by decide) (by decide) (w_rz (by decide) ⟨_, rfl, ?_⟩)
          refine w_eqzt (by omega) (by omega) (by omega)  (w_run k_491559 (w_icI (x := (-13)) wn_13 (w_ri ?_)))
          exact k0 (-13) (by omega) (by omega) (by unfold w_tk; omega)
        · refine w_ins0 mk19 (by decide) (by decide) (w_rz (by decide) ⟨_, rfl, ?_⟩)
          refine w_eqzt (by omega) (by omega) (by omega)  (w_run k_491559 (w_icI (x := (-13)) wn_13 (w_ri ?_)))
          exact k0 (-13) (by omega) (by omega) (by unfold w_tk; omega)
        · refine w_ins0 mk19 (by decide) (by decide) (w_rz (by decide) ⟨_, rfl, ?_⟩)
          refine w_eqzt (by omega) (by omega) (by omega)  (w_run k_491559 (w_icI (x := (-13)) wn_13 (w_ri ?_)))
          exact k0 (-13) (by omega) (by omega) (by unfold w_tk; omega)
        · refine w_ins0 mk19 (by decide) (by decide) (w_rz (by decide) ⟨_, rfl, ?_⟩)
          refine w_eqzt (by omega) (by omega) (by omega)  (w_run k_491559 (w_icI (x := (-13)) wn_13 (w_ri ?_)))
          exact k0 (-13) (by omega) (by omega) (by unfold w_tk; omega)
        · refine w_ins1 mk19 (by decide) (w_rz (by decide) ⟨_, rfl, ?_⟩)
          refine w_eqzf (by omega) (by omega) (by omega)  (w_al (fun _ => rfl) (w_getf mk19 rfl (fun _ => rfl) (w_go (w_run k_491561 (w_ri ?_)))))
          exact k0 (g_PN g ((o p6).2 : Int)) (by omega) (by omega) (by unfold w_tk; omega)
      refine w_tswL (by omega) (by omega) (by show _ < ((1 : Nat) : Int) ∨ ((6 : Nat) : Int) ≤ _; omega) (by decide) (w_run k_524349 (w_icI (x := 1) rfl (w_rz (by decide) ⟨_, rfl, ?_⟩)))
      refine w_eqzf (by omega) (by omega) (by omega)  (w_al (fun _ => rfl) ?_)
      obtain ⟨_, mk20, ck20, rfl, lk20, uk20, nk20, hk20⟩ := iv_120 iv (congrArg Prod.fst b9)
      rcases hk20 with ⟨kk20, rfl⟩ | ⟨kk20, rfl⟩ | ⟨kk20, rfl⟩ | ⟨kk20, rfl⟩ | ⟨kk20, rfl⟩ | ⟨kk20, rfl⟩
      · refine w_getf mk20 rfl (fun _ => rfl) (w_go (w_run k_491561 (w_ri ?_)))
        exact k0 (g_PN g ((o p6).2 : Int)) (by omega) (by omega) (by unfold w_tk; omega)
      · refine w_getf mk20 rfl (fun _ => rfl) (w_go (w_run k_491561 (w_ri ?_)))
        exact k0 (g_PN g ((o p6).2 : Int)) (by omega) (by omega) (by unfold w_tk; omega)
      · refine w_getf mk20 rfl (fun _ => rfl) (w_go (w_run k_491561 (w_ri ?_)))
        exact k0 (g_PN g ((o p6).2 : Int)) (by omega) (by omega) (by unfold w_tk; omega)
      · refine w_getf mk20 rfl (fun _ => rfl) (w_go (w_run k_491561 (w_ri ?_)))
        exact k0 (g_PN g ((o p6).2 : Int)) (by omega) (by omega) (by unfold w_tk; omega)
      · refine w_getf mk20 rfl (fun _ => rfl) (w_go (w_run k_491561 (w_ri ?_)))
        exact k0 (g_PN g ((o p6).2 : Int)) (by omega) (by omega) (by unfold w_tk; omega)
      · refine w_getf mk20 rfl (fun _ => rfl) (w_go (w_run k_491561 (w_ri ?_)))
        exact k0 (g_PN g ((o p6).2 : Int)) (by omega) (by omega) (by unfold w_tk; omega)
  · refine w_nezf (by omega) (by omega) (by omega)  (w_icI (x := (-2)) wn_2 (w_ri ?_))
    exact k0 (-2) (by omega) (by omega) (by unfold w_tk; omega)
