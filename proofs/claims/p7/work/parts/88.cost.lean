theorem k_172043 : m_cg 172043 = g_42_11 := rfl
theorem k_172075 : m_cg 172075 = g_42_43 := rfl
theorem l_spread_11 {g : w_G} {o : w_O} {h0 : m_H} {d : Nat} {Q : Option m_V → m_H → Prop} {fro : Int} {how : Int} (fro_lo : -2147483648 ≤ fro) (fro_hi : fro ≤ 2147483647) (how_lo : -2147483648 ≤ how) (how_hi : how ≤ 2147483647) (hL : g_N g ≤ g_L g) (q0_ : 0 ≤ fro) (q1_ : fro < g_N g) (w0 : 0 ≤ how) (w1 : how ≤ 1) (k0 : ∀ h2 : m_H, w_Inv g o h2 → w_fr o [9, 11, 100, 101, 102] h0 h2 → w_SF g o h2 1 → Q none h2) : ∀ (k : Nat) (h : m_H) (i : Int) (iv : w_Inv g o h) (F : w_fr o [9, 11, 100, 101, 102] h0 h) (sf1 : w_SF g o h 1) (i_lo : -2147483648 ≤ i) (i_hi : i ≤ 2147483647) (i0 : 0 ≤ i) (i1 : i ≤ 4096), 4096 - i < (k : Int) → wp (d + 3) 172043 [.inr (.inl (some 9)), .inl (w_i fro), .inl (w_i how), .inl (w_i i)] [] h Q := by
  intro k
  induction k with
  | zero => intro h i iv F sf1 i_lo i_hi i0 i1 hk; exact absurd hk (by omega)
  | succ k ih =>
    intro h i iv F sf1 i_lo i_hi i0 i1 hk
    have W := iv_wc iv
    have Wo := iv_wo iv
    refine w_run k_172043 (w_il (fun _ => rfl) (w_al (fun _ => rfl) ?_))
    obtain ⟨_, m1, kpr1, sta1, fnd1, kco1, rfl, l1_kpr, u1_kpr, l1_sta, u1_sta, l1_fnd, u1_fnd, l1_kco, u1_kco, f1_0, f1_1, f1_2, f1_3, f1_4, f1_5, f1_6⟩ := iv_9 iv
    refine w_getf m1 rfl (fun _ => rfl) ?_
    refine w_ge2 (by omega) (by omega) (by omega) (by omega)  (fun c2 => ?_) (fun c2 => ?_)
    · refine w_run k_172075 (w_rv ?_)
      exact k0 h iv F sf1
    · refine w_il (fun _ => rfl) (w_icI (x := 4096) rfl (w_gef (by omega) (by omega) (by omega) (by omega) (by omega)  (w_al (fun _ => rfl) (w_al (fun _ => rfl) (w_getf m1 rfl (fun _ => rfl) (w_il (fun _ => rfl) ?_))))))
      obtain ⟨_, m3, A3, rfl, e3, g3_0⟩ := iv_100 iv (ow_rw iv)
      refine w_aldI m3 (by omega) (by omega) (by omega) ?_
      obtain ⟨b4, b5⟩ := ag_rg A3 i
      have e6 := e3 i (by omega) (by omega)
      refine w_il (fun _ => rfl) (w_this (fun _ => rfl) m1 ?_)
      refine w_cv (fun _ => rfl) rfl (c_widenM (d := d) iv (fro := (a_g A3 i)) (how := how) (by omega) (by omega) (by omega) (by omega) (by omega) (by omega) (by omega) (by omega) sf1 (fun h7 iv8 F9 b10 => ⟨rfl, ?_⟩))
      have F11 := fr_ca F F9 (fun t ht => by exact ht)
      refine w_inc (c := w_i (i + 1)) (fun _ => rfl) (i_addL (y := 1) rfl i) (fun _ => rfl) (w_go ?_)
      exact ih h7 (i + 1) iv8 F11 b10 (by omega) (by omega)  (by omega) (by omega) (by omega)
theorem k_172032 : m_cg 172032 = g_42_0 := rfl
theorem c_spread {g : w_G} {o : w_O} {h : m_H} {d : Nat} {Q : Option m_V → m_H → Prop} (iv : w_Inv g o h) {fro : Int} {how : Int} (fro_lo : -2147483648 ≤ fro) (fro_hi : fro ≤ 2147483647) (how_lo : -2147483648 ≤ how) (how_hi : how ≤ 2147483647) (hL : g_N g ≤ g_L g) (q0_ : 0 ≤ fro) (q1_ : fro < g_N g) (w0 : 0 ≤ how) (w1 : how ≤ 1) (sf0 : w_SF g o h 0) (k0 : ∀ h2 : m_H, w_Inv g o h2 → w_fr o [9, 11, 100, 101, 102] h h2 → w_SF g o h2 1 → Q none h2) : wp (d + 3) 172032 [.inr (.inl (some 9)), .inl (w_i fro), .inl (w_i how), .inr (.inr (.inl 0))] [] h Q := by
  have F := fr_rf (o := o) (h := h) (W := [9, 11, 100, 101, 102])
  have W := iv_wc iv
  have Wo := iv_wo iv
  refine w_run k_172032 (w_al (fun _ => rfl) ?_)
  obtain ⟨_, m1, kpr1, sta1, fnd1, kco1, rfl, l1_kpr, u1_kpr, l1_sta, u1_sta, l1_fnd, u1_fnd, l1_kco, u1_kco, f1_0, f1_1, f1_2, f1_3, f1_4, f1_5, f1_6⟩ := iv_9 iv
  refine w_getf m1 rfl (fun _ => rfl) (w_is (fun _ => rfl) (w_al (fun _ => rfl) (w_icI (x := (-1)) wn_1 (w_il (fun _ => rfl) (w_this (fun _ => rfl) m1 ?_)))))
  refine w_cv (fun _ => rfl) rfl (c_meet (d := (d + 1)) iv (fro := (-1)) (to := fro) (by omega) (by omega) (by omega) (by omega) (by omega) sf0 (fun h2 iv3 F4 b5 b6 => ⟨rfl, ?_⟩))
  have F7 := fr_ca F F4 (fun t ht => by simp at ht ⊢; omega)
  refine w_nur k_172043 ?_
  exact l_spread_11     fro_lo fro_hi how_lo how_hi hL q0_ q1_ w0 w1    k0 (4096 - fnd1 + 1 : Int).toNat h2 fnd1 iv3 F7 (b6 (by omega) (by omega)) (by omega) (by omega)  (by omega) (by omega) (by omega)
theorem k_221192 : m_cg 221192 = g_54_8 := rfl
theorem k_221270 : m_cg 221270 = g_54_86 := rfl
theorem k_221242 : m_cg 221242 = g_54_58 := rfl
theorem l_stepBetween_8 {g : w_G} {o : w_O} {h : m_H} {d : Nat} {Q : Option m_V → m_H → Prop} (iv : w_Inv g o h) {fro : Int} {to : Int} (fro_lo : -2147483648 ≤ fro) (fro_hi : fro ≤ 2147483647) (to_lo : -2147483648 ≤ to) (to_hi : to ≤ 2147483647) (k0 : ∀ (x : Int), -2147483648 ≤ x → x ≤ 2147483647 → Q (some (.inl (w_i x))) h) : ∀ (k : Nat) (f t ho : Int) (f_lo : -2147483648 ≤ f) (f_hi : f ≤ 2147483647) (t_lo : -2147483648 ≤ t) (t_hi : t ≤ 2147483647) (ho_lo : -2147483648 ≤ ho) (ho_hi : ho ≤ 2147483647) (h0_ : 0 ≤ ho) (h1_ : ho ≤ g_H g), g_H g - ho < (k : Int) → wp d 221192 [.inr (.inl (some 9)), .inl (w_i fro), .inl (w_i to), .inl (w_i f), .inl (w_i t), .inl (w_i ho)] [] h Q := by
  intro k
  induction k with
  | zero => intro f t ho f_lo f_hi t_lo t_hi ho_lo ho_hi h0_ h1_ hk; exact absurd hk (by omega)
  | succ k ih =>
    intro f t ho f_lo f_hi t_lo t_hi ho_lo ho_hi h0_ h1_ hk
    have W := iv_wc iv
    refine w_run k_221192 (w_il (fun _ => rfl) (w_al (fun _ => rfl) ?_))
    obtain ⟨_, m1, kpr1, sta1, fnd1, kco1, rfl, l1_kpr, u1_kpr, l1_sta, u1_sta, l1_fnd, u1_fnd, l1_kco, u1_kco, f1_0, f1_1, f1_2, f1_3, f1_4, f1_5, f1_6⟩ := iv_9 iv
    refine w_getf m1 rfl (fun _ => rfl) ?_
    obtain ⟨_, m2, kp2, sp2, rl2, rfl, l2_kp, u2_kp, l2_sp, u2_sp, l2_rl, u2_rl, f2_0, f2_1⟩ := iv_1 iv
    refine w_getf m2 rfl (fun _ => rfl) ?_
    refine w_ge2 (by omega) (by omega) (by omega) (by omega)  (fun c3 => ?_) (fun c3 => ?_)
    · refine w_run k_221270 (w_icI (x := (-1)) wn_1 (w_ri ?_))
      exact k0 (-1) (by omega) (by omega)
    · refine w_il (fun _ => rfl) (w_al (fun _ => rfl) (w_getf m1 rfl (fun _ => rfl) (w_getf m2 rfl (fun _ => rfl) (w_opzR (beq0 (by omega) (by omega) (by omega)) rem_lt (fun x4 x40 x41 x4e => ?_)))))
      refine w_il (fun _ => rfl) (w_al (fun _ => rfl) (w_getf m1 rfl (fun _ => rfl) (w_getf m2 rfl (fun _ => rfl) (w_opzR (beq0 (by omega) (by omega) (by omega)) rem_lt (fun x5 x50 x51 x5e => ?_)))))
      refine w_eq2 (by omega) (by omega) (by omega) (by omega)  (fun c6 => ?_) (fun c6 => ?_)
      · refine w_run k_221242 (w_il (fun _ => rfl) (w_al (fun _ => rfl) (w_getf m1 rfl (fun _ => rfl) (w_getf m2 rfl (fun _ => rfl) (w_opzR (beq0 (by omega) (by omega) (by omega)) div_lt (fun x7 x70 x71 x7e => ?_))))))
        refine w_is (fun _ => rfl) (w_il (fun _ => rfl) (w_al (fun _ => rfl) (w_getf m1 rfl (fun _ => rfl) (w_getf m2 rfl (fun _ => rfl) (w_opzR (beq0 (by omega) (by omega) (by omega)) div_lt (fun x8 x80 x81 x8e => ?_))))))
        refine w_is (fun _ => rfl) (w_inc (c := w_i (ho + 1)) (fun _ => rfl) (i_addL (y := 1) rfl ho) (fun _ => rfl) (w_go ?_))
        exact ih x7 x8 (ho + 1) (by omega) (by omega) (by omega) (by omega) (by omega) (by omega)  (by omega) (by omega) (by omega)
      · refine w_icI (x := 5) rfl (w_il (fun _ => rfl) (w_op (c := w_i (5 * ho)) (i_mul 5 ho) (w_il (fun _ => rfl) (w_al (fun _ => rfl) (w_getf m1 rfl (fun _ => rfl) (w_getf m2 rfl (fun _ => rfl) (w_opzR (beq0 (by omega) (by omega) (by omega)) rem_lt (fun x9 x90 x91 x9e => ?_))))))))
        refine w_opR add_lt (fun x10 x100 x101 x10e => ?_)
        refine w_ri ?_
        exact k0 x10 (by omega) (by omega)
theorem k_221184 : m_cg 221184 = g_54_0 := rfl
theorem c_stepBetween {g : w_G} {o : w_O} {h : m_H} {d : Nat} {Q : Option m_V → m_H → Prop} (iv : w_Inv g o h) {fro : Int} {to : Int} (fro_lo : -2147483648 ≤ fro) (fro_hi : fro ≤ 2147483647) (to_lo : -2147483648 ≤ to) (to_hi : to ≤ 2147483647) (k0 : ∀ (x : Int), -2147483648 ≤ x → x ≤ 2147483647 → Q (some (.inl (w_i x))) h) : wp d 221184 [.inr (.inl (some 9)), .inl (w_i fro), .inl (w_i to), .inr (.inr (.inl 0)), .inr (.inr (.inl 0)), .inr (.inr (.inl 0))] [] h Q := by
  have W := iv_wc iv
  refine w_run k_221184 (w_il (fun _ => rfl) (w_is (fun _ => rfl) (w_il (fun _ => rfl) (w_is (fun _ => rfl) (w_icI (x := 0) rfl (w_is (fun _ => rfl) (w_nur k_221192 ?_)))))))
  exact l_stepBetween_8 iv    fro_lo fro_hi to_lo to_hi     k0 (g_H g - 0 + 1 : Int).toNat fro to 0 (by omega) (by omega) (by omega) (by omega) (by omega) (by omega)  (by omega) (by omega) (by omega)
theorem k_217113 : m_cg 217113 = g_53_25 := rfl
theorem k_217146 : m_cg 217146 = g_53_58 := rfl
theorem k_217175 : m_cg 217175 = g_53_87 := rfl
theorem k_217174 : m_cg 217174 = g_53_86 := rfl
theorem l_rowStep_25 {g : w_G} {o : w_O} {h : m_H} {d : Nat} {Q : Option m_V → m_H → Prop} (iv : w_Inv g o h) {to : Int} {i_ : Int} (to_lo : -2147483648 ≤ to) (to_hi : to ≤ 2147483647) (i__lo : -2147483648 ≤ i_) (i__hi : i_ ≤ 2147483647) (hL : g_N g ≤ g_L g) (k0 : ∀ (x : Int), -2147483648 ≤ x → x ≤ 2147483647 → Q (some (.inl (w_i x))) h) : ∀ (k : Nat) (len at_ k_ : Int) (len_lo : -2147483648 ≤ len) (len_hi : len ≤ 2147483647) (at__lo : -2147483648 ≤ at_) (at__hi : at_ ≤ 2147483647) (k__lo : -2147483648 ≤ k_) (k__hi : k_ ≤ 2147483647) (k0_ : i_ - 1 ≤ k_) (i0_ : 0 ≤ i_), k_ - i_ + 1 < (k : Int) → wp (d + 2) 217113 [.inr (.inl (some 9)), .inl (w_i to), .inl (w_i i_), .inl (w_i len), .inl (w_i at_), .inl (w_i k_)] [] h Q := by
  intro k
  induction k with
  | zero => intro len at_ k_ len_lo len_hi at__lo at__hi k__lo k__hi k0_ i0_ hk; exact absurd hk (by omega)
  | succ k ih =>
    intro len at_ k_ len_lo len_hi at__lo at__hi k__lo k__hi k0_ i0_ hk
    have W := iv_wc iv
    have Wo := iv_wo iv
    refine w_run k_217113 (w_il (fun _ => rfl) (w_il (fun _ => rfl) ?_))
    refine w_le2 (by omega) (by omega) (by omega) (by omega)  (fun c1 => ?_) (fun c1 => ?_)
    · refine w_run k_217146 (w_al (fun _ => rfl) ?_)
      obtain ⟨_, m2, kpr2, sta2, fnd2, kco2, rfl, l2_kpr, u2_kpr, l2_sta, u2_sta, l2_fnd, u2_fnd, l2_kco, u2_kco, f2_0, f2_1, f2_2, f2_3, f2_4, f2_5, f2_6⟩ := iv_9 iv
      refine w_getf m2 rfl (fun _ => rfl) (w_il (fun _ => rfl) ?_)
      obtain ⟨_, m3, kp3, sp3, rl3, rfl, l3_kp, u3_kp, l3_sp, u3_sp, l3_rl, u3_rl, f3_0, f3_1⟩ := iv_1 iv
      refine w_this (fun _ => rfl) m3 ?_
      refine w_ca (fun _ => rfl) rfl (c_isTown (d := (d + 1)) iv (n := at_) (by omega) (by omega)   (fun b4 b5 => ⟨_, rfl, ?_⟩) (fun b6 => ⟨_, rfl, ?_⟩))
      · refine w_eqzf (by omega) (by omega) (by omega)  (w_al (fun _ => rfl) (w_al (fun _ => rfl) (w_getf m2 rfl (fun _ => rfl) (w_il (fun _ => rfl) ?_))))
        obtain ⟨_, m7, A7, rfl, g7_0⟩ := iv_102 iv (ow_ahd iv)
        refine w_aldI m7 (by omega) (by omega) (by omega) ?_
        obtain ⟨b8, b9⟩ := ag_rg A7 at_
        refine w_il (fun _ => rfl) (w_this (fun _ => rfl) m2 ?_)
        refine w_ca (fun _ => rfl) rfl (c_stepBetween (d := (d + 1)) iv (fro := (a_g A7 at_)) (to := at_) (by omega) (by omega) (by omega) (by omega)   (fun y10 b11 b12 => ⟨_, rfl, ?_⟩))
        refine w_go (w_run k_217175 (w_ri ?_))
        exact k0 y10 (by omega) (by omega)
      · refine w_eqzt (by omega) (by omega) (by omega)  (w_run k_217174 (w_icI (x := (-1)) wn_1 (w_ri ?_)))
        exact k0 (-1) (by omega) (by omega)
    · refine w_al (fun _ => rfl) ?_
      obtain ⟨_, m13, kpr13, sta13, fnd13, kco13, rfl, l13_kpr, u13_kpr, l13_sta, u13_sta, l13_fnd, u13_fnd, l13_kco, u13_kco, f13_0, f13_1, f13_2, f13_3, f13_4, f13_5, f13_6⟩ := iv_9 iv
      refine w_getf m13 rfl (fun _ => rfl) (w_il (fun _ => rfl) ?_)
      obtain ⟨_, m14, kp14, sp14, rl14, rfl, l14_kp, u14_kp, l14_sp, u14_sp, l14_rl, u14_rl, f14_0, f14_1⟩ := iv_1 iv
      refine w_this (fun _ => rfl) m14 ?_
      refine w_ca (fun _ => rfl) rfl (c_isTown (d := (d + 1)) iv (n := at_) (by omega) (by omega)   (fun b15 b16 => ⟨_, rfl, ?_⟩) (fun b17 => ⟨_, rfl, ?_⟩))
      · refine w_eqzf (by omega) (by omega) (by omega)  (w_al (fun _ => rfl) (w_getf m13 rfl (fun _ => rfl) (w_il (fun _ => rfl) ?_)))
        obtain ⟨_, m18, A18, rfl, g18_0⟩ := iv_102 iv (ow_ahd iv)
        refine w_aldI m18 (by omega) (by omega) (by omega) ?_
        obtain ⟨b19, b20⟩ := ag_rg A18 at_
        refine w_is (fun _ => rfl) (w_inc (c := w_i (k_ + (-1))) (fun _ => rfl) (i_addL (y := (-1)) wn_1 k_) (fun _ => rfl) (w_go ?_))
        exact ih len (a_g A18 at_) (k_ + (-1)) (by omega) (by omega) (by omega) (by omega) (by omega) (by omega)  (by omega) (by omega) (by omega)
      · refine w_eqzt (by omega) (by omega) (by omega)  (w_run k_217146 (w_al (fun _ => rfl) (w_getf m13 rfl (fun _ => rfl) (w_il (fun _ => rfl) (w_this (fun _ => rfl) m14 ?_)))))
        refine w_ca (fun _ => rfl) rfl (c_isTown (d := (d + 1)) iv (n := at_) (by omega) (by omega)   (fun b21 b22 => ⟨_, rfl, ?_⟩) (fun b23 => ⟨_, rfl, ?_⟩))
        · refine w_eqzf (by omega) (by omega) (by omega)  (w_al (fun _ => rfl) (w_al (fun _ => rfl) (w_getf m13 rfl (fun _ => rfl) (w_il (fun _ => rfl) ?_))))
          obtain ⟨_, m24, A24, rfl, g24_0⟩ := iv_102 iv (ow_ahd iv)
          refine w_aldI m24 (by omega) (by omega) (by omega) ?_
          obtain ⟨b25, b26⟩ := ag_rg A24 at_
          refine w_il (fun _ => rfl) (w_this (fun _ => rfl) m13 ?_)
          refine w_ca (fun _ => rfl) rfl (c_stepBetween (d := (d + 1)) iv (fro := (a_g A24 at_)) (to := at_) (by omega) (by omega) (by omega) (by omega)   (fun y27 b28 b29 => ⟨_, rfl, ?_⟩))
          refine w_go (w_run k_217175 (w_ri ?_))
          exact k0 y27 (by omega) (by omega)
        · refine w_eqzt (by omega) (by omega) (by omega)  (w_run k_217174 (w_icI (x := (-1)) wn_1 (w_ri ?_)))
          exact k0 (-1) (by omega) (by omega)
theorem k_217088 : m_cg 217088 = g_53_0 := rfl
theorem k_217103 : m_cg 217103 = g_53_15 := rfl
theorem k_217105 : m_cg 217105 = g_53_17 := rfl
theorem c_rowStep {g : w_G} {o : w_O} {h : m_H} {d : Nat} {Q : Option m_V → m_H → Prop} (iv : w_Inv g o h) {to : Int} {i_ : Int} (to_lo : -2147483648 ≤ to) (to_hi : to ≤ 2147483647) (i__lo : -2147483648 ≤ i_) (i__hi : i_ ≤ 2147483647) (hL : g_N g ≤ g_L g) (k0 : ∀ (x : Int), -2147483648 ≤ x → x ≤ 2147483647 → Q (some (.inl (w_i x))) h) : wp (d + 2) 217088 [.inr (.inl (some 9)), .inl (w_i to), .inl (w_i i_), .inr (.inr (.inl 0)), .inr (.inr (.inl 0)), .inr (.inr (.inl 0))] [] h Q := by
  have W := iv_wc iv
  have Wo := iv_wo iv
  refine w_run k_217088 (w_al (fun _ => rfl) (w_il (fun _ => rfl) ?_))
  obtain ⟨_, m1, kpr1, sta1, fnd1, kco1, rfl, l1_kpr, u1_kpr, l1_sta, u1_sta, l1_fnd, u1_fnd, l1_kco, u1_kco, f1_0, f1_1, f1_2, f1_3, f1_4, f1_5, f1_6⟩ := iv_9 iv
  refine w_this (fun _ => rfl) m1 ?_
  refine w_ca (fun _ => rfl) rfl (c_stepsTo (d := d) iv (to := to) (by omega) (by omega) (by omega)  (fun y2 b3 b4 => ⟨_, rfl, ?_⟩))
  refine w_is (fun _ => rfl) (w_il (fun _ => rfl) ?_)
  refine w_ltz2 (by omega) (by omega)  (fun c5 => ?_) (fun c5 => ?_)
  · refine w_run k_217103 (w_icI (x := (-1)) wn_1 (w_ri ?_))
    exact k0 (-1) (by omega) (by omega)
  · refine w_il (fun _ => rfl) (w_il (fun _ => rfl) ?_)
    refine w_lt2 (by omega) (by omega) (by omega) (by omega)  (fun c6 => ?_) (fun c6 => ?_)
    · refine w_run k_217105 (w_il (fun _ => rfl) (w_is (fun _ => rfl) (w_il (fun _ => rfl) (w_icI (x := 1) rfl (w_op (c := w_i (y2 - 1)) (i_sub y2 1) (w_is (fun _ => rfl) (w_nur k_217113 ?_)))))))
      exact l_rowStep_25 iv    to_lo to_hi i__lo i__hi hL    k0 ((y2 - 1) - i_ + 1 + 1 : Int).toNat y2 to (y2 - 1) (by omega) (by omega) (by omega) (by omega) (by omega) (by omega)  (by omega) (by omega) (by omega)
    · refine w_icI (x := (-1)) wn_1 (w_ri ?_)
      exact k0 (-1) (by omega) (by omega)
theorem k_237574 : m_cg 237574 = g_58_6 := rfl
theorem k_237657 : m_cg 237657 = g_58_89 := rfl
theorem k_237641 : m_cg 237641 = g_58_73 := rfl
theorem k_237651 : m_cg 237651 = g_58_83 := rfl
theorem l_mostWished_6 {g : w_G} {o : w_O} {h0 : m_H} {d : Nat} {Q : Option m_V → m_H → Prop} (k0 : ∀ (x : Int), ∀ h2 : m_H, w_Inv g o h2 → w_fr o [11] h0 h2 → -2147483648 ≤ x → x ≤ 2147483647 → 0 ≤ x → Q (some (.inl (w_i x))) h2) : ∀ (k : Nat) (h : m_H) (best most i : Int) (x4_ : m_V) (iv : w_Inv g o h) (F : w_fr o [11] h0 h) (up : w_up g o h) (best_lo : -2147483648 ≤ best) (best_hi : best ≤ 2147483647) (most_lo : -2147483648 ≤ most) (most_hi : most ≤ 2147483647) (i_lo : -2147483648 ≤ i) (i_hi : i ≤ 2147483647) (j0 : 0 ≤ i) (j1 : i ≤ 4096) (b0_ : best = -1 ∨ (0 ≤ best ∧ best < g_L g)) (b1_ : i = 0 ∨ 0 ≤ best), 4096 - i < (k : Int) → wp (d + 2) 237574 [.inr (.inl (some 9)), .inl (w_i best), .inl (w_i most), .inl (w_i i), x4_] [] h Q := by
  intro k
  induction k with
  | zero => intro h best most i x4_ iv F up best_lo best_hi most_lo most_hi i_lo i_hi j0 j1 b0_ b1_ hk; exact absurd hk (by omega)
  | succ k ih =>
    intro h best most i x4_ iv F up best_lo best_hi most_lo most_hi i_lo i_hi j0 j1 b0_ b1_ hk
    have W := iv_wc iv
    have Wo := iv_wo iv
    obtain ⟨kpr0, sta0, fnd0, kco0, p9, q1, q2, q3, q4, q5, q6, q7, q8, q9⟩ := (id up)
    refine w_run k_237574 (w_il (fun _ => rfl) (w_al (fun _ => rfl) (w_getf p9 rfl (fun _ => rfl) ?_)))
    refine w_ge2 (by omega) (by omega) (by omega) (by omega)  (fun c1 => ?_) (fun c1 => ?_)
    · refine w_run k_237657 (w_il (fun _ => rfl) (w_ri ?_))
      exact k0 best h iv F (by omega) (by omega) (by omega)
    · refine w_al (fun _ => rfl) (w_al (fun _ => rfl) (w_getf p9 rfl (fun _ => rfl) (w_il (fun _ => rfl) ?_)))
      obtain ⟨_, m2, A2, rfl, e2, g2_0⟩ := iv_100 iv (ow_rw iv)
      refine w_aldI m2 (by omega) (by omega) (by omega) ?_
      obtain ⟨b3, b4⟩ := ag_rg A2 i
      have e5 := e2 i (by omega) (by omega)
      refine w_this (fun _ => rfl) p9 ?_
      refine w_ca (fun _ => rfl) rfl (c_wished (d := d) iv (n := (a_g A2 i)) (by omega) (by omega) (by omega)  (fun y6 h7 iv8 F9 b10 b11 => ⟨_, rfl, ?_⟩))
      have F12 := fr_ca F F9 (fun t ht => by exact ht)
      refine w_is (fun _ => rfl) (w_il (fun _ => rfl) (w_icI (x := (-1)) wn_1 ?_))
      refine w_eq2 (by omega) (by omega) (by omega) (by omega)  (fun c13 => ?_) (fun c13 => ?_)
      · refine w_run k_237641 (w_al (fun _ => rfl) ?_)
        have m14 := fr_at F9 p9 iv (ow_9 iv) rfl rfl
        refine w_getf m14 rfl (fun _ => rfl) (w_il (fun _ => rfl) ?_)
        have m15 := fr_at F9 m2 iv (ow_rw iv) rfl rfl
        refine w_aldI m15 (by omega) (by omega) (by omega) ?_
        obtain ⟨b16, b17⟩ := ag_rg A2 i
        have e18 := e2 i (by omega) (by omega)
        refine w_is (fun _ => rfl) (w_il (fun _ => rfl) (w_is (fun _ => rfl) (w_inc (c := w_i (i + 1)) (fun _ => rfl) (i_addL (y := 1) rfl i) (fun _ => rfl) (w_go ?_))))
        have up19 := up_fr iv up F9 rfl
        exact ih h7 (a_g A2 i) y6 (i + 1) (.inl (w_i y6)) iv8 F12 up19 (by omega) (by omega) (by omega) (by omega) (by omega) (by omega)  (by omega) (by omega) (by omega) (by omega) (by omega)
      · refine w_il (fun _ => rfl) (w_il (fun _ => rfl) ?_)
        refine w_gt2 (by omega) (by omega) (by omega) (by omega)  (fun c20 => ?_) (fun c20 => ?_)
        · refine w_run k_237641 (w_al (fun _ => rfl) ?_)
          have m21 := fr_at F9 p9 iv (ow_9 iv) rfl rfl
          refine w_getf m21 rfl (fun _ => rfl) (w_il (fun _ => rfl) ?_)
          have m22 := fr_at F9 m2 iv (ow_rw iv) rfl rfl
          refine w_aldI m22 (by omega) (by omega) (by omega) ?_
          obtain ⟨b23, b24⟩ := ag_rg A2 i
          have e25 := e2 i (by omega) (by omega)
          refine w_is (fun _ => rfl) (w_il (fun _ => rfl) (w_is (fun _ => rfl) (w_inc (c := w_i (i + 1)) (fun _ => rfl) (i_addL (y := 1) rfl i) (fun _ => rfl) (w_go ?_))))
          have up26 := up_fr iv up F9 rfl
          exact ih h7 (a_g A2 i) y6 (i + 1) (.inl (w_i y6)) iv8 F12 up26 (by omega) (by omega) (by omega) (by omega) (by omega) (by omega)  (by omega) (by omega) (by omega) (by omega) (by omega)
        · refine w_il (fun _ => rfl) (w_il (fun _ => rfl) ?_)
          refine w_ne2 (by omega) (by omega) (by omega) (by omega)  (fun c27 => ?_) (fun c27 => ?_)
          · refine w_run k_237651 (w_inc (c := w_i (i + 1)) (fun _ => rfl) (i_addL (y := 1) rfl i) (fun _ => rfl) (w_go ?_))
            have up28 := up_fr iv up F9 rfl
            exact ih h7 best most (i + 1) (.inl (w_i y6)) iv8 F12 up28 (by omega) (by omega) (by omega) (by omega) (by omega) (by omega)  (by omega) (by omega) (by omega) (by omega) (by omega)
          · refine w_al (fun _ => rfl) ?_
            have m29 := fr_at F9 p9 iv (ow_9 iv) rfl rfl
            refine w_getf m29 rfl (fun _ => rfl) (w_al (fun _ => rfl) (w_getf m29 rfl (fun _ => rfl) (w_il (fun _ => rfl) ?_)))
            have m30 := fr_at F9 m2 iv (ow_rw iv) rfl rfl
            refine w_aldI m30 (by omega) (by omega) (by omega) ?_
            obtain ⟨b31, b32⟩ := ag_rg A2 i
            have e33 := e2 i (by omega) (by omega)
            obtain ⟨_, m34, A34, rfl, g34_0⟩ := iv_101 iv8 (ow_stp iv8)
            refine w_aldI m34 (by omega) (by omega) (by omega) ?_
            obtain ⟨b35, b36⟩ := ag_rg A34 (a_g A2 i)
            refine w_al (fun _ => rfl) (w_getf m29 rfl (fun _ => rfl) (w_il (fun _ => rfl) (w_aldI m34 (by omega) (by omega) (by omega) ?_)))
            obtain ⟨b37, b38⟩ := ag_rg A34 best
            refine w_ne2 (by omega) (by omega) (by omega) (by omega)  (fun c39 => ?_) (fun c39 => ?_)
            · refine w_run k_237651 (w_inc (c := w_i (i + 1)) (fun _ => rfl) (i_addL (y := 1) rfl i) (fun _ => rfl) (w_go ?_))
              have up40 := up_fr iv up F9 rfl
              exact ih h7 best most (i + 1) (.inl (w_i y6)) iv8 F12 up40 (by omega) (by omega) (by omega) (by omega) (by omega) (by omega)  (by omega) (by omega) (by omega) (by omega) (by omega)
            · refine w_al (fun _ => rfl) (w_getf m29 rfl (fun _ => rfl) (w_il (fun _ => rfl) (w_aldI m30 (by omega) (by omega) (by omega) ?_)))
              obtain ⟨b41, b42⟩ := ag_rg A2 i
              have e43 := e2 i (by omega) (by omega)
              refine w_il (fun _ => rfl) ?_
              refine w_ge2 (by omega) (by omega) (by omega) (by omega)  (fun c44 => ?_) (fun c44 => ?_)
              · refine w_run k_237651 (w_inc (c := w_i (i + 1)) (fun _ => rfl) (i_addL (y := 1) rfl i) (fun _ => rfl) (w_go ?_))
                have up45 := up_fr iv up F9 rfl
                exact ih h7 best most (i + 1) (.inl (w_i y6)) iv8 F12 up45 (by omega) (by omega) (by omega) (by omega) (by omega) (by omega)  (by omega) (by omega) (by omega) (by omega) (by omega)
              · refine w_al (fun _ => rfl) (w_getf m29 rfl (fun _ => rfl) (w_il (fun _ => rfl) (w_aldI m30 (by omega) (by omega) (by omega) ?_)))
                obtain ⟨b46, b47⟩ := ag_rg A2 i
                have e48 := e2 i (by omega) (by omega)
                refine w_is (fun _ => rfl) (w_il (fun _ => rfl) (w_is (fun _ => rfl) (w_inc (c := w_i (i + 1)) (fun _ => rfl) (i_addL (y := 1) rfl i) (fun _ => rfl) (w_go ?_))))
                have up49 := up_fr iv up F9 rfl
                exact ih h7 (a_g A2 i) y6 (i + 1) (.inl (w_i y6)) iv8 F12 up49 (by omega) (by omega) (by omega) (by omega) (by omega) (by omega)  (by omega) (by omega) (by omega) (by omega) (by omega)
theorem k_237568 : m_cg 237568 = g_58_0 := rfl
theorem c_mostWished {g : w_G} {o : w_O} {h : m_H} {d : Nat} {Q : Option m_V → m_H → Prop} (iv : w_Inv g o h) (up : w_up g o h) (k0 : ∀ (x : Int), ∀ h2 : m_H, w_Inv g o h2 → w_fr o [11] h h2 → -2147483648 ≤ x → x ≤ 2147483647 → 0 ≤ x → Q (some (.inl (w_i x))) h2) : wp (d + 2) 237568 [.inr (.inl (some 9)), .inr (.inr (.inl 0)), .inr (.inr (.inl 0)), .inr (.inr (.inl 0)), .inr (.inr (.inl 0))] [] h Q := by
  have F := fr_rf (o := o) (h := h) (W := [11])
  have W := iv_wc iv
  have Wo := iv_wo iv
  refine w_run k_237568 (w_icI (x := (-1)) wn_1 (w_is (fun _ => rfl) (w_icI (x := 0) rfl (w_is (fun _ => rfl) (w_icI (x := 0) rfl (w_is (fun _ => rfl) (w_nur k_237574 ?_)))))))
  exact l_mostWished_6          k0 (4096 - 0 + 1 : Int).toNat h (-1) 0 0 (.inr (.inr (.inl 0))) iv F up (by omega) (by omega) (by omega) (by omega) (by omega) (by omega)  (by omega) (by omega) (by omega) (by omega) (by omega)
theorem k_241695 : m_cg 241695 = g_59_31 := rfl
theorem k_241740 : m_cg 241740 = g_59_76 := rfl
theorem k_241734 : m_cg 241734 = g_59_70 := rfl
theorem l_worthOf_31 {g : w_G} {o : w_O} {h0 : m_H} {d : Nat} {Q : Option m_V → m_H → Prop} {n : Int} (n_lo : -2147483648 ≤ n) (n_hi : n ≤ 2147483647) (hL : g_N g ≤ g_L g) (hn : 0 ≤ n) (k0 : ∀ (x : Int), ∀ h2 : m_H, w_Inv g o h2 → w_fr o [11] h0 h2 → -2147483648 ≤ x → x ≤ 2147483647 → Q (some (.inl (w_i x))) h2) : ∀ (k : Nat) (h : m_H) (w_ ho : Int) (iv : w_Inv g o h) (F : w_fr o [11] h0 h) (w__lo : -2147483648 ≤ w_) (w__hi : w_ ≤ 2147483647) (ho_lo : -2147483648 ≤ ho) (ho_hi : ho ≤ 2147483647) (h0_ : 0 ≤ ho) (h1_ : ho ≤ g_H g), g_H g - ho < (k : Int) → wp (d + 1) 241695 [.inr (.inl (some 9)), .inl (w_i n), .inr (.inl (some 26)), .inl (w_i w_), .inl (w_i ho)] [] h Q := by
  intro k
  induction k with
  | zero => intro h w_ ho iv F w__lo w__hi ho_lo ho_hi h0_ h1_ hk; exact absurd hk (by omega)
  | succ k ih =>
    intro h w_ ho iv F w__lo w__hi ho_lo ho_hi h0_ h1_ hk
    have W := iv_wc iv
    have Wo := iv_wo iv
    refine w_run k_241695 (w_il (fun _ => rfl) (w_al (fun _ => rfl) ?_))
    obtain ⟨_, m1, kpr1, sta1, fnd1, kco1, rfl, l1_kpr, u1_kpr, l1_sta, u1_sta, l1_fnd, u1_fnd, l1_kco, u1_kco, f1_0, f1_1, f1_2, f1_3, f1_4, f1_5, f1_6⟩ := iv_9 iv
    refine w_getf m1 rfl (fun _ => rfl) ?_
    obtain ⟨_, m2, kp2, sp2, rl2, rfl, l2_kp, u2_kp, l2_sp, u2_sp, l2_rl, u2_rl, f2_0, f2_1⟩ := iv_1 iv
    refine w_getf m2 rfl (fun _ => rfl) ?_
    refine w_ge2 (by omega) (by omega) (by omega) (by omega)  (fun c3 => ?_) (fun c3 => ?_)
    · refine w_run k_241740 (w_il (fun _ => rfl) (w_ri ?_))
      exact k0 w_ h iv F (by omega) (by omega)
    · refine w_al (fun _ => rfl) (w_getf m1 rfl (fun _ => rfl) (w_il (fun _ => rfl) ?_))
      obtain ⟨_, m4, A4, rfl, e4⟩ := iv_11 iv
      refine w_aldI m4 (by omega) (by omega) (by omega) ?_
      obtain ⟨b5, b6⟩ := ag_rg A4 ho
      have e7 := e4 ho (by omega) (by omega)
      refine w_al (fun _ => rfl) (w_getf m1 rfl (fun _ => rfl) (w_getf m2 rfl (fun _ => rfl) (w_il (fun _ => rfl) ?_)))
      obtain ⟨_, m8, A8, rfl⟩ := iv_4 iv
      refine w_aldI m8 (by omega) (by omega) (by omega) ?_
      obtain ⟨b9, b10⟩ := ag_rg A8 ho
      refine w_ne2 (by omega) (by omega) (by omega) (by omega)  (fun c11 => ?_) (fun c11 => ?_)
      · refine w_run k_241734 (w_inc (c := w_i (ho + 1)) (fun _ => rfl) (i_addL (y := 1) rfl ho) (fun _ => rfl) (w_go ?_))
        exact ih h w_ (ho + 1) iv F (by omega) (by omega) (by omega) (by omega)  (by omega) (by omega) (by omega)
      · refine w_il (fun _ => rfl) (w_al (fun _ => rfl) (w_il (fun _ => rfl) ?_))
        obtain ⟨_, m12, A12, rfl⟩ := iv_26 iv
        refine w_aldI m12 (by omega) (by omega) (by omega) ?_
        obtain ⟨b13, b14⟩ := ag_rg A12 ho
        refine w_opR add_lt (fun x15 x150 x151 x15e => ?_)
        refine w_is (fun _ => rfl) (w_inc (c := w_i (ho + 1)) (fun _ => rfl) (i_addL (y := 1) rfl ho) (fun _ => rfl) (w_go ?_))
        exact ih h x15 (ho + 1) iv F (by omega) (by omega) (by omega) (by omega)  (by omega) (by omega) (by omega)
theorem k_241664 : m_cg 241664 = g_59_0 := rfl
theorem k_241686 : m_cg 241686 = g_59_22 := rfl
theorem k_241685 : m_cg 241685 = g_59_21 := rfl
theorem c_worthOf {g : w_G} {o : w_O} {h : m_H} {d : Nat} {Q : Option m_V → m_H → Prop} (iv : w_Inv g o h) {n : Int} (n_lo : -2147483648 ≤ n) (n_hi : n ≤ 2147483647) (hL : g_N g ≤ g_L g) (hn : 0 ≤ n) (k0 : ∀ (x : Int), ∀ h2 : m_H, w_Inv g o h2 → w_fr o [11] h h2 → -2147483648 ≤ x → x ≤ 2147483647 → Q (some (.inl (w_i x))) h2) : wp (d + 1) 241664 [.inr (.inl (some 9)), .inl (w_i n), .inr (.inl (some 26)), .inr (.inr (.inl 0)), .inr (.inr (.inl 0))] [] h Q := by
  have F := fr_rf (o := o) (h := h) (W := [11])
  have W := iv_wc iv
  have Wo := iv_wo iv
  refine w_run k_241664 (w_al (fun _ => rfl) ?_)
  obtain ⟨_, m1, kpr1, sta1, fnd1, kco1, rfl, l1_kpr, u1_kpr, l1_sta, u1_sta, l1_fnd, u1_fnd, l1_kco, u1_kco, f1_0, f1_1, f1_2, f1_3, f1_4, f1_5, f1_6⟩ := iv_9 iv
  refine w_getf m1 rfl (fun _ => rfl) (w_il (fun _ => rfl) ?_)
  obtain ⟨_, m2, kp2, sp2, rl2, rfl, l2_kp, u2_kp, l2_sp, u2_sp, l2_rl, u2_rl, f2_0, f2_1⟩ := iv_1 iv
  refine w_this (fun _ => rfl) m2 ?_
  refine w_ca (fun _ => rfl) rfl (c_isTown (d := d) iv (n := n) (by omega) (by omega)   (fun b3 b4 => ⟨_, rfl, ?_⟩) (fun b5 => ⟨_, rfl, ?_⟩))
  · refine w_eqzf (by omega) (by omega) (by omega)  (w_al (fun _ => rfl) (w_getf m1 rfl (fun _ => rfl) (w_il (fun _ => rfl) ?_)))
    obtain ⟨_, m6, A6, rfl, g6_0⟩ := iv_103 iv (ow_cst iv)
    refine w_aldI m6 (by omega) (by omega) (by omega) ?_
    obtain ⟨b7, b8⟩ := ag_rg A6 n
    refine w_unR neg_lt (fun x9 x90 x91 x9e => ?_)
    refine w_go (w_run k_241686 (w_is (fun _ => rfl) (w_al (fun _ => rfl) (w_il (fun _ => rfl) (w_this (fun _ => rfl) m1 ?_)))))
    refine w_cv (fun _ => rfl) rfl (c_lookAt (d := d) iv (n := n) (by omega) (by omega) (by omega)  (fun h10 iv11 F12 => ⟨rfl, ?_⟩))
    have F13 := fr_ca F F12 (fun t ht => by exact ht)
    refine w_icI (x := 0) rfl (w_is (fun _ => rfl) (w_nur k_241695 ?_))
    exact l_worthOf_31     n_lo n_hi hL hn    k0 (g_H g - 0 + 1 : Int).toNat h10 x9 0 iv11 F13 (by omega) (by omega) (by omega) (by omega)  (by omega) (by omega) (by omega)
  · refine w_eqzt (by omega) (by omega) (by omega)  (w_run k_241685 (w_icI (x := 0) rfl (w_is (fun _ => rfl) (w_al (fun _ => rfl) (w_il (fun _ => rfl) (w_this (fun _ => rfl) m1 ?_))))))
    refine w_cv (fun _ => rfl) rfl (c_lookAt (d := d) iv (n := n) (by omega) (by omega) (by omega)  (fun h14 iv15 F16 => ⟨rfl, ?_⟩))
    have F17 := fr_ca F F16 (fun t ht => by exact ht)
    refine w_icI (x := 0) rfl (w_is (fun _ => rfl) (w_nur k_241695 ?_))
    exact l_worthOf_31     n_lo n_hi hL hn    k0 (g_H g - 0 + 1 : Int).toNat h14 0 0 iv15 F17 (by omega) (by omega) (by omega) (by omega)  (by omega) (by omega) (by omega)
theorem k_196612 : m_cg 196612 = g_48_4 := rfl
theorem k_196665 : m_cg 196665 = g_48_57 := rfl
theorem k_196659 : m_cg 196659 = g_48_51 := rfl
theorem l_costRound_4 {g : w_G} {o : w_O} {h0 : m_H} {d : Nat} {Q : Option m_V → m_H → Prop} (hL : g_N g ≤ g_L g) (k0 : ∀ (x : Int), ∀ h2 : m_H, w_Inv g o h2 → w_fr o [11, 103, 104] h0 h2 → -2147483648 ≤ x → x ≤ 2147483647 → 0 ≤ x → x ≤ 1 → Q (some (.inl (w_i x))) h2) : ∀ (k : Nat) (h : m_H) (more i : Int) (iv : w_Inv g o h) (F : w_fr o [11, 103, 104] h0 h) (more_lo : -2147483648 ≤ more) (more_hi : more ≤ 2147483647) (i_lo : -2147483648 ≤ i) (i_hi : i ≤ 2147483647) (m0_ : 0 ≤ more) (m1_ : more ≤ 1) (i0 : 0 ≤ i) (i1 : i ≤ 4096), 4096 - i < (k : Int) → wp (d + 3) 196612 [.inr (.inl (some 9)), .inl (w_i more), .inl (w_i i)] [] h Q := by
  intro k
  induction k with
  | zero => intro h more i iv F more_lo more_hi i_lo i_hi m0_ m1_ i0 i1 hk; exact absurd hk (by omega)
  | succ k ih =>
    intro h more i iv F more_lo more_hi i_lo i_hi m0_ m1_ i0 i1 hk
    have W := iv_wc iv
    have Wo := iv_wo iv
    refine w_run k_196612 (w_il (fun _ => rfl) (w_al (fun _ => rfl) ?_))
    obtain ⟨_, m1, kpr1, sta1, fnd1, kco1, rfl, l1_kpr, u1_kpr, l1_sta, u1_sta, l1_fnd, u1_fnd, l1_kco, u1_kco, f1_0, f1_1, f1_2, f1_3, f1_4, f1_5, f1_6⟩ := iv_9 iv
    refine w_getf m1 rfl (fun _ => rfl) ?_
    refine w_ge2 (by omega) (by omega) (by omega) (by omega)  (fun c2 => ?_) (fun c2 => ?_)
    · refine w_run k_196665 (w_il (fun _ => rfl) (w_rz (bz (by omega) (by omega)) ?_))
      exact k0 more h iv F (by omega) (by omega) (by omega) (by omega)
    · refine w_al (fun _ => rfl) (w_getf m1 rfl (fun _ => rfl) (w_al (fun _ => rfl) (w_getf m1 rfl (fun _ => rfl) (w_il (fun _ => rfl) ?_))))
      obtain ⟨_, m3, A3, rfl, e3, g3_0⟩ := iv_100 iv (ow_rw iv)
      refine w_aldI m3 (by omega) (by omega) (by omega) ?_
      obtain ⟨b4, b5⟩ := ag_rg A3 i
      have e6 := e3 i (by omega) (by omega)
      obtain ⟨_, m7, A7, rfl, e7, g7_0⟩ := iv_104 iv (ow_chp iv)
      refine w_aldI m7 (by omega) (by omega) (by omega) ?_
      obtain ⟨b8, b9⟩ := ag_rg A7 (a_g A3 i)
      have e10 := e7 (a_g A3 i) (by omega) (by omega)
      refine w_eqz2 (by omega) (by omega)  (fun c11 => ?_) (fun c11 => ?_)
      · refine w_run k_196659 (w_inc (c := w_i (i + 1)) (fun _ => rfl) (i_addL (y := 1) rfl i) (fun _ => rfl) (w_go ?_))
        exact ih h more (i + 1) iv F (by omega) (by omega) (by omega) (by omega)  (by omega) (by omega) (by omega) (by omega) (by omega)
      · refine w_al (fun _ => rfl) (w_getf m1 rfl (fun _ => rfl) (w_al (fun _ => rfl) (w_getf m1 rfl (fun _ => rfl) (w_il (fun _ => rfl) (w_aldI m3 (by omega) (by omega) (by omega) ?_)))))
        obtain ⟨b12, b13⟩ := ag_rg A3 i
        have e14 := e3 i (by omega) (by omega)
        refine w_icI (x := 0) rfl (w_astB m7 (by omega) (by omega) (by omega) (by omega) (by omega) (fun A18 h16 w19 s15 => ?_))
        have e20 : ∀ j : Int, 0 ≤ j → j < ((o (g_chp g)).2 : Int) → 0 ≤ a_g A18 j ∧ a_g A18 j ≤ 1 := fun j j0 j1 => by
          rw [w19 j j0 j1]
          by_cases hj : j = (a_g A3 i)
          · rw [if_pos hj]; omega
          · rw [if_neg hj]; exact e7 j j0 j1
        have iv17 := is_104 iv (ow_chp iv) s15 ⟨_, rfl, e20, by assumption⟩
        have F21 := fr_st F s15 (by rw [(ow_chp iv)]; rfl)
        refine w_al (fun _ => rfl) (w_al (fun _ => rfl) ?_)
        have m22 := st_fr s15 m1 (ne_tag (ow_9 iv) (ow_chp iv) rfl)
        refine w_getf m22 rfl (fun _ => rfl) (w_il (fun _ => rfl) ?_)
        have m23 := st_fr s15 m3 (ne_tag (ow_rw iv) (ow_chp iv) rfl)
        refine w_aldI m23 (by omega) (by omega) (by omega) ?_
        obtain ⟨b24, b25⟩ := ag_rg A3 i
        have e26 := e3 i (by omega) (by omega)
        refine w_icI (x := 2) rfl (w_this (fun _ => rfl) m22 ?_)
        refine w_cv (fun _ => rfl) rfl (c_widenC (d := d) iv17 (fro := (a_g A3 i)) (by omega) (by omega) (by omega) (by omega) (by omega)  (fun h27 iv28 F29 => ⟨rfl, ?_⟩))
        have F30 := fr_ca F21 F29 (fun t ht => by exact ht)
        refine w_icI (x := 1) rfl (w_is (fun _ => rfl) (w_inc (c := w_i (i + 1)) (fun _ => rfl) (i_addL (y := 1) rfl i) (fun _ => rfl) (w_go ?_)))
        exact ih h27 1 (i + 1) iv28 F30 (by omega) (by omega) (by omega) (by omega)  (by omega) (by omega) (by omega) (by omega) (by omega)
theorem k_196608 : m_cg 196608 = g_48_0 := rfl
theorem c_costRound {g : w_G} {o : w_O} {h : m_H} {d : Nat} {Q : Option m_V → m_H → Prop} (iv : w_Inv g o h) (hL : g_N g ≤ g_L g) (k0 : ∀ (x : Int), ∀ h2 : m_H, w_Inv g o h2 → w_fr o [11, 103, 104] h h2 → -2147483648 ≤ x → x ≤ 2147483647 → 0 ≤ x → x ≤ 1 → Q (some (.inl (w_i x))) h2) : wp (d + 3) 196608 [.inr (.inl (some 9)), .inr (.inr (.inl 0)), .inr (.inr (.inl 0))] [] h Q := by
  have F := fr_rf (o := o) (h := h) (W := [11, 103, 104])
  have W := iv_wc iv
  have Wo := iv_wo iv
  refine w_run k_196608 (w_icI (x := 0) rfl (w_is (fun _ => rfl) (w_icI (x := 0) rfl (w_is (fun _ => rfl) (w_nur k_196612 ?_)))))
  exact l_costRound_4      hL    k0 (4096 - 0 + 1 : Int).toNat h 0 0 iv F (by omega) (by omega) (by omega) (by omega)  (by omega) (by omega) (by omega) (by omega) (by omega)
theorem k_192530 : m_cg 192530 = g_47_18 := rfl
theorem l_findCosts_18 {g : w_G} {o : w_O} {h0 : m_H} {d : Nat} {Q : Option m_V → m_H → Prop} (k0 : ∀ h2 : m_H, w_Inv g o h2 → w_fr o [9, 11, 103, 104] h0 h2 → w_up g o h2 → Q none h2) (kx : ∀ (i : Int), ∀ h2 : m_H, w_Inv g o h2 → w_fr o [9, 11, 103, 104] h0 h2 → w_up g o h2 → -2147483648 ≤ i → i ≤ 2147483647 → wp (d + 4) 192561 [.inr (.inl (some 9)), .inl (w_i i), .inr (.inr (.inl 0))] [] h2 Q) : ∀ (k : Nat) (h : m_H) (i : Int) (iv : w_Inv g o h) (F : w_fr o [9, 11, 103, 104] h0 h) (up : w_up g o h) (i_lo : -2147483648 ≤ i) (i_hi : i ≤ 2147483647) (i0 : 0 ≤ i) (i1 : i ≤ g_N g), g_N g - i < (k : Int) → wp (d + 4) 192530 [.inr (.inl (some 9)), .inl (w_i i), .inr (.inr (.inl 0))] [] h Q := by
  intro k
  induction k with
  | zero => intro h i iv F up i_lo i_hi i0 i1 hk; exact absurd hk (by omega)
  | succ k ih =>
    intro h i iv F up i_lo i_hi i0 i1 hk
    have W := iv_wc iv
    have Wo := iv_wo iv
    obtain ⟨kpr0, sta0, fnd0, kco0, p9, q1, q2, q3, q4, q5, q6, q7, q8, q9⟩ := (id up)
    refine w_run k_192530 (w_il (fun _ => rfl) (w_al (fun _ => rfl) (w_getf p9 rfl (fun _ => rfl) ?_)))
    obtain ⟨_, m1, kp1, sp1, rl1, rfl, l1_kp, u1_kp, l1_sp, u1_sp, l1_rl, u1_rl, f1_0, f1_1⟩ := iv_1 iv
    refine w_getf m1 rfl (fun _ => rfl) ?_
    refine w_ge2 (by omega) (by omega) (by omega) (by omega)  (fun c2 => ?_) (fun c2 => ?_)
    · exact kx i h iv F up (by omega) (by omega)  
    · refine w_al (fun _ => rfl) (w_getf p9 rfl (fun _ => rfl) (w_il (fun _ => rfl) (w_icI (x := (-1)) wn_1 ?_)))
      obtain ⟨_, m3, A3, rfl, g3_0⟩ := iv_103 iv (ow_cst iv)
      refine w_astI m3 (by omega) (by omega) (by omega) (by omega) (by omega) (fun A7 h5 w8 s4 => ?_)
      have iv6 := is_103 iv (ow_cst iv) s4 ⟨_, rfl, by assumption⟩
      have F9 := fr_st F s4 (by rw [(ow_cst iv)]; rfl)
      refine w_al (fun _ => rfl) ?_
      have m10 := st_fr s4 p9 (ne_tag (ow_9 iv) (ow_cst iv) rfl)
      refine w_getf m10 rfl (fun _ => rfl) (w_il (fun _ => rfl) (w_icI (x := 0) rfl ?_))
      obtain ⟨_, m11, A11, rfl, e11, g11_0⟩ := iv_104 iv6 (ow_chp iv6)
      refine w_astB m11 (by omega) (by omega) (by omega) (by omega) (by omega) (fun A15 h13 w16 s12 => ?_)
      have e17 : ∀ j : Int, 0 ≤ j → j < ((o (g_chp g)).2 : Int) → 0 ≤ a_g A15 j ∧ a_g A15 j ≤ 1 := fun j j0 j1 => by
        rw [w16 j j0 j1]
        by_cases hj : j = i
        · rw [if_pos hj]; omega
        · rw [if_neg hj]; exact e11 j j0 j1
      have iv14 := is_104 iv6 (ow_chp iv6) s12 ⟨_, rfl, e17, by assumption⟩
      have F18 := fr_st F9 s12 (by rw [(ow_chp iv6)]; rfl)
      refine w_inc (c := w_i (i + 1)) (fun _ => rfl) (i_addL (y := 1) rfl i) (fun _ => rfl) (w_go ?_)
      have up19 := up_fr iv up (fr_st (W := [103]) fr_rf s4 (by rw [(ow_cst iv)]; rfl)) rfl
      have up20 := up_fr iv6 up19 (fr_st (W := [104]) fr_rf s12 (by rw [(ow_chp iv6)]; rfl)) rfl
      exact ih h13 (i + 1) iv14 F18 up20 (by omega) (by omega)  (by omega) (by omega) (by omega)
theorem k_192574 : m_cg 192574 = g_47_62 := rfl
theorem k_192597 : m_cg 192597 = g_47_85 := rfl
theorem l_findCosts_62 {g : w_G} {o : w_O} {h0 : m_H} {d : Nat} {Q : Option m_V → m_H → Prop} (k0 : ∀ h2 : m_H, w_Inv g o h2 → w_fr o [9, 11, 103, 104] h0 h2 → w_up g o h2 → Q none h2) : ∀ (k : Nat) (h : m_H) (more ro : Int) (iv : w_Inv g o h) (F : w_fr o [9, 11, 103, 104] h0 h) (up : w_up g o h) (more_lo : -2147483648 ≤ more) (more_hi : more ≤ 2147483647) (ro_lo : -2147483648 ≤ ro) (ro_hi : ro ≤ 2147483647) (m0_ : 0 ≤ more) (m1_ : more ≤ 1) (r0 : 0 ≤ ro) (r1 : ro ≤ 4096), 4096 - ro < (k : Int) → wp (d + 4) 192574 [.inr (.inl (some 9)), .inl (w_i more), .inl (w_i ro)] [] h Q := by
  intro k
  induction k with
  | zero => intro h more ro iv F up more_lo more_hi ro_lo ro_hi m0_ m1_ r0 r1 hk; exact absurd hk (by omega)
  | succ k ih =>
    intro h more ro iv F up more_lo more_hi ro_lo ro_hi m0_ m1_ r0 r1 hk
    have W := iv_wc iv
    have Wo := iv_wo iv
    obtain ⟨kpr0, sta0, fnd0, kco0, p9, q1, q2, q3, q4, q5, q6, q7, q8, q9⟩ := (id up)
    refine w_run k_192574 (w_il (fun _ => rfl) ?_)
    refine w_eqz2 (by omega) (by omega)  (fun c1 => ?_) (fun c1 => ?_)
    · refine w_run k_192597 (w_al (fun _ => rfl) (w_icI (x := 1) rfl (w_putf [.inr (.inl (some 1)), .inr (.inl (some 10)), .inl (w_i kpr0), .inr (.inl (some 11)), .inl (w_i sta0), .inr (.inl (some (g_rw g))), .inl (w_i fnd0), .inr (.inl (some (g_stp g))), .inr (.inl (some (g_ahd g))), .inr (.inl (some (g_cst g))), .inr (.inl (some (g_chp g))), .inl (w_i 1)] p9 rfl rfl rfl (fun _ => rfl) (fun h3 s2 => ?_))))
      have iv4 := is_9 iv s2 ⟨_, _, _, _, rfl, by omega, by omega, by omega, by omega, by omega, by omega, by omega, by omega, by omega, by omega, by omega, by omega, by omega, by omega, by omega⟩
      have F5 := fr_st F s2 (by rw [(ow_9 iv)]; rfl)
      refine w_rv ?_
      exact k0 h3 iv4 F5 ⟨kpr0, sta0, fnd0, 1, s2.2.2.1, by omega, by omega, by omega, by omega, by omega, by omega, by omega, by omega, by omega⟩
    · refine w_il (fun _ => rfl) (w_al (fun _ => rfl) (w_getf p9 rfl (fun _ => rfl) ?_))
      refine w_ge2 (by omega) (by omega) (by omega) (by omega)  (fun c6 => ?_) (fun c6 => ?_)
      · refine w_run k_192597 (w_al (fun _ => rfl) (w_icI (x := 1) rfl (w_putf [.inr (.inl (some 1)), .inr (.inl (some 10)), .inl (w_i kpr0), .inr (.inl (some 11)), .inl (w_i sta0), .inr (.inl (some (g_rw g))), .inl (w_i fnd0), .inr (.inl (some (g_stp g))), .inr (.inl (some (g_ahd g))), .inr (.inl (some (g_cst g))), .inr (.inl (some (g_chp g))), .inl (w_i 1)] p9 rfl rfl rfl (fun _ => rfl) (fun h8 s7 => ?_))))
        have iv9 := is_9 iv s7 ⟨_, _, _, _, rfl, by omega, by omega, by omega, by omega, by omega, by omega, by omega, by omega, by omega, by omega, by omega, by omega, by omega, by omega, by omega⟩
        have F10 := fr_st F s7 (by rw [(ow_9 iv)]; rfl)
        refine w_rv ?_
        exact k0 h8 iv9 F10 ⟨kpr0, sta0, fnd0, 1, s7.2.2.1, by omega, by omega, by omega, by omega, by omega, by omega, by omega, by omega, by omega⟩
      · refine w_al (fun _ => rfl) (w_this (fun _ => rfl) p9 ?_)
        refine w_ca (fun _ => rfl) rfl (c_costRound (d := d) iv   (by omega)  (fun y11 h12 iv13 F14 b15 b16 b17 b18 => ⟨_, rfl, ?_⟩))
        have F19 := fr_ca F F14 (fun t ht => by simp at ht ⊢; omega)
        refine w_is (fun _ => rfl) (w_inc (c := w_i (ro + 1)) (fun _ => rfl) (i_addL (y := 1) rfl ro) (fun _ => rfl) (w_go ?_))
        have up20 := up_fr iv up F14 rfl
        exact ih h12 y11 (ro + 1) iv13 F19 up20 (by omega) (by omega) (by omega) (by omega)  (by omega) (by omega) (by omega) (by omega) (by omega)
theorem k_192512 : m_cg 192512 = g_47_0 := rfl
theorem k_192527 : m_cg 192527 = g_47_15 := rfl
theorem k_192528 : m_cg 192528 = g_47_16 := rfl
theorem k_192561 : m_cg 192561 = g_47_49 := rfl
theorem c_findCosts {g : w_G} {o : w_O} {h : m_H} {d : Nat} {Q : Option m_V → m_H → Prop} (iv : w_Inv g o h) (up : w_up g o h) (k0 : ∀ h2 : m_H, w_Inv g o h2 → w_fr o [9, 11, 103, 104] h h2 → w_up g o h2 → Q none h2) : wp (d + 4) 192512 [.inr (.inl (some 9)), .inr (.inr (.inl 0)), .inr (.inr (.inl 0))] [] h Q := by
  have F := fr_rf (o := o) (h := h) (W := [9, 11, 103, 104])
  have W := iv_wc iv
  have Wo := iv_wo iv
  obtain ⟨kpr0, sta0, fnd0, kco0, p9, q1, q2, q3, q4, q5, q6, q7, q8, q9⟩ := (id up)
  refine w_run k_192512 (w_al (fun _ => rfl) (w_getf p9 rfl (fun _ => rfl) ?_))
  refine w_nez2 (by omega) (by omega)  (fun c1 => ?_) (fun c1 => ?_)
  · refine w_run k_192527 (w_rv ?_)
    exact k0 h iv F up
  · refine w_al (fun _ => rfl) (w_getf p9 rfl (fun _ => rfl) (w_icI (x := (-1)) wn_1 (w_net (by omega) (by omega) (by omega) (by omega) (by omega)  (w_run k_192528 (w_icI (x := 0) rfl (w_is (fun _ => rfl) (w_nur k_192530 ?_)))))))
    refine l_findCosts_18          k0 (fun i2 h3 iv4 F5 up6 b7 b8 => ?_) (g_N g - 0 + 1 : Int).toNat h 0 iv F up (by omega) (by omega)  (by omega) (by omega) (by omega)
    refine w_run k_192561 (w_al (fun _ => rfl) (w_al (fun _ => rfl) ?_))
    obtain ⟨_, m9, kpr9, sta9, fnd9, kco9, rfl, l9_kpr, u9_kpr, l9_sta, u9_sta, l9_fnd, u9_fnd, l9_kco, u9_kco, f9_0, f9_1, f9_2, f9_3, f9_4, f9_5, f9_6⟩ := iv_9 iv4
    refine w_getf m9 rfl (fun _ => rfl) (w_icI (x := 0) rfl (w_this (fun _ => rfl) m9 ?_))
    refine w_cv (fun _ => rfl) rfl (c_cheapen (d := (d + 2)) iv4 (to := sta9) (costs := 0) (by omega) (by omega) (by omega) (by omega) (by omega)  (fun h10 iv11 F12 => ⟨rfl, ?_⟩))
    have F13 := fr_ca F5 F12 (fun t ht => by simp at ht ⊢; omega)
    refine w_icI (x := 1) rfl (w_is (fun _ => rfl) (w_icI (x := 0) rfl (w_is (fun _ => rfl) (w_nur k_192574 ?_))))
    have up14 := up_fr iv4 up6 F12 rfl
    exact l_findCosts_62          k0 (4096 - 0 + 1 : Int).toNat h10 1 0 iv11 F13 up14 (by omega) (by omega) (by omega) (by omega)  (by omega) (by omega) (by omega) (by omega) (by omega)
theorem k_225280 : m_cg 225280 = g_55_0 := rfl
theorem k_225291 : m_cg 225291 = g_55_11 := rfl
theorem c_costTo {g : w_G} {o : w_O} {h : m_H} {d : Nat} {Q : Option m_V → m_H → Prop} (iv : w_Inv g o h) {to : Int} (to_lo : -2147483648 ≤ to) (to_hi : to ≤ 2147483647) (q0_ : 0 ≤ to) (q1_ : to < g_N g) (up : w_up g o h) (k0 : ∀ (x : Int), ∀ h2 : m_H, w_Inv g o h2 → w_fr o [9, 11, 103, 104] h h2 → -2147483648 ≤ x → x ≤ 2147483647 → Q (some (.inl (w_i x))) h2) : wp (d + 5) 225280 [.inr (.inl (some 9)), .inl (w_i to)] [] h Q := by
  have F := fr_rf (o := o) (h := h) (W := [9, 11, 103, 104])
  have W := iv_wc iv
  have Wo := iv_wo iv
  obtain ⟨kpr0, sta0, fnd0, kco0, p9, q1, q2, q3, q4, q5, q6, q7, q8, q9⟩ := (id up)
  refine w_run k_225280 (w_al (fun _ => rfl) (w_il (fun _ => rfl) (w_this (fun _ => rfl) p9 ?_)))
  refine w_ca (fun _ => rfl) rfl (c_stepsTo (d := (d + 3)) iv (to := to) (by omega) (by omega) (by omega)  (fun y1 b2 b3 => ⟨_, rfl, ?_⟩))
  refine w_icI (x := (-1)) wn_1 ?_
  refine w_ne2 (by omega) (by omega) (by omega) (by omega)  (fun c4 => ?_) (fun c4 => ?_)
  · refine w_run k_225291 (w_al (fun _ => rfl) (w_this (fun _ => rfl) p9 ?_))
    refine w_cv (fun _ => rfl) rfl (c_findCosts (d := d) iv    up (fun h5 iv6 F7 b8 => ⟨rfl, ?_⟩))
    have F9 := fr_ca F F7 (fun t ht => by exact ht)
    refine w_al (fun _ => rfl) ?_
    obtain ⟨_, m10, kpr10, sta10, fnd10, kco10, rfl, l10_kpr, u10_kpr, l10_sta, u10_sta, l10_fnd, u10_fnd, l10_kco, u10_kco, f10_0, f10_1, f10_2, f10_3, f10_4, f10_5, f10_6⟩ := iv_9 iv6
    refine w_getf m10 rfl (fun _ => rfl) (w_il (fun _ => rfl) ?_)
    obtain ⟨_, m11, A11, rfl, g11_0⟩ := iv_103 iv6 (ow_cst iv6)
    refine w_aldI m11 (by omega) (by omega) (by omega) ?_
    obtain ⟨b12, b13⟩ := ag_rg A11 to
    refine w_ri ?_
    exact k0 (a_g A11 to) h5 iv6 F9 (by omega) (by omega)
  · refine w_icI (x := (-1)) wn_1 (w_ri ?_)
    exact k0 (-1) h iv F (by omega) (by omega)
theorem k_245771 : m_cg 245771 = g_60_11 := rfl
theorem k_245839 : m_cg 245839 = g_60_79 := rfl
theorem k_245822 : m_cg 245822 = g_60_62 := rfl
theorem k_245833 : m_cg 245833 = g_60_73 := rfl
theorem l_mostWorth_11 {g : w_G} {o : w_O} {h0 : m_H} {d : Nat} {Q : Option m_V → m_H → Prop} (k0 : ∀ (x : Int), ∀ h2 : m_H, w_Inv g o h2 → w_fr o [9, 11, 103, 104] h0 h2 → -2147483648 ≤ x → x ≤ 2147483647 → 0 ≤ x → w_up g o h2 → Q (some (.inl (w_i x))) h2) : ∀ (k : Nat) (h : m_H) (best most i : Int) (x5_ : m_V) (iv : w_Inv g o h) (F : w_fr o [9, 11, 103, 104] h0 h) (up : w_up g o h) (best_lo : -2147483648 ≤ best) (best_hi : best ≤ 2147483647) (most_lo : -2147483648 ≤ most) (most_hi : most ≤ 2147483647) (i_lo : -2147483648 ≤ i) (i_hi : i ≤ 2147483647) (j0 : 0 ≤ i) (j1 : i ≤ 4096) (b0_ : best = -1 ∨ (0 ≤ best ∧ best < g_L g)) (b1_ : i = 0 ∨ 0 ≤ best), 4096 - i < (k : Int) → wp (d + 5) 245771 [.inr (.inl (some 9)), .inr (.inl (some 26)), .inl (w_i best), .inl (w_i most), .inl (w_i i), x5_] [] h Q := by
  intro k
  induction k with
  | zero => intro h best most i x5_ iv F up best_lo best_hi most_lo most_hi i_lo i_hi j0 j1 b0_ b1_ hk; exact absurd hk (by omega)
  | succ k ih =>
    intro h best most i x5_ iv F up best_lo best_hi most_lo most_hi i_lo i_hi j0 j1 b0_ b1_ hk
    have W := iv_wc iv
    have Wo := iv_wo iv
    obtain ⟨kpr0, sta0, fnd0, kco0, p9, q1, q2, q3, q4, q5, q6, q7, q8, q9⟩ := (id up)
    refine w_run k_245771 (w_il (fun _ => rfl) (w_al (fun _ => rfl) (w_getf p9 rfl (fun _ => rfl) ?_)))
    refine w_ge2 (by omega) (by omega) (by omega) (by omega)  (fun c1 => ?_) (fun c1 => ?_)
    · refine w_run k_245839 (w_il (fun _ => rfl) (w_ri ?_))
      exact k0 best h iv F (by omega) (by omega) (by omega) up
    · refine w_al (fun _ => rfl) (w_al (fun _ => rfl) (w_getf p9 rfl (fun _ => rfl) (w_il (fun _ => rfl) ?_)))
      obtain ⟨_, m2, A2, rfl, e2, g2_0⟩ := iv_100 iv (ow_rw iv)
      refine w_aldI m2 (by omega) (by omega) (by omega) ?_
      obtain ⟨b3, b4⟩ := ag_rg A2 i
      have e5 := e2 i (by omega) (by omega)
      refine w_al (fun _ => rfl) (w_this (fun _ => rfl) p9 ?_)
      refine w_ca (fun _ => rfl) rfl (c_worthOf (d := (d + 3)) iv (n := (a_g A2 i)) (by omega) (by omega) (by omega) (by omega)  (fun y6 h7 iv8 F9 b10 b11 => ⟨_, rfl, ?_⟩))
      have F12 := fr_ca F F9 (fun t ht => by simp at ht ⊢; omega)
      refine w_is (fun _ => rfl) (w_il (fun _ => rfl) (w_icI (x := (-1)) wn_1 ?_))
      refine w_eq2 (by omega) (by omega) (by omega) (by omega)  (fun c13 => ?_) (fun c13 => ?_)
      · refine w_run k_245822 (w_al (fun _ => rfl) ?_)
        have m14 := fr_at F9 p9 iv (ow_9 iv) rfl rfl
        refine w_getf m14 rfl (fun _ => rfl) (w_il (fun _ => rfl) ?_)
        have m15 := fr_at F9 m2 iv (ow_rw iv) rfl rfl
        refine w_aldI m15 (by omega) (by omega) (by omega) ?_
        obtain ⟨b16, b17⟩ := ag_rg A2 i
        have e18 := e2 i (by omega) (by omega)
        refine w_is (fun _ => rfl) (w_il (fun _ => rfl) (w_is (fun _ => rfl) (w_inc (c := w_i (i + 1)) (fun _ => rfl) (i_addL (y := 1) rfl i) (fun _ => rfl) (w_go ?_))))
        have up19 := up_fr iv up F9 rfl
        exact ih h7 (a_g A2 i) y6 (i + 1) (.inl (w_i y6)) iv8 F12 up19 (by omega) (by omega) (by omega) (by omega) (by omega) (by omega)  (by omega) (by omega) (by omega) (by omega) (by omega)
      · refine w_il (fun _ => rfl) (w_il (fun _ => rfl) ?_)
        refine w_gt2 (by omega) (by omega) (by omega) (by omega)  (fun c20 => ?_) (fun c20 => ?_)
        · refine w_run k_245822 (w_al (fun _ => rfl) ?_)
          have m21 := fr_at F9 p9 iv (ow_9 iv) rfl rfl
          refine w_getf m21 rfl (fun _ => rfl) (w_il (fun _ => rfl) ?_)
          have m22 := fr_at F9 m2 iv (ow_rw iv) rfl rfl
          refine w_aldI m22 (by omega) (by omega) (by omega) ?_
          obtain ⟨b23, b24⟩ := ag_rg A2 i
          have e25 := e2 i (by omega) (by omega)
          refine w_is (fun _ => rfl) (w_il (fun _ => rfl) (w_is (fun _ => rfl) (w_inc (c := w_i (i + 1)) (fun _ => rfl) (i_addL (y := 1) rfl i) (fun _ => rfl) (w_go ?_))))
          have up26 := up_fr iv up F9 rfl
          exact ih h7 (a_g A2 i) y6 (i + 1) (.inl (w_i y6)) iv8 F12 up26 (by omega) (by omega) (by omega) (by omega) (by omega) (by omega)  (by omega) (by omega) (by omega) (by omega) (by omega)
        · refine w_il (fun _ => rfl) (w_il (fun _ => rfl) ?_)
          refine w_ne2 (by omega) (by omega) (by omega) (by omega)  (fun c27 => ?_) (fun c27 => ?_)
          · refine w_run k_245833 (w_inc (c := w_i (i + 1)) (fun _ => rfl) (i_addL (y := 1) rfl i) (fun _ => rfl) (w_go ?_))
            have up28 := up_fr iv up F9 rfl
            exact ih h7 best most (i + 1) (.inl (w_i y6)) iv8 F12 up28 (by omega) (by omega) (by omega) (by omega) (by omega) (by omega)  (by omega) (by omega) (by omega) (by omega) (by omega)
          · refine w_al (fun _ => rfl) ?_
            have m29 := fr_at F9 p9 iv (ow_9 iv) rfl rfl
            refine w_getf m29 rfl (fun _ => rfl) (w_il (fun _ => rfl) ?_)
            have m30 := fr_at F9 m2 iv (ow_rw iv) rfl rfl
            refine w_aldI m30 (by omega) (by omega) (by omega) ?_
            obtain ⟨b31, b32⟩ := ag_rg A2 i
            have e33 := e2 i (by omega) (by omega)
            refine w_il (fun _ => rfl) ?_
            refine w_ge2 (by omega) (by omega) (by omega) (by omega)  (fun c34 => ?_) (fun c34 => ?_)
            · refine w_run k_245833 (w_inc (c := w_i (i + 1)) (fun _ => rfl) (i_addL (y := 1) rfl i) (fun _ => rfl) (w_go ?_))
              have up35 := up_fr iv up F9 rfl
              exact ih h7 best most (i + 1) (.inl (w_i y6)) iv8 F12 up35 (by omega) (by omega) (by omega) (by omega) (by omega) (by omega)  (by omega) (by omega) (by omega) (by omega) (by omega)
            · refine w_al (fun _ => rfl) (w_getf m29 rfl (fun _ => rfl) (w_il (fun _ => rfl) (w_aldI m30 (by omega) (by omega) (by omega) ?_)))
              obtain ⟨b36, b37⟩ := ag_rg A2 i
              have e38 := e2 i (by omega) (by omega)
              refine w_is (fun _ => rfl) (w_il (fun _ => rfl) (w_is (fun _ => rfl) (w_inc (c := w_i (i + 1)) (fun _ => rfl) (i_addL (y := 1) rfl i) (fun _ => rfl) (w_go ?_))))
              have up39 := up_fr iv up F9 rfl
              exact ih h7 (a_g A2 i) y6 (i + 1) (.inl (w_i y6)) iv8 F12 up39 (by omega) (by omega) (by omega) (by omega) (by omega) (by omega)  (by omega) (by omega) (by omega) (by omega) (by omega)
theorem k_245760 : m_cg 245760 = g_60_0 := rfl
theorem c_mostWorth {g : w_G} {o : w_O} {h : m_H} {d : Nat} {Q : Option m_V → m_H → Prop} (iv : w_Inv g o h) (up : w_up g o h) (k0 : ∀ (x : Int), ∀ h2 : m_H, w_Inv g o h2 → w_fr o [9, 11, 103, 104] h h2 → -2147483648 ≤ x → x ≤ 2147483647 → 0 ≤ x → w_up g o h2 → Q (some (.inl (w_i x))) h2) : wp (d + 5) 245760 [.inr (.inl (some 9)), .inr (.inl (some 26)), .inr (.inr (.inl 0)), .inr (.inr (.inl 0)), .inr (.inr (.inl 0)), .inr (.inr (.inl 0))] [] h Q := by
  have F := fr_rf (o := o) (h := h) (W := [9, 11, 103, 104])
  have W := iv_wc iv
  have Wo := iv_wo iv
  refine w_run k_245760 (w_al (fun _ => rfl) ?_)
  obtain ⟨_, m1, kpr1, sta1, fnd1, kco1, rfl, l1_kpr, u1_kpr, l1_sta, u1_sta, l1_fnd, u1_fnd, l1_kco, u1_kco, f1_0, f1_1, f1_2, f1_3, f1_4, f1_5, f1_6⟩ := iv_9 iv
  refine w_this (fun _ => rfl) m1 ?_
  refine w_cv (fun _ => rfl) rfl (c_findCosts (d := d) iv    up (fun h2 iv3 F4 b5 => ⟨rfl, ?_⟩))
  have F6 := fr_ca F F4 (fun t ht => by exact ht)
  refine w_icI (x := (-1)) wn_1 (w_is (fun _ => rfl) (w_icI (x := 0) rfl (w_is (fun _ => rfl) (w_icI (x := 0) rfl (w_is (fun _ => rfl) (w_nur k_245771 ?_))))))
  exact l_mostWorth_11          k0 (4096 - 0 + 1 : Int).toNat h2 (-1) 0 0 (.inr (.inr (.inl 0))) iv3 F6 b5 (by omega) (by omega) (by omega) (by omega) (by omega) (by omega)  (by omega) (by omega) (by omega) (by omega) (by omega)
