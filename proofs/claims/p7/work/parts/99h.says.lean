/-- a row of deeds of the reference, read up to a place, with so many values on the stack -/
def w_sy (g : w_G) (o : w_O) (h : m_H) (r k n : Int) : Prop := ∃ A : Nat, m_at h.2.2 51 = some (.inl (false, 3060, A)) ∧ w_rp A r (g_mCL g r) ∧ n = w_dp A r k.toNat
theorem sy_fr {g : w_G} {o : w_O} {h h2 : m_H} {r k n : Int} {W : List Nat} (iv : w_Inv g o h) (sy : w_sy g o h r k n) (hf : w_fr o W h h2) (hW : W.contains 51 = false) : w_sy g o h2 r k n := by
  obtain ⟨A, p51, rest⟩ := sy
  exact ⟨A, fr_at hf p51 iv (ow_51 iv) hW rfl, rest⟩
theorem sy_of {g : w_G} {o : w_O} {h : m_H} {r : Int} (iv : w_Inv g o h) (r0 : 0 ≤ r) (r1 : r < 3 * g_mnt g) : w_sy g o h r 0 0 := by
  obtain ⟨_, p51, A, rfl, hA⟩ := iv_51 iv
  exact ⟨A, p51, hA r r0 r1, rfl⟩
theorem dp_c {A : Nat} {r k : Int} (k0 : 0 ≤ k) : (a_g A (170 * r + k) < 30000 ∧ w_dp A r (k + 1).toNat = w_dp A r k.toNat + 1) ∨ (30000 ≤ a_g A (170 * r + k) ∧ (a_g A (170 * r + k) = 30008 ∨ a_g A (170 * r + k) = 30009) ∧ w_dp A r (k + 1).toNat = w_dp A r k.toNat) ∨ (30000 ≤ a_g A (170 * r + k) ∧ a_g A (170 * r + k) ≠ 30008 ∧ a_g A (170 * r + k) ≠ 30009 ∧ w_dp A r (k + 1).toNat = w_dp A r k.toNat - 1) := by
  obtain ⟨m, rfl⟩ := Int.eq_ofNat_of_zero_le k0
  show (a_g A (170 * r + m) < 30000 ∧ w_dp A r (m + 1) = w_dp A r m + 1) ∨ (30000 ≤ a_g A (170 * r + m) ∧ (a_g A (170 * r + m) = 30008 ∨ a_g A (170 * r + m) = 30009) ∧ w_dp A r (m + 1) = w_dp A r m) ∨ (30000 ≤ a_g A (170 * r + m) ∧ a_g A (170 * r + m) ≠ 30008 ∧ a_g A (170 * r + m) ≠ 30009 ∧ w_dp A r (m + 1) = w_dp A r m - 1)
  rw [show w_dp A r (m + 1) = if a_g A (170 * r + m) < 30000 then w_dp A r m + 1 else if a_g A (170 * r + m) = 30008 ∨ a_g A (170 * r + m) = 30009 then w_dp A r m else w_dp A r m - 1 from rfl]
  by_cases h1 : a_g A (170 * r + m) < 30000
  · rw [if_pos h1]; exact Or.inl ⟨h1, rfl⟩
  · rw [if_neg h1]
    by_cases h2 : a_g A (170 * r + m) = 30008 ∨ a_g A (170 * r + m) = 30009
    · rw [if_pos h2]; exact Or.inr (Or.inl ⟨by omega, h2, rfl⟩)
    · rw [if_neg h2]; exact Or.inr (Or.inr ⟨by omega, fun e => h2 (Or.inl e), fun e => h2 (Or.inr e), rfl⟩)
theorem rp_at {A : Nat} {r n k : Int} (h : w_rp A r n) (k0 : 0 ≤ k) (k1 : k < n) : a_g A (170 * r + k) < 30000 ∨ (1 ≤ w_dp A r k.toNat ∧ (a_g A (170 * r + k) = 30008 ∨ a_g A (170 * r + k) = 30009)) ∨ 2 ≤ w_dp A r k.toNat := by
  obtain ⟨m, rfl⟩ := Int.eq_ofNat_of_zero_le k0
  exact h.2.2 m k1
theorem k_737296 : m_cg 737296 = g_180_16 := rfl
theorem k_737492 : m_cg 737492 = g_180_212 := rfl
theorem k_737347 : m_cg 737347 = g_180_67 := rfl
theorem k_737382 : m_cg 737382 = g_180_102 := rfl
theorem k_737419 : m_cg 737419 = g_180_139 := rfl
theorem k_737449 : m_cg 737449 = g_180_169 := rfl
theorem k_737486 : m_cg 737486 = g_180_206 := rfl
theorem k_737414 : m_cg 737414 = g_180_134 := rfl
theorem k_737415 : m_cg 737415 = g_180_135 := rfl
theorem l_mSays_16 {g : w_G} {o : w_O} {h0 : m_H} {d : Nat} {Q : Option m_V → m_H → Prop} {wh : Int} {ho : Int} {fr : Int} {t : Int} (wh_lo : -2147483648 ≤ wh) (wh_hi : wh ≤ 2147483647) (ho_lo : -2147483648 ≤ ho) (ho_hi : ho ≤ 2147483647) (fr_lo : -2147483648 ≤ fr) (fr_hi : fr ≤ 2147483647) (t_lo : -2147483648 ≤ t) (t_hi : t ≤ 2147483647) (w0_ : 0 ≤ wh) (w1_ : wh ≤ 2) (h0_ : 0 ≤ ho) (h1_ : ho ≤ 5) {r : Int} (r_lo : -2147483648 ≤ r) (r_hi : r ≤ 2147483647) (r0_ : 0 ≤ r) (r1_ : r < 3 * g_mnt g) (k0 : ∀ (x : Int), ∀ h2 : m_H, w_Inv g o h2 → w_fr o [54] h0 h2 → -2147483648 ≤ x → x ≤ 2147483647 → Q (some (.inl (w_i x))) h2) : ∀ (k : Nat) (h : m_H) (n kq : Int) (x8_ : m_V) (iv : w_Inv g o h) (F : w_fr o [54] h0 h) (sy : w_sy g o h r kq n) (n_lo : -2147483648 ≤ n) (n_hi : n ≤ 2147483647) (kq_lo : -2147483648 ≤ kq) (kq_hi : kq ≤ 2147483647) (k0_ : 0 ≤ kq) (k1_ : kq ≤ 170) (n0_ : 0 ≤ n) (n1_ : n ≤ kq), 170 - kq < (k : Int) → wp (d + 2) 737296 [.inr (.inl (some 31)), .inl (w_i wh), .inl (w_i ho), .inl (w_i fr), .inl (w_i t), .inl (w_i r), .inl (w_i n), .inl (w_i kq), x8_] [] h Q := by
  intro k
  induction k with
  | zero => intro h n kq x8_ iv F sy n_lo n_hi kq_lo kq_hi k0_ k1_ n0_ n1_ hk; exact absurd hk (by omega)
  | succ k ih =>
    intro h n kq x8_ iv F sy n_lo n_hi kq_lo kq_hi k0_ k1_ n0_ n1_ hk
    have W := iv_wm iv
    obtain ⟨A, p51, hR, hN⟩ := (id sy)
    refine w_run k_737296 (w_il (fun _ => rfl) (w_al (fun _ => rfl) ?_))
    obtain ⟨_, m1, spr1, kee1, rul1, tpd1, nxt1, tok1, tka1, val1, opn1, hm1, row1, ksp1, kke1, kru1, rfl, l1_spr, u1_spr, l1_kee, u1_kee, l1_rul, u1_rul, l1_tpd, u1_tpd, l1_nxt, u1_nxt, l1_tok, u1_tok, l1_tka, u1_tka, l1_val, u1_val, l1_opn, u1_opn, l1_hm, u1_hm, l1_row, u1_row, l1_ksp, u1_ksp, l1_kke, u1_kke, l1_kru, u1_kru, f1_0, f1_1, f1_2, f1_3, f1_4, f1_5, f1_6, f1_7, f1_8, f1_9⟩ := iv_31 iv
    refine w_getf m1 rfl (fun _ => rfl) (w_il (fun _ => rfl) ?_)
    obtain ⟨_, m2, A2, rfl, e2⟩ := iv_52 iv
    refine w_aldI m2 (by omega) (by omega) (by omega) ?_
    obtain ⟨b3, b4⟩ := ag_rg A2 r
    have e5 := e2 r (by omega) (by omega)
    refine w_ge2 (by omega) (by omega) (by omega) (by omega)  (fun c6 => ?_) (fun c6 => ?_)
    · refine w_run k_737492 (w_al (fun _ => rfl) (w_getf m1 rfl (fun _ => rfl) (w_icI (x := 0) rfl ?_)))
      obtain ⟨_, m7, A7, rfl⟩ := iv_54 iv
      refine w_aldI m7 (by omega) (by omega) (by omega) ?_
      obtain ⟨b8, b9⟩ := ag_rg A7 0
      refine w_ri ?_
      exact k0 (a_g A7 0) h iv F (by omega) (by omega)
    · refine w_al (fun _ => rfl) (w_getf m1 rfl (fun _ => rfl) (w_icI (x := 170) rfl (w_il (fun _ => rfl) (w_op (c := w_i (170 * r)) (i_mul 170 r) (w_il (fun _ => rfl) (w_op (c := w_i ((170 * r) + kq)) (i_add (170 * r) kq) ?_))))))
      have hD := dp_c (A := A) (r := r) (k := kq) (by omega)
      have hX := rp_at hR (k := kq) (by omega) (by omega)
      have hRn := hR.2.1
      refine w_aldI p51 (by omega) (by omega) (by omega) ?_
      obtain ⟨b10, b11⟩ := ag_rg A ((170 * r) + kq)
      refine w_is (fun _ => rfl) (w_il (fun _ => rfl) (w_icI (x := 20000) rfl ?_))
      refine w_ge2 (by omega) (by omega) (by omega) (by omega)  (fun c12 => ?_) (fun c12 => ?_)
      · refine w_run k_737347 (w_il (fun _ => rfl) (w_icI (x := 30000) rfl ?_))
        refine w_ge2 (by omega) (by omega) (by omega) (by omega)  (fun c13 => ?_) (fun c13 => ?_)
        · refine w_run k_737382 (w_il (fun _ => rfl) (w_icI (x := 30008) rfl ?_))
          refine w_ne2 (by omega) (by omega) (by omega) (by omega)  (fun c14 => ?_) (fun c14 => ?_)
          · refine w_run k_737419 (w_il (fun _ => rfl) (w_icI (x := 30009) rfl ?_))
            refine w_ne2 (by omega) (by omega) (by omega) (by omega)  (fun c15 => ?_) (fun c15 => ?_)
            · refine w_run k_737449 (w_inc (c := w_i (n + (-1))) (fun _ => rfl) (i_addL (y := (-1)) wn_1 n) (fun _ => rfl) (w_al (fun _ => rfl) (w_getf m1 rfl (fun _ => rfl) (w_il (fun _ => rfl) (w_icI (x := 1) rfl (w_op (c := w_i ((n + (-1)) - 1)) (i_sub (n + (-1)) 1) (w_il (fun _ => rfl) (w_icI (x := 30000) rfl (w_op (c := w_i ((a_g A ((170 * r) + kq)) - 30000)) (i_sub (a_g A ((170 * r) + kq)) 30000) (w_al (fun _ => rfl) (w_getf m1 rfl (fun _ => rfl) (w_il (fun _ => rfl) (w_icI (x := 1) rfl (w_op (c := w_i ((n + (-1)) - 1)) (i_sub (n + (-1)) 1) ?_))))))))))))))
              obtain ⟨_, m16, A16, rfl⟩ := iv_54 iv
              refine w_aldI m16 (by omega) (by omega) (by omega) ?_
              obtain ⟨b17, b18⟩ := ag_rg A16 ((n + (-1)) - 1)
              refine w_al (fun _ => rfl) (w_getf m1 rfl (fun _ => rfl) (w_il (fun _ => rfl) (w_aldI m16 (by omega) (by omega) (by omega) ?_)))
              obtain ⟨b19, b20⟩ := ag_rg A16 (n + (-1))
              refine w_ca (fun _ => rfl) rfl (c_mDone (d := (d + 1)) iv (de := ((a_g A ((170 * r) + kq)) - 30000)) (a := (a_g A16 ((n + (-1)) - 1))) (b := (a_g A16 (n + (-1)))) (by omega) (by omega) (by omega) (by omega) (by omega) (by omega)   (fun y21 b22 b23 => ⟨_, rfl, ?_⟩))
              refine w_astI m16 (by omega) (by omega) (by omega) (by omega) (by omega) (fun A27 h25 w28 s24 => ?_)
              have iv26 := is_54 iv s24 ⟨_, rfl⟩
              have F29 := fr_st F s24 (by rw [(ow_54 iv)]; rfl)
              have m30 := st_fr s24 p51 (by decide)
              have sy1 : w_sy g o h25 r (kq + 1) (n + (-1)) := ⟨A, m30, hR, by omega⟩
              refine w_inc (c := w_i (kq + 1)) (fun _ => rfl) (i_addL (y := 1) rfl kq) (fun _ => rfl) (w_go ?_)
              exact ih h25 (n + (-1)) (kq + 1) (.inl (w_i (a_g A ((170 * r) + kq)))) iv26 F29 sy1 (by omega) (by omega) (by omega) (by omega)  (by omega) (by omega) (by omega) (by omega) (by omega)
            · refine w_al (fun _ => rfl) (w_getf m1 rfl (fun _ => rfl) (w_il (fun _ => rfl) (w_icI (x := 1) rfl (w_op (c := w_i (n - 1)) (i_sub n 1) (w_al (fun _ => rfl) (w_getf m1 rfl (fun _ => rfl) (w_il (fun _ => rfl) (w_icI (x := 1) rfl (w_op (c := w_i (n - 1)) (i_sub n 1) ?_)))))))))
              obtain ⟨_, m31, A31, rfl⟩ := iv_54 iv
              refine w_aldI m31 (by omega) (by omega) (by omega) ?_
              obtain ⟨b32, b33⟩ := ag_rg A31 (n - 1)
              refine w_unR neg_lt (fun x34 x340 x341 x34e => ?_)
              refine w_astI m31 (by omega) (by omega) (by omega) (by omega) (by omega) (fun A38 h36 w39 s35 => ?_)
              have iv37 := is_54 iv s35 ⟨_, rfl⟩
              have F40 := fr_st F s35 (by rw [(ow_54 iv)]; rfl)
              refine w_go (w_run k_737486 ?_)
              have m41 := st_fr s35 p51 (by decide)
              have sy1 : w_sy g o h36 r (kq + 1) n := ⟨A, m41, hR, by omega⟩
              refine w_inc (c := w_i (kq + 1)) (fun _ => rfl) (i_addL (y := 1) rfl kq) (fun _ => rfl) (w_go ?_)
              exact ih h36 n (kq + 1) (.inl (w_i (a_g A ((170 * r) + kq)))) iv37 F40 sy1 (by omega) (by omega) (by omega) (by omega)  (by omega) (by omega) (by omega) (by omega) (by omega)
          · refine w_al (fun _ => rfl) (w_getf m1 rfl (fun _ => rfl) (w_il (fun _ => rfl) (w_icI (x := 1) rfl (w_op (c := w_i (n - 1)) (i_sub n 1) (w_al (fun _ => rfl) (w_getf m1 rfl (fun _ => rfl) (w_il (fun _ => rfl) (w_icI (x := 1) rfl (w_op (c := w_i (n - 1)) (i_sub n 1) ?_)))))))))
            obtain ⟨_, m42, A42, rfl⟩ := iv_54 iv
            refine w_aldI m42 (by omega) (by omega) (by omega) ?_
            obtain ⟨b43, b44⟩ := ag_rg A42 (n - 1)
            refine w_nez2 (by omega) (by omega)  (fun c45 => ?_) (fun c45 => ?_)
            · refine w_run k_737414 (w_icI (x := 0) rfl (w_astI m42 (by omega) (by omega) (by omega) (by omega) (by omega) (fun A49 h47 w50 s46 => ?_)))
              have iv48 := is_54 iv s46 ⟨_, rfl⟩
              have F51 := fr_st F s46 (by rw [(ow_54 iv)]; rfl)
              refine w_go (w_run k_737486 ?_)
              have m52 := st_fr s46 p51 (by decide)
              have sy1 : w_sy g o h47 r (kq + 1) n := ⟨A, m52, hR, by omega⟩
              refine w_inc (c := w_i (kq + 1)) (fun _ => rfl) (i_addL (y := 1) rfl kq) (fun _ => rfl) (w_go ?_)
              exact ih h47 n (kq + 1) (.inl (w_i (a_g A ((170 * r) + kq)))) iv48 F51 sy1 (by omega) (by omega) (by omega) (by omega)  (by omega) (by omega) (by omega) (by omega) (by omega)
            · refine w_icI (x := 1) rfl (w_go (w_run k_737415 (w_astI m42 (by omega) (by omega) (by omega) (by omega) (by omega) (fun A56 h54 w57 s53 => ?_))))
              have iv55 := is_54 iv s53 ⟨_, rfl⟩
              have F58 := fr_st F s53 (by rw [(ow_54 iv)]; rfl)
              refine w_go (w_run k_737486 ?_)
              have m59 := st_fr s53 p51 (by decide)
              have sy1 : w_sy g o h54 r (kq + 1) n := ⟨A, m59, hR, by omega⟩
              refine w_inc (c := w_i (kq + 1)) (fun _ => rfl) (i_addL (y := 1) rfl kq) (fun _ => rfl) (w_go ?_)
              exact ih h54 n (kq + 1) (.inl (w_i (a_g A ((170 * r) + kq)))) iv55 F58 sy1 (by omega) (by omega) (by omega) (by omega)  (by omega) (by omega) (by omega) (by omega) (by omega)
        · refine w_al (fun _ => rfl) (w_getf m1 rfl (fun _ => rfl) (w_il (fun _ => rfl) (w_al (fun _ => rfl) (w_il (fun _ => rfl) (w_icI (x := 20000) rfl (w_op (c := w_i ((a_g A ((170 * r) + kq)) - 20000)) (i_sub (a_g A ((170 * r) + kq)) 20000) (w_il (fun _ => rfl) (w_il (fun _ => rfl) (w_il (fun _ => rfl) (w_this (fun _ => rfl) m1 ?_))))))))))
          refine w_ca (fun _ => rfl) rfl (c_mNamed (d := d) iv (na := ((a_g A ((170 * r) + kq)) - 20000)) (ho := ho) (fr := fr) (t := t) (by omega) (by omega) (by omega) (by omega) (by omega) (by omega) (by omega) (by omega) (by omega) (by omega)  (fun y60 b61 b62 => ⟨_, rfl, ?_⟩))
          obtain ⟨_, m63, A63, rfl⟩ := iv_54 iv
          refine w_astI m63 (by omega) (by omega) (by omega) (by omega) (by omega) (fun A67 h65 w68 s64 => ?_)
          have iv66 := is_54 iv s64 ⟨_, rfl⟩
          have F69 := fr_st F s64 (by rw [(ow_54 iv)]; rfl)
          refine w_inc (c := w_i (n + 1)) (fun _ => rfl) (i_addL (y := 1) rfl n) (fun _ => rfl) (w_go (w_run k_737486 ?_))
          have m70 := st_fr s64 p51 (by decide)
          have sy1 : w_sy g o h65 r (kq + 1) (n + 1) := ⟨A, m70, hR, by omega⟩
          refine w_inc (c := w_i (kq + 1)) (fun _ => rfl) (i_addL (y := 1) rfl kq) (fun _ => rfl) (w_go ?_)
          exact ih h65 (n + 1) (kq + 1) (.inl (w_i (a_g A ((170 * r) + kq)))) iv66 F69 sy1 (by omega) (by omega) (by omega) (by omega)  (by omega) (by omega) (by omega) (by omega) (by omega)
      · refine w_al (fun _ => rfl) (w_getf m1 rfl (fun _ => rfl) (w_il (fun _ => rfl) (w_il (fun _ => rfl) ?_)))
        obtain ⟨_, m71, A71, rfl⟩ := iv_54 iv
        refine w_astI m71 (by omega) (by omega) (by omega) (by omega) (by omega) (fun A75 h73 w76 s72 => ?_)
        have iv74 := is_54 iv s72 ⟨_, rfl⟩
        have F77 := fr_st F s72 (by rw [(ow_54 iv)]; rfl)
        refine w_inc (c := w_i (n + 1)) (fun _ => rfl) (i_addL (y := 1) rfl n) (fun _ => rfl) (w_go (w_run k_737486 ?_))
        have m78 := st_fr s72 p51 (by decide)
        have sy1 : w_sy g o h73 r (kq + 1) (n + 1) := ⟨A, m78, hR, by omega⟩
        refine w_inc (c := w_i (kq + 1)) (fun _ => rfl) (i_addL (y := 1) rfl kq) (fun _ => rfl) (w_go ?_)
        exact ih h73 (n + 1) (kq + 1) (.inl (w_i (a_g A ((170 * r) + kq)))) iv74 F77 sy1 (by omega) (by omega) (by omega) (by omega)  (by omega) (by omega) (by omega) (by omega) (by omega)
theorem k_737280 : m_cg 737280 = g_180_0 := rfl
theorem c_mSays {g : w_G} {o : w_O} {h : m_H} {d : Nat} {Q : Option m_V → m_H → Prop} (iv : w_Inv g o h) {wh : Int} {ho : Int} {fr : Int} {t : Int} (wh_lo : -2147483648 ≤ wh) (wh_hi : wh ≤ 2147483647) (ho_lo : -2147483648 ≤ ho) (ho_hi : ho ≤ 2147483647) (fr_lo : -2147483648 ≤ fr) (fr_hi : fr ≤ 2147483647) (t_lo : -2147483648 ≤ t) (t_hi : t ≤ 2147483647) (w0_ : 0 ≤ wh) (w1_ : wh ≤ 2) (h0_ : 0 ≤ ho) (h1_ : ho ≤ 5) (k0 : ∀ (x : Int), ∀ h2 : m_H, w_Inv g o h2 → w_fr o [54] h h2 → -2147483648 ≤ x → x ≤ 2147483647 → Q (some (.inl (w_i x))) h2) : wp (d + 2) 737280 [.inr (.inl (some 31)), .inl (w_i wh), .inl (w_i ho), .inl (w_i fr), .inl (w_i t), .inr (.inr (.inl 0)), .inr (.inr (.inl 0)), .inr (.inr (.inl 0)), .inr (.inr (.inl 0))] [] h Q := by
  have F := fr_rf (o := o) (h := h) (W := [54])
  have W := iv_wm iv
  refine w_run k_737280 (w_icI (x := 3) rfl (w_al (fun _ => rfl) ?_))
  obtain ⟨_, m1, spr1, kee1, rul1, tpd1, nxt1, tok1, tka1, val1, opn1, hm1, row1, ksp1, kke1, kru1, rfl, l1_spr, u1_spr, l1_kee, u1_kee, l1_rul, u1_rul, l1_tpd, u1_tpd, l1_nxt, u1_nxt, l1_tok, u1_tok, l1_tka, u1_tka, l1_val, u1_val, l1_opn, u1_opn, l1_hm, u1_hm, l1_row, u1_row, l1_ksp, u1_ksp, l1_kke, u1_kke, l1_kru, u1_kru, f1_0, f1_1, f1_2, f1_3, f1_4, f1_5, f1_6, f1_7, f1_8, f1_9⟩ := iv_31 iv
  refine w_getf m1 rfl (fun _ => rfl) (w_op (c := w_i (3 * rul1)) (i_mul 3 rul1) (w_il (fun _ => rfl) (w_op (c := w_i ((3 * rul1) + wh)) (i_add (3 * rul1) wh) (w_is (fun _ => rfl) ?_))))
  have sy0 := sy_of (r := ((3 * rul1) + wh)) iv (by omega) (by omega)
  refine w_icI (x := 0) rfl (w_is (fun _ => rfl) (w_icI (x := 0) rfl (w_is (fun _ => rfl) (w_nur k_737296 ?_))))
  exact l_mSays_16   (r := ((3 * rul1) + wh))  wh_lo wh_hi ho_lo ho_hi fr_lo fr_hi t_lo t_hi w0_ w1_ h0_ h1_  (by omega) (by omega) (by omega) (by omega) k0 (170 - 0 + 1 : Int).toNat h 0 0 (.inr (.inr (.inl 0))) iv F sy0 (by omega) (by omega) (by omega) (by omega)  (by omega) (by omega) (by omega) (by omega) (by omega)
theorem k_745520 : m_cg 745520 = g_182_48 := rfl
theorem k_745577 : m_cg 745577 = g_182_105 := rfl
theorem k_745587 : m_cg 745587 = g_182_115 := rfl
theorem k_745604 : m_cg 745604 = g_182_132 := rfl
theorem k_745544 : m_cg 745544 = g_182_72 := rfl
theorem k_745567 : m_cg 745567 = g_182_95 := rfl
theorem k_745571 : m_cg 745571 = g_182_99 := rfl
theorem l_mStepCost_48 {g : w_G} {o : w_O} {h0 : m_H} {d : Nat} {Q : Option m_V → m_H → Prop} {ho : Int} {fr : Int} {t : Int} (ho_lo : -2147483648 ≤ ho) (ho_hi : ho ≤ 2147483647) (fr_lo : -2147483648 ≤ fr) (fr_hi : fr ≤ 2147483647) (t_lo : -2147483648 ≤ t) (t_hi : t ≤ 2147483647) (h0_ : 0 ≤ ho) (h1_ : ho ≤ 5) (f0_ : 0 ≤ fr) (f1_ : fr ≤ 4) (t0_ : 0 ≤ t) (t1_ : t ≤ 4) (k0 : ∀ (x : Int), ∀ h2 : m_H, w_Inv g o h2 → w_fr o [54] h0 h2 → -2147483648 ≤ x → x ≤ 2147483647 → x ≤ 2000 → Q (some (.inl (w_i x))) h2) : ∀ (k : Nat) (h : m_H) (lea i : Int) (x6_ : m_V) (iv : w_Inv g o h) (F : w_fr o [54] h0 h) (lea_lo : -2147483648 ≤ lea) (lea_hi : lea ≤ 2147483647) (i_lo : -2147483648 ≤ i) (i_hi : i ≤ 2147483647) (i0 : 0 ≤ i) (i1 : i ≤ g_mnp g) (l0_ : -1 ≤ lea) (l1_ : lea ≤ 100), g_mnp g - i < (k : Int) → wp (d + 3) 745520 [.inr (.inl (some 31)), .inl (w_i ho), .inl (w_i fr), .inl (w_i t), .inl (w_i lea), .inl (w_i i), x6_] [] h Q := by
  intro k
  induction k with
  | zero => intro h lea i x6_ iv F lea_lo lea_hi i_lo i_hi i0 i1 l0_ l1_ hk; exact absurd hk (by omega)
  | succ k ih =>
    intro h lea i x6_ iv F lea_lo lea_hi i_lo i_hi i0 i1 l0_ l1_ hk
    have W := iv_wm iv
    refine w_run k_745520 (w_il (fun _ => rfl) (w_al (fun _ => rfl) ?_))
    obtain ⟨_, m1, spr1, kee1, rul1, tpd1, nxt1, tok1, tka1, val1, opn1, hm1, row1, ksp1, kke1, kru1, rfl, l1_spr, u1_spr, l1_kee, u1_kee, l1_rul, u1_rul, l1_tpd, u1_tpd, l1_nxt, u1_nxt, l1_tok, u1_tok, l1_tka, u1_tka, l1_val, u1_val, l1_opn, u1_opn, l1_hm, u1_hm, l1_row, u1_row, l1_ksp, u1_ksp, l1_kke, u1_kke, l1_kru, u1_kru, f1_0, f1_1, f1_2, f1_3, f1_4, f1_5, f1_6, f1_7, f1_8, f1_9⟩ := iv_31 iv
    refine w_getf m1 rfl (fun _ => rfl) ?_
    refine w_ge2 (by omega) (by omega) (by omega) (by omega)  (fun c2 => ?_) (fun c2 => ?_)
    · refine w_run k_745577 (w_il (fun _ => rfl) ?_)
      refine w_gez2 (by omega) (by omega)  (fun c3 => ?_) (fun c3 => ?_)
      · refine w_run k_745587 (w_il (fun _ => rfl) (w_al (fun _ => rfl) (w_icI (x := 1) rfl (w_il (fun _ => rfl) (w_il (fun _ => rfl) (w_il (fun _ => rfl) (w_this (fun _ => rfl) m1 ?_)))))))
        refine w_ca (fun _ => rfl) rfl (c_mSays (d := d) iv (wh := 1) (ho := ho) (fr := fr) (t := t) (by omega) (by omega) (by omega) (by omega) (by omega) (by omega) (by omega) (by omega) (by omega) (by omega) (by omega) (by omega)  (fun y4 h5 iv6 F7 b8 b9 => ⟨_, rfl, ?_⟩))
        have F10 := fr_ca F F7 (fun t ht => by exact ht)
        refine w_icI (x := 999) rfl ?_
        refine w_ca (fun _ => rfl) rfl (c_mBounded (d := (d + 2)) iv6 (n := y4) (mo := 999) (by omega) (by omega) (by omega) (by omega) (by omega)  (fun y11 b12 b13 b14 b15 => ⟨_, rfl, ?_⟩))
        refine w_op (c := w_i (lea + y11)) (i_add lea y11) (w_ri ?_)
        exact k0 (lea + y11) h5 iv6 F10 (by omega) (by omega) (by omega)
      · refine w_icI (x := (-5)) wn_5 (w_go (w_run k_745604 (w_ri ?_)))
        exact k0 (-5) h iv F (by omega) (by omega) (by omega)
    · refine w_al (fun _ => rfl) (w_il (fun _ => rfl) (w_il (fun _ => rfl) (w_il (fun _ => rfl) (w_il (fun _ => rfl) (w_this (fun _ => rfl) m1 ?_)))))
      refine w_ca (fun _ => rfl) rfl (c_mIsWilling (d := (d + 2)) iv (pa := i) (ho := ho) (fr := fr) (t := t) (by omega) (by omega) (by omega) (by omega) (by omega) (by omega) (by omega) (by omega) (by omega) (by omega)  ⟨_, rfl, ?_⟩ ⟨_, rfl, ?_⟩)
      · refine w_nezt (by omega) (by omega) (by omega)  (w_run k_745544 (w_al (fun _ => rfl) (w_il (fun _ => rfl) (w_il (fun _ => rfl) (w_il (fun _ => rfl) (w_il (fun _ => rfl) (w_this (fun _ => rfl) m1 ?_)))))))
        refine w_ca (fun _ => rfl) rfl (c_mCostsOf (d := (d + 2)) iv (pa := i) (ho := ho) (fr := fr) (t := t) (by omega) (by omega) (by omega) (by omega) (by omega) (by omega) (by omega) (by omega) (by omega) (by omega) (by omega) (by omega) (by omega) (by omega) (by omega) (by omega)  (fun y16 b17 b18 b19 b20 => ⟨_, rfl, ?_⟩))
        refine w_is (fun _ => rfl) (w_il (fun _ => rfl) ?_)
        refine w_ltz2 (by omega) (by omega)  (fun c21 => ?_) (fun c21 => ?_)
        · refine w_run k_745567 (w_il (fun _ => rfl) (w_is (fun _ => rfl) (w_inc (c := w_i (i + 1)) (fun _ => rfl) (i_addL (y := 1) rfl i) (fun _ => rfl) (w_go ?_))))
          exact ih h y16 (i + 1) (.inl (w_i y16)) iv F (by omega) (by omega) (by omega) (by omega)  (by omega) (by omega) (by omega) (by omega) (by omega)
        · refine w_il (fun _ => rfl) (w_il (fun _ => rfl) ?_)
          refine w_ge2 (by omega) (by omega) (by omega) (by omega)  (fun c22 => ?_) (fun c22 => ?_)
          · refine w_run k_745571 (w_inc (c := w_i (i + 1)) (fun _ => rfl) (i_addL (y := 1) rfl i) (fun _ => rfl) (w_go ?_))
            exact ih h lea (i + 1) (.inl (w_i y16)) iv F (by omega) (by omega) (by omega) (by omega)  (by omega) (by omega) (by omega) (by omega) (by omega)
          · refine w_il (fun _ => rfl) (w_is (fun _ => rfl) (w_inc (c := w_i (i + 1)) (fun _ => rfl) (i_addL (y := 1) rfl i) (fun _ => rfl) (w_go ?_)))
            exact ih h y16 (i + 1) (.inl (w_i y16)) iv F (by omega) (by omega) (by omega) (by omega)  (by omega) (by omega) (by omega) (by omega) (by omega)
      · refine w_nezf (by omega) (by omega) (by omega)  (w_go (w_run k_745571 (w_inc (c := w_i (i + 1)) (fun _ => rfl) (i_addL (y := 1) rfl i) (fun _ => rfl) (w_go ?_))))
        exact ih h lea (i + 1) (x6_) iv F (by omega) (by omega) (by omega) (by omega)  (by omega) (by omega) (by omega) (by omega) (by omega)
theorem k_745472 : m_cg 745472 = g_182_0 := rfl
theorem k_745500 : m_cg 745500 = g_182_28 := rfl
theorem k_745503 : m_cg 745503 = g_182_31 := rfl
theorem k_745514 : m_cg 745514 = g_182_42 := rfl
theorem k_745515 : m_cg 745515 = g_182_43 := rfl
theorem c_mStepCost {g : w_G} {o : w_O} {h : m_H} {d : Nat} {Q : Option m_V → m_H → Prop} (iv : w_Inv g o h) {ho : Int} {fr : Int} {t : Int} (ho_lo : -2147483648 ≤ ho) (ho_hi : ho ≤ 2147483647) (fr_lo : -2147483648 ≤ fr) (fr_hi : fr ≤ 2147483647) (t_lo : -2147483648 ≤ t) (t_hi : t ≤ 2147483647) (h0_ : 0 ≤ ho) (h1_ : ho ≤ 5) (f0_ : 0 ≤ fr) (f1_ : fr ≤ 4) (t0_ : 0 ≤ t) (t1_ : t ≤ 4) (k0 : ∀ (x : Int), ∀ h2 : m_H, w_Inv g o h2 → w_fr o [54] h h2 → -2147483648 ≤ x → x ≤ 2147483647 → x ≤ 2000 → Q (some (.inl (w_i x))) h2) : wp (d + 3) 745472 [.inr (.inl (some 31)), .inl (w_i ho), .inl (w_i fr), .inl (w_i t), .inr (.inr (.inl 0)), .inr (.inr (.inl 0)), .inr (.inr (.inl 0))] [] h Q := by
  have F := fr_rf (o := o) (h := h) (W := [54])
  have W := iv_wm iv
  refine w_run k_745472 (w_il (fun _ => rfl) (w_il (fun _ => rfl) ?_))
  refine w_eq2 (by omega) (by omega) (by omega) (by omega)  (fun c1 => ?_) (fun c1 => ?_)
  · refine w_run k_745500 (w_icI (x := (-5)) wn_5 (w_ri ?_))
    exact k0 (-5) h iv F (by omega) (by omega) (by omega)
  · refine w_al (fun _ => rfl) ?_
    obtain ⟨_, m2, spr2, kee2, rul2, tpd2, nxt2, tok2, tka2, val2, opn2, hm2, row2, ksp2, kke2, kru2, rfl, l2_spr, u2_spr, l2_kee, u2_kee, l2_rul, u2_rul, l2_tpd, u2_tpd, l2_nxt, u2_nxt, l2_tok, u2_tok, l2_tka, u2_tka, l2_val, u2_val, l2_opn, u2_opn, l2_hm, u2_hm, l2_row, u2_row, l2_ksp, u2_ksp, l2_kke, u2_kke, l2_kru, u2_kru, f2_0, f2_1, f2_2, f2_3, f2_4, f2_5, f2_6, f2_7, f2_8, f2_9⟩ := iv_31 iv
    refine w_getf m2 rfl (fun _ => rfl) (w_il (fun _ => rfl) (w_opR shr_lt (fun x3 x30 x31 x3e => ?_)))
    refine w_icI (x := 1) rfl (w_op01 and_1 (fun x4 x40 x41 x4e => ?_))
    refine w_icI (x := 1) rfl ?_
    refine w_eq2 (by omega) (by omega) (by omega) (by omega)  (fun c5 => ?_) (fun c5 => ?_)
    · refine w_run k_745500 (w_icI (x := (-5)) wn_5 (w_ri ?_))
      exact k0 (-5) h iv F (by omega) (by omega) (by omega)
    · refine w_al (fun _ => rfl) (w_icI (x := 0) rfl (w_il (fun _ => rfl) (w_il (fun _ => rfl) (w_il (fun _ => rfl) (w_this (fun _ => rfl) m2 ?_)))))
      refine w_ca (fun _ => rfl) rfl (c_mSays (d := d) iv (wh := 0) (ho := ho) (fr := fr) (t := t) (by omega) (by omega) (by omega) (by omega) (by omega) (by omega) (by omega) (by omega) (by omega) (by omega) (by omega) (by omega)  (fun y6 h7 iv8 F9 b10 b11 => ⟨_, rfl, ?_⟩))
      have F12 := fr_ca F F9 (fun t ht => by exact ht)
      refine w_nez2 (by omega) (by omega)  (fun c13 => ?_) (fun c13 => ?_)
      · refine w_run k_745503 (w_al (fun _ => rfl) ?_)
        have m14 := fr_at F9 m2 iv (ow_31 iv) rfl rfl
        refine w_getf m14 rfl (fun _ => rfl) ?_
        refine w_nez2 (by omega) (by omega)  (fun c15 => ?_) (fun c15 => ?_)
        · refine w_run k_745514 (w_icI (x := (-1)) wn_1 (w_is (fun _ => rfl) (w_icI (x := 0) rfl (w_is (fun _ => rfl) (w_nur k_745520 ?_)))))
          exact l_mStepCost_48     ho_lo ho_hi fr_lo fr_hi t_lo t_hi h0_ h1_ f0_ f1_ t0_ t1_    k0 (g_mnp g - 0 + 1 : Int).toNat h7 (-1) 0 (.inr (.inr (.inl 0))) iv8 F12 (by omega) (by omega) (by omega) (by omega)  (by omega) (by omega) (by omega) (by omega) (by omega)
        · refine w_icI (x := 0) rfl (w_go (w_run k_745515 (w_is (fun _ => rfl) (w_icI (x := 0) rfl (w_is (fun _ => rfl) (w_nur k_745520 ?_))))))
          exact l_mStepCost_48     ho_lo ho_hi fr_lo fr_hi t_lo t_hi h0_ h1_ f0_ f1_ t0_ t1_    k0 (g_mnp g - 0 + 1 : Int).toNat h7 0 0 (.inr (.inr (.inl 0))) iv8 F12 (by omega) (by omega) (by omega) (by omega)  (by omega) (by omega) (by omega) (by omega) (by omega)
      · refine w_icI (x := (-5)) wn_5 (w_ri ?_)
        exact k0 (-5) h7 iv8 F12 (by omega) (by omega) (by omega)
theorem k_749590 : m_cg 749590 = g_183_22 := rfl
theorem l_mFindSteps_22 {g : w_G} {o : w_O} {h0 : m_H} {d : Nat} {Q : Option m_V → m_H → Prop} {ho : Int} {f : Int} (ho_lo : -2147483648 ≤ ho) (ho_hi : ho ≤ 2147483647) (f_lo : -2147483648 ≤ f) (f_hi : f ≤ 2147483647) (h0_ : 0 ≤ ho) (h1_ : ho < g_mH g) (f0_ : 0 ≤ f) (f1_ : f < g_mC g) (k0 : ∀ h2 : m_H, w_Inv g o h2 → w_fr o [54, 55] h0 h2 → Q none h2) (kx : ∀ (t : Int), ∀ h2 : m_H, w_Inv g o h2 → w_fr o [54, 55] h0 h2 → -2147483648 ≤ t → t ≤ 2147483647 → wp (d + 4) 749626 [.inr (.inl (some 31)), .inl (w_i ho), .inl (w_i f), .inl (w_i t)] [] h2 Q) : ∀ (k : Nat) (h : m_H) (t : Int) (iv : w_Inv g o h) (F : w_fr o [54, 55] h0 h) (t_lo : -2147483648 ≤ t) (t_hi : t ≤ 2147483647) (t0_ : 0 ≤ t) (t1_ : t ≤ g_mC g), g_mC g - t < (k : Int) → wp (d + 4) 749590 [.inr (.inl (some 31)), .inl (w_i ho), .inl (w_i f), .inl (w_i t)] [] h Q := by
  intro k
  induction k with
  | zero => intro h t iv F t_lo t_hi t0_ t1_ hk; exact absurd hk (by omega)
  | succ k ih =>
    intro h t iv F t_lo t_hi t0_ t1_ hk
    have W := iv_wm iv
    refine w_run k_749590 (w_il (fun _ => rfl) (w_al (fun _ => rfl) ?_))
    obtain ⟨_, m1, spr1, kee1, rul1, tpd1, nxt1, tok1, tka1, val1, opn1, hm1, row1, ksp1, kke1, kru1, rfl, l1_spr, u1_spr, l1_kee, u1_kee, l1_rul, u1_rul, l1_tpd, u1_tpd, l1_nxt, u1_nxt, l1_tok, u1_tok, l1_tka, u1_tka, l1_val, u1_val, l1_opn, u1_opn, l1_hm, u1_hm, l1_row, u1_row, l1_ksp, u1_ksp, l1_kke, u1_kke, l1_kru, u1_kru, f1_0, f1_1, f1_2, f1_3, f1_4, f1_5, f1_6, f1_7, f1_8, f1_9⟩ := iv_31 iv
    refine w_getf m1 rfl (fun _ => rfl) ?_
    refine w_ge2 (by omega) (by omega) (by omega) (by omega)  (fun c2 => ?_) (fun c2 => ?_)
    · exact kx t h iv F (by omega) (by omega)  
    · refine w_al (fun _ => rfl) (w_getf m1 rfl (fun _ => rfl) (w_icI (x := 25) rfl (w_il (fun _ => rfl) (w_op (c := w_i (25 * ho)) (i_mul 25 ho) (w_icI (x := 5) rfl (w_il (fun _ => rfl) (w_op (c := w_i (5 * f)) (i_mul 5 f) (w_op (c := w_i ((25 * ho) + (5 * f))) (i_add (25 * ho) (5 * f)) (w_il (fun _ => rfl) (w_op (c := w_i (((25 * ho) + (5 * f)) + t)) (i_add ((25 * ho) + (5 * f)) t) (w_al (fun _ => rfl) (w_il (fun _ => rfl) (w_il (fun _ => rfl) (w_il (fun _ => rfl) (w_this (fun _ => rfl) m1 ?_)))))))))))))))
      refine w_ca (fun _ => rfl) rfl (c_mStepCost (d := d) iv (ho := ho) (fr := f) (t := t) (by omega) (by omega) (by omega) (by omega) (by omega) (by omega) (by omega) (by omega) (by omega) (by omega) (by omega) (by omega)  (fun y3 h4 iv5 F6 b7 b8 b9 => ⟨_, rfl, ?_⟩))
      have F10 := fr_ca F F6 (fun t ht => by simp at ht ⊢; omega)
      obtain ⟨_, m11, A11, rfl, e11⟩ := iv_55 iv5
      refine w_astI m11 (by omega) (by omega) (by omega) (by omega) (by omega) (fun A15 h13 w16 s12 => ?_)
      have e17 : ∀ j : Int, 0 ≤ j → j < 150 → a_g A15 j ≤ 2000 := fun j j0 j1 => by
        rw [w16 j j0 j1]
        by_cases hj : j = (((25 * ho) + (5 * f)) + t)
        · rw [if_pos hj]; omega
        · rw [if_neg hj]; exact e11 j j0 j1
      have iv14 := is_55 iv5 s12 ⟨_, rfl, e17⟩
      have F18 := fr_st F10 s12 (by rw [(ow_55 iv5)]; rfl)
      refine w_inc (c := w_i (t + 1)) (fun _ => rfl) (i_addL (y := 1) rfl t) (fun _ => rfl) (w_go ?_)
      exact ih h13 (t + 1) iv14 F18 (by omega) (by omega)  (by omega) (by omega) (by omega)
theorem k_749580 : m_cg 749580 = g_183_12 := rfl
theorem k_749626 : m_cg 749626 = g_183_58 := rfl
theorem l_mFindSteps_12 {g : w_G} {o : w_O} {h0 : m_H} {d : Nat} {Q : Option m_V → m_H → Prop} {ho : Int} (ho_lo : -2147483648 ≤ ho) (ho_hi : ho ≤ 2147483647) (h0_ : 0 ≤ ho) (h1_ : ho < g_mH g) (k0 : ∀ h2 : m_H, w_Inv g o h2 → w_fr o [54, 55] h0 h2 → Q none h2) (kx : ∀ (x3_ : m_V), ∀ (f : Int), ∀ h2 : m_H, w_Inv g o h2 → w_fr o [54, 55] h0 h2 → -2147483648 ≤ f → f ≤ 2147483647 → wp (d + 4) 749632 [.inr (.inl (some 31)), .inl (w_i ho), .inl (w_i f), x3_] [] h2 Q) : ∀ (k : Nat) (h : m_H) (f : Int) (x3_ : m_V) (iv : w_Inv g o h) (F : w_fr o [54, 55] h0 h) (f_lo : -2147483648 ≤ f) (f_hi : f ≤ 2147483647) (f0_ : 0 ≤ f) (f1_ : f ≤ g_mC g), g_mC g - f < (k : Int) → wp (d + 4) 749580 [.inr (.inl (some 31)), .inl (w_i ho), .inl (w_i f), x3_] [] h Q := by
  intro k
  induction k with
  | zero => intro h f x3_ iv F f_lo f_hi f0_ f1_ hk; exact absurd hk (by omega)
  | succ k ih =>
    intro h f x3_ iv F f_lo f_hi f0_ f1_ hk
    have W := iv_wm iv
    refine w_run k_749580 (w_il (fun _ => rfl) (w_al (fun _ => rfl) ?_))
    obtain ⟨_, m1, spr1, kee1, rul1, tpd1, nxt1, tok1, tka1, val1, opn1, hm1, row1, ksp1, kke1, kru1, rfl, l1_spr, u1_spr, l1_kee, u1_kee, l1_rul, u1_rul, l1_tpd, u1_tpd, l1_nxt, u1_nxt, l1_tok, u1_tok, l1_tka, u1_tka, l1_val, u1_val, l1_opn, u1_opn, l1_hm, u1_hm, l1_row, u1_row, l1_ksp, u1_ksp, l1_kke, u1_kke, l1_kru, u1_kru, f1_0, f1_1, f1_2, f1_3, f1_4, f1_5, f1_6, f1_7, f1_8, f1_9⟩ := iv_31 iv
    refine w_getf m1 rfl (fun _ => rfl) ?_
    refine w_ge2 (by omega) (by omega) (by omega) (by omega)  (fun c2 => ?_) (fun c2 => ?_)
    · exact kx (x3_) f h iv F (by omega) (by omega)  
    · refine w_icI (x := 0) rfl (w_is (fun _ => rfl) (w_nur k_749590 ?_))
      refine l_mFindSteps_22   (ho := ho) (f := f)     (by omega) (by omega) (by omega) (by omega) (by omega) (by omega) (by omega) (by omega) k0 (fun t3 h4 iv5 F6 b7 b8 => ?_) (g_mC g - 0 + 1 : Int).toNat h 0 iv F (by omega) (by omega)  (by omega) (by omega) (by omega)
      refine w_run k_749626 (w_inc (c := w_i (f + 1)) (fun _ => rfl) (i_addL (y := 1) rfl f) (fun _ => rfl) (w_go ?_))
      exact ih h4 (f + 1) (.inl (w_i t3)) iv5 F6 (by omega) (by omega)  (by omega) (by omega) (by omega)
theorem k_749570 : m_cg 749570 = g_183_2 := rfl
theorem k_749638 : m_cg 749638 = g_183_70 := rfl
theorem k_749632 : m_cg 749632 = g_183_64 := rfl
theorem l_mFindSteps_2 {g : w_G} {o : w_O} {h0 : m_H} {d : Nat} {Q : Option m_V → m_H → Prop} (k0 : ∀ h2 : m_H, w_Inv g o h2 → w_fr o [54, 55] h0 h2 → Q none h2) : ∀ (k : Nat) (h : m_H) (ho : Int) (x2_ : m_V) (x3_ : m_V) (iv : w_Inv g o h) (F : w_fr o [54, 55] h0 h) (ho_lo : -2147483648 ≤ ho) (ho_hi : ho ≤ 2147483647) (h0_ : 0 ≤ ho) (h1_ : ho ≤ g_mH g), g_mH g - ho < (k : Int) → wp (d + 4) 749570 [.inr (.inl (some 31)), .inl (w_i ho), x2_, x3_] [] h Q := by
  intro k
  induction k with
  | zero => intro h ho x2_ x3_ iv F ho_lo ho_hi h0_ h1_ hk; exact absurd hk (by omega)
  | succ k ih =>
    intro h ho x2_ x3_ iv F ho_lo ho_hi h0_ h1_ hk
    have W := iv_wm iv
    refine w_run k_749570 (w_il (fun _ => rfl) (w_al (fun _ => rfl) ?_))
    obtain ⟨_, m1, spr1, kee1, rul1, tpd1, nxt1, tok1, tka1, val1, opn1, hm1, row1, ksp1, kke1, kru1, rfl, l1_spr, u1_spr, l1_kee, u1_kee, l1_rul, u1_rul, l1_tpd, u1_tpd, l1_nxt, u1_nxt, l1_tok, u1_tok, l1_tka, u1_tka, l1_val, u1_val, l1_opn, u1_opn, l1_hm, u1_hm, l1_row, u1_row, l1_ksp, u1_ksp, l1_kke, u1_kke, l1_kru, u1_kru, f1_0, f1_1, f1_2, f1_3, f1_4, f1_5, f1_6, f1_7, f1_8, f1_9⟩ := iv_31 iv
    refine w_getf m1 rfl (fun _ => rfl) ?_
    refine w_ge2 (by omega) (by omega) (by omega) (by omega)  (fun c2 => ?_) (fun c2 => ?_)
    · refine w_run k_749638 (w_rv ?_)
      exact k0 h iv F
    · refine w_icI (x := 0) rfl (w_is (fun _ => rfl) (w_nur k_749580 ?_))
      refine l_mFindSteps_12   (ho := ho)     (by omega) (by omega) (by omega) (by omega) k0 (fun z4 f3 h5 iv6 F7 b8 b9 => ?_) (g_mC g - 0 + 1 : Int).toNat h 0 (x3_) iv F (by omega) (by omega)  (by omega) (by omega) (by omega)
      refine w_run k_749632 (w_inc (c := w_i (ho + 1)) (fun _ => rfl) (i_addL (y := 1) rfl ho) (fun _ => rfl) (w_go ?_))
      exact ih h5 (ho + 1) (.inl (w_i f3)) (z4) iv6 F7 (by omega) (by omega)  (by omega) (by omega) (by omega)
theorem k_749568 : m_cg 749568 = g_183_0 := rfl
theorem c_mFindSteps {g : w_G} {o : w_O} {h : m_H} {d : Nat} {Q : Option m_V → m_H → Prop} (iv : w_Inv g o h) (k0 : ∀ h2 : m_H, w_Inv g o h2 → w_fr o [54, 55] h h2 → Q none h2) : wp (d + 4) 749568 [.inr (.inl (some 31)), .inr (.inr (.inl 0)), .inr (.inr (.inl 0)), .inr (.inr (.inl 0))] [] h Q := by
  have F := fr_rf (o := o) (h := h) (W := [54, 55])
  have W := iv_wm iv
  refine w_run k_749568 (w_icI (x := 0) rfl (w_is (fun _ => rfl) (w_nur k_749570 ?_)))
  exact l_mFindSteps_2          k0 (g_mH g - 0 + 1 : Int).toNat h 0 (.inr (.inr (.inl 0))) (.inr (.inr (.inl 0))) iv F (by omega) (by omega)  (by omega) (by omega) (by omega)
theorem k_778240 : m_cg 778240 = g_190_0 := rfl
theorem c_mFinds {g : w_G} {o : w_O} {h : m_H} {d : Nat} {Q : Option m_V → m_H → Prop} (iv : w_Inv g o h) (k0 : ∀ h2 : m_H, w_Inv g o h2 → w_fr o [54, 55, 56] h h2 → w_mu g o h2 → Q none h2) : wp (d + 5) 778240 [.inr (.inl (some 31))] [] h Q := by
  have F := fr_rf (o := o) (h := h) (W := [54, 55, 56])
  have W := iv_wm iv
  refine w_run k_778240 (w_al (fun _ => rfl) ?_)
  obtain ⟨_, m1, spr1, kee1, rul1, tpd1, nxt1, tok1, tka1, val1, opn1, hm1, row1, ksp1, kke1, kru1, rfl, l1_spr, u1_spr, l1_kee, u1_kee, l1_rul, u1_rul, l1_tpd, u1_tpd, l1_nxt, u1_nxt, l1_tok, u1_tok, l1_tka, u1_tka, l1_val, u1_val, l1_opn, u1_opn, l1_hm, u1_hm, l1_row, u1_row, l1_ksp, u1_ksp, l1_kke, u1_kke, l1_kru, u1_kru, f1_0, f1_1, f1_2, f1_3, f1_4, f1_5, f1_6, f1_7, f1_8, f1_9⟩ := iv_31 iv
  refine w_this (fun _ => rfl) m1 ?_
  refine w_cv (fun _ => rfl) rfl (c_mFindUnits (d := (d + 4)) iv     (fun h2 iv3 F4 b5 => ⟨rfl, ?_⟩))
  have F6 := fr_ca F F4 (fun t ht => by simp at ht ⊢; omega)
  refine w_al (fun _ => rfl) ?_
  have m7 := fr_at F4 m1 iv (ow_31 iv) rfl rfl
  refine w_this (fun _ => rfl) m7 ?_
  refine w_cv (fun _ => rfl) rfl (c_mFindSteps (d := d) iv3     (fun h8 iv9 F10 => ⟨rfl, ?_⟩))
  have F11 := fr_ca F6 F10 (fun t ht => by simp at ht ⊢; omega)
  refine w_rv ?_
  have mu12 := mu_fr iv3 b5 F10 rfl
  exact k0 h8 iv9 F11 mu12
theorem k_782336 : m_cg 782336 = g_191_0 := rfl
theorem k_782366 : m_cg 782366 = g_191_30 := rfl
theorem k_782367 : m_cg 782367 = g_191_31 := rfl
theorem c_mIsStep {g : w_G} {o : w_O} {h : m_H} {d : Nat} {Q : Option m_V → m_H → Prop} (iv : w_Inv g o h) {ho : Int} {t : Int} (ho_lo : -2147483648 ≤ ho) (ho_hi : ho ≤ 2147483647) (t_lo : -2147483648 ≤ t) (t_hi : t ≤ 2147483647) (k0 : 0 ≤ ho → ho < g_mH g → 0 ≤ t → t < g_mC g → Q (some (.inl (w_i 1))) h) (k1 : Q (some (.inl (w_i 0))) h) : wp (d + 1) 782336 [.inr (.inl (some 31)), .inl (w_i ho), .inl (w_i t)] [] h Q := by
  have W := iv_wm iv
  refine w_run k_782336 (w_al (fun _ => rfl) (w_il (fun _ => rfl) ?_))
  obtain ⟨_, m1, spr1, kee1, rul1, tpd1, nxt1, tok1, tka1, val1, opn1, hm1, row1, ksp1, kke1, kru1, rfl, l1_spr, u1_spr, l1_kee, u1_kee, l1_rul, u1_rul, l1_tpd, u1_tpd, l1_nxt, u1_nxt, l1_tok, u1_tok, l1_tka, u1_tka, l1_val, u1_val, l1_opn, u1_opn, l1_hm, u1_hm, l1_row, u1_row, l1_ksp, u1_ksp, l1_kke, u1_kke, l1_kru, u1_kru, f1_0, f1_1, f1_2, f1_3, f1_4, f1_5, f1_6, f1_7, f1_8, f1_9⟩ := iv_31 iv
  refine w_this (fun _ => rfl) m1 ?_
  refine w_ca (fun _ => rfl) rfl (c_mIsHouse (d := d) iv (n := ho) (by omega) (by omega)   (fun b2 b3 => ⟨_, rfl, ?_⟩) (fun b4 => ⟨_, rfl, ?_⟩))
  · refine w_eqzf (by omega) (by omega) (by omega)  (w_al (fun _ => rfl) (w_il (fun _ => rfl) (w_this (fun _ => rfl) m1 ?_)))
    refine w_ca (fun _ => rfl) rfl (c_mIsColour (d := d) iv (n := t) (by omega) (by omega)   (fun b5 b6 => ⟨_, rfl, ?_⟩) (fun b7 => ⟨_, rfl, ?_⟩))
    · refine w_eqzf (by omega) (by omega) (by omega)  (w_al (fun _ => rfl) (w_getf m1 rfl (fun _ => rfl) (w_il (fun _ => rfl) ?_)))
      obtain ⟨_, m8, A8, rfl, e8⟩ := iv_33 iv
      refine w_aldI m8 (by omega) (by omega) (by omega) ?_
      obtain ⟨b9, b10⟩ := ag_rg A8 ho
      have e11 := e8 ho (by omega) (by omega)
      refine w_il (fun _ => rfl) ?_
      refine w_eq2 (by omega) (by omega) (by omega) (by omega)  (fun c12 => ?_) (fun c12 => ?_)
      · refine w_run k_782366 (w_icI (x := 0) rfl (w_rz (by decide) ?_))
        exact k1 
      · refine w_icI (x := 1) rfl (w_go (w_run k_782367 (w_rz (by decide) ?_)))
        exact k0 (by omega) (by omega) (by omega) (by omega)
    · refine w_eqzt (by omega) (by omega) (by omega)  (w_run k_782366 (w_icI (x := 0) rfl (w_rz (by decide) ?_)))
      exact k1 
  · refine w_eqzt (by omega) (by omega) (by omega)  (w_run k_782366 (w_icI (x := 0) rfl (w_rz (by decide) ?_)))
    exact k1 
theorem k_786432 : m_cg 786432 = g_192_0 := rfl
theorem k_786444 : m_cg 786444 = g_192_12 := rfl
theorem c_mStep {g : w_G} {o : w_O} {h : m_H} {d : Nat} {Q : Option m_V → m_H → Prop} (iv : w_Inv g o h) {ho : Int} {t : Int} (ho_lo : -2147483648 ≤ ho) (ho_hi : ho ≤ 2147483647) (t_lo : -2147483648 ≤ t) (t_hi : t ≤ 2147483647) (k0 : ∀ (x : Int), ∀ h2 : m_H, w_Inv g o h2 → w_fr o [54, 55, 56] h h2 → -2147483648 ≤ x → x ≤ 2147483647 → Q (some (.inl (w_i x))) h2) : wp (d + 6) 786432 [.inr (.inl (some 31)), .inl (w_i ho), .inl (w_i t)] [] h Q := by
  have F := fr_rf (o := o) (h := h) (W := [54, 55, 56])
  have W := iv_wm iv
  refine w_run k_786432 (w_al (fun _ => rfl) (w_il (fun _ => rfl) (w_il (fun _ => rfl) ?_)))
  obtain ⟨_, m1, spr1, kee1, rul1, tpd1, nxt1, tok1, tka1, val1, opn1, hm1, row1, ksp1, kke1, kru1, rfl, l1_spr, u1_spr, l1_kee, u1_kee, l1_rul, u1_rul, l1_tpd, u1_tpd, l1_nxt, u1_nxt, l1_tok, u1_tok, l1_tka, u1_tka, l1_val, u1_val, l1_opn, u1_opn, l1_hm, u1_hm, l1_row, u1_row, l1_ksp, u1_ksp, l1_kke, u1_kke, l1_kru, u1_kru, f1_0, f1_1, f1_2, f1_3, f1_4, f1_5, f1_6, f1_7, f1_8, f1_9⟩ := iv_31 iv
  refine w_this (fun _ => rfl) m1 ?_
  refine w_ca (fun _ => rfl) rfl (c_mIsStep (d := (d + 4)) iv (ho := ho) (t := t) (by omega) (by omega) (by omega) (by omega)   (fun b2 b3 b4 b5 => ⟨_, rfl, ?_⟩) ⟨_, rfl, ?_⟩)
  · refine w_nezt (by omega) (by omega) (by omega)  (w_run k_786444 (w_al (fun _ => rfl) (w_this (fun _ => rfl) m1 ?_)))
    refine w_cv (fun _ => rfl) rfl (c_mFinds (d := d) iv     (fun h6 iv7 F8 b9 => ⟨rfl, ?_⟩))
    have F10 := fr_ca F F8 (fun t ht => by exact ht)
    refine w_al (fun _ => rfl) (w_al (fun _ => rfl) ?_)
    have m11 := fr_at F8 m1 iv (ow_31 iv) rfl rfl
    refine w_this (fun _ => rfl) m11 ?_
    refine w_ca (fun _ => rfl) rfl (c_mTownNow (d := (d + 5)) iv7     (fun y12 b13 b14 b15 b16 => ⟨_, rfl, ?_⟩))
    refine w_il (fun _ => rfl) (w_il (fun _ => rfl) (w_this (fun _ => rfl) m11 ?_))
    refine w_ca (fun _ => rfl) rfl (c_mCostIn (d := (d + 4)) iv7 (tn := y12) (ii := ho) (t := t) (by omega) (by omega) (by omega) (by omega) (by omega) (by omega) (by omega) (by omega) (by omega) (by omega) (by omega) b9 (fun y17 b18 b19 b20 => ⟨_, rfl, ?_⟩))
    refine w_ri ?_
    exact k0 y17 h6 iv7 F10 (by omega) (by omega)
  · refine w_nezf (by omega) (by omega) (by omega)  (w_icI (x := (-2)) wn_2 (w_ri ?_))
    exact k0 (-2) h iv F (by omega) (by omega)
theorem k_790528 : m_cg 790528 = g_193_0 := rfl
theorem k_790550 : m_cg 790550 = g_193_22 := rfl
theorem k_790576 : m_cg 790576 = g_193_48 := rfl
theorem k_790577 : m_cg 790577 = g_193_49 := rfl
theorem c_mPaintsOne {g : w_G} {o : w_O} {h : m_H} {d : Nat} {Q : Option m_V → m_H → Prop} (iv : w_Inv g o h) {ho : Int} {t : Int} (ho_lo : -2147483648 ≤ ho) (ho_hi : ho ≤ 2147483647) (t_lo : -2147483648 ≤ t) (t_hi : t ≤ 2147483647) (h0_ : 0 ≤ ho) (h1_ : ho < g_mH g) (t0_ : 0 ≤ t) (t1_ : t < g_mC g) (k0 : ∀ (x : Int), ∀ h2 : m_H, w_Inv g o h2 → w_fr o [31, 33, 54, 55, 56] h h2 → -2147483648 ≤ x → x ≤ 2147483647 → Q (some (.inl (w_i x))) h2) : wp (d + 6) 790528 [.inr (.inl (some 31)), .inl (w_i ho), .inl (w_i t), .inr (.inr (.inl 0))] [] h Q := by
  have F := fr_rf (o := o) (h := h) (W := [31, 33, 54, 55, 56])
  have W := iv_wm iv
  refine w_run k_790528 (w_al (fun _ => rfl) ?_)
  obtain ⟨_, m1, spr1, kee1, rul1, tpd1, nxt1, tok1, tka1, val1, opn1, hm1, row1, ksp1, kke1, kru1, rfl, l1_spr, u1_spr, l1_kee, u1_kee, l1_rul, u1_rul, l1_tpd, u1_tpd, l1_nxt, u1_nxt, l1_tok, u1_tok, l1_tka, u1_tka, l1_val, u1_val, l1_opn, u1_opn, l1_hm, u1_hm, l1_row, u1_row, l1_ksp, u1_ksp, l1_kke, u1_kke, l1_kru, u1_kru, f1_0, f1_1, f1_2, f1_3, f1_4, f1_5, f1_6, f1_7, f1_8, f1_9⟩ := iv_31 iv
  refine w_this (fun _ => rfl) m1 ?_
  refine w_cv (fun _ => rfl) rfl (c_mFinds (d := d) iv     (fun h2 iv3 F4 b5 => ⟨rfl, ?_⟩))
  have F6 := fr_ca F F4 (fun t ht => by simp at ht ⊢; omega)
  refine w_al (fun _ => rfl) (w_al (fun _ => rfl) ?_)
  have m7 := fr_at F4 m1 iv (ow_31 iv) rfl rfl
  refine w_this (fun _ => rfl) m7 ?_
  refine w_ca (fun _ => rfl) rfl (c_mTownNow (d := (d + 5)) iv3     (fun y8 b9 b10 b11 b12 => ⟨_, rfl, ?_⟩))
  refine w_il (fun _ => rfl) (w_il (fun _ => rfl) (w_this (fun _ => rfl) m7 ?_))
  refine w_ca (fun _ => rfl) rfl (c_mCostIn (d := (d + 4)) iv3 (tn := y8) (ii := ho) (t := t) (by omega) (by omega) (by omega) (by omega) (by omega) (by omega) (by omega) (by omega) (by omega) (by omega) (by omega) b5 (fun y13 b14 b15 b16 => ⟨_, rfl, ?_⟩))
  refine w_is (fun _ => rfl) (w_il (fun _ => rfl) ?_)
  refine w_gez2 (by omega) (by omega)  (fun c17 => ?_) (fun c17 => ?_)
  · refine w_run k_790550 (w_al (fun _ => rfl) (w_getf m7 rfl (fun _ => rfl) (w_il (fun _ => rfl) (w_il (fun _ => rfl) ?_))))
    obtain ⟨_, m18, A18, rfl, e18⟩ := iv_33 iv3
    refine w_astI m18 (by omega) (by omega) (by omega) (by omega) (by omega) (fun A22 h20 w23 s19 => ?_)
    have e24 : ∀ j : Int, 0 ≤ j → j < 6 → 0 ≤ a_g A22 j ∧ a_g A22 j < g_mC g := fun j j0 j1 => by
      rw [w23 j j0 j1]
      by_cases hj : j = ho
      · rw [if_pos hj]; omega
      · rw [if_neg hj]; exact e18 j j0 j1
    have iv21 := is_33 iv3 s19 ⟨_, rfl, e24⟩
    have F25 := fr_st F6 s19 (by rw [(ow_33 iv3)]; rfl)
    refine w_al (fun _ => rfl) (w_dup (fun _ => rfl) ?_)
    have m26 := st_fr s19 m7 (by decide)
    refine w_getf m26 rfl (fun _ => rfl) (w_al (fun _ => rfl) (w_getf m26 rfl (fun _ => rfl) (w_icI (x := 999) rfl ?_)))
    refine w_ge2 (by omega) (by omega) (by omega) (by omega)  (fun c27 => ?_) (fun c27 => ?_)
    · refine w_run k_790576 (w_icI (x := 0) rfl (w_op (c := w_i (spr1 + 0)) (i_add spr1 0) (w_putf [.inr (.inl (some 32)), .inr (.inl (some 33)), .inr (.inl (some 34)), .inr (.inl (some 35)), .inr (.inl (some 36)), .inl (w_i (g_mH g)), .inl (w_i (g_mC g)), .inl (w_i (spr1 + 0)), .inl (w_i kee1), .inl (w_i (g_mnp g)), .inl (w_i rul1), .inl (w_i (g_mhi g)), .inr (.inl (some 37)), .inr (.inl (some 50)), .inr (.inl (some 51)), .inr (.inl (some 52)), .inr (.inl (some 53)), .inr (.inl (some 54)), .inl (w_i tpd1), .inl (w_i (g_mnt g)), .inl (w_i nxt1), .inl (w_i tok1), .inl (w_i tka1), .inl (w_i val1), .inl (w_i opn1), .inl (w_i hm1), .inl (w_i row1), .inr (.inl (some 55)), .inr (.inl (some 56)), .inr (.inl (some 57)), .inr (.inl (some 58)), .inr (.inl (some 59)), .inr (.inl (some 60)), .inr (.inl (some 61)), .inr (.inl (some 62)), .inl (w_i ksp1), .inl (w_i kke1), .inl (w_i kru1), .inr (.inl (some 63)), .inr (.inl (some 64)), .inr (.inl (some 65)), .inr (.inl (some 66))] m26 rfl rfl rfl (fun _ => rfl) (fun h29 s28 => ?_))))
      have iv30 := is_31 iv21 s28 ⟨_, _, _, _, _, _, _, _, _, _, _, _, _, _, rfl, by omega, by omega, by omega, by omega, by omega, by omega, by omega, by omega, by omega, by omega, by omega, by omega, by omega, by omega, by omega, by omega, by omega, by omega, by omega, by omega, by omega, by omega, by omega, by omega, by omega, by omega, by omega, by omega, by omega, by omega, by omega, by omega, by omega, by omega, by omega, by omega, by omega, by omega⟩
      have F31 := fr_st F25 s28 (by rw [(ow_31 iv21)]; rfl)
      refine w_il (fun _ => rfl) (w_ri ?_)
      exact k0 y13 h29 iv30 F31 (by omega) (by omega)
    · refine w_icI (x := 1) rfl (w_go (w_run k_790577 (w_op (c := w_i (spr1 + 1)) (i_add spr1 1) (w_putf [.inr (.inl (some 32)), .inr (.inl (some 33)), .inr (.inl (some 34)), .inr (.inl (some 35)), .inr (.inl (some 36)), .inl (w_i (g_mH g)), .inl (w_i (g_mC g)), .inl (w_i (spr1 + 1)), .inl (w_i kee1), .inl (w_i (g_mnp g)), .inl (w_i rul1), .inl (w_i (g_mhi g)), .inr (.inl (some 37)), .inr (.inl (some 50)), .inr (.inl (some 51)), .inr (.inl (some 52)), .inr (.inl (some 53)), .inr (.inl (some 54)), .inl (w_i tpd1), .inl (w_i (g_mnt g)), .inl (w_i nxt1), .inl (w_i tok1), .inl (w_i tka1), .inl (w_i val1), .inl (w_i opn1), .inl (w_i hm1), .inl (w_i row1), .inr (.inl (some 55)), .inr (.inl (some 56)), .inr (.inl (some 57)), .inr (.inl (some 58)), .inr (.inl (some 59)), .inr (.inl (some 60)), .inr (.inl (some 61)), .inr (.inl (some 62)), .inl (w_i ksp1), .inl (w_i kke1), .inl (w_i kru1), .inr (.inl (some 63)), .inr (.inl (some 64)), .inr (.inl (some 65)), .inr (.inl (some 66))] m26 rfl rfl rfl (fun _ => rfl) (fun h33 s32 => ?_)))))
      have iv34 := is_31 iv21 s32 ⟨_, _, _, _, _, _, _, _, _, _, _, _, _, _, rfl, by omega, by omega, by omega, by omega, by omega, by omega, by omega, by omega, by omega, by omega, by omega, by omega, by omega, by omega, by omega, by omega, by omega, by omega, by omega, by omega, by omega, by omega, by omega, by omega, by omega, by omega, by omega, by omega, by omega, by omega, by omega, by omega, by omega, by omega, by omega, by omega, by omega, by omega⟩
      have F35 := fr_st F25 s32 (by rw [(ow_31 iv21)]; rfl)
      refine w_il (fun _ => rfl) (w_ri ?_)
      exact k0 y13 h33 iv34 F35 (by omega) (by omega)
  · refine w_icI (x := (-3)) wn_3 (w_ri ?_)
    exact k0 (-3) h2 iv3 F6 (by omega) (by omega)
theorem k_794624 : m_cg 794624 = g_194_0 := rfl
theorem k_794644 : m_cg 794644 = g_194_20 := rfl
theorem k_794642 : m_cg 794642 = g_194_18 := rfl
theorem c_mPaint {g : w_G} {o : w_O} {h : m_H} {d : Nat} {Q : Option m_V → m_H → Prop} (iv : w_Inv g o h) {ho : Int} {t : Int} (ho_lo : -2147483648 ≤ ho) (ho_hi : ho ≤ 2147483647) (t_lo : -2147483648 ≤ t) (t_hi : t ≤ 2147483647) (k0 : ∀ (x : Int), ∀ h2 : m_H, w_Inv g o h2 → w_fr o [31, 33, 54, 55, 56] h h2 → -2147483648 ≤ x → x ≤ 2147483647 → Q (some (.inl (w_i x))) h2) : wp (d + 7) 794624 [.inr (.inl (some 31)), .inl (w_i ho), .inl (w_i t)] [] h Q := by
  have F := fr_rf (o := o) (h := h) (W := [31, 33, 54, 55, 56])
  have W := iv_wm iv
  refine w_run k_794624 (w_al (fun _ => rfl) (w_il (fun _ => rfl) (w_il (fun _ => rfl) ?_)))
  obtain ⟨_, m1, spr1, kee1, rul1, tpd1, nxt1, tok1, tka1, val1, opn1, hm1, row1, ksp1, kke1, kru1, rfl, l1_spr, u1_spr, l1_kee, u1_kee, l1_rul, u1_rul, l1_tpd, u1_tpd, l1_nxt, u1_nxt, l1_tok, u1_tok, l1_tka, u1_tka, l1_val, u1_val, l1_opn, u1_opn, l1_hm, u1_hm, l1_row, u1_row, l1_ksp, u1_ksp, l1_kke, u1_kke, l1_kru, u1_kru, f1_0, f1_1, f1_2, f1_3, f1_4, f1_5, f1_6, f1_7, f1_8, f1_9⟩ := iv_31 iv
  refine w_this (fun _ => rfl) m1 ?_
  refine w_ca (fun _ => rfl) rfl (c_mIsStep (d := (d + 5)) iv (ho := ho) (t := t) (by omega) (by omega) (by omega) (by omega)   (fun b2 b3 b4 b5 => ⟨_, rfl, ?_⟩) ⟨_, rfl, ?_⟩)
  · refine w_eqzf (by omega) (by omega) (by omega)  (w_al (fun _ => rfl) (w_il (fun _ => rfl) (w_il (fun _ => rfl) (w_this (fun _ => rfl) m1 ?_))))
    refine w_ca (fun _ => rfl) rfl (c_mPaintsOne (d := d) iv (ho := ho) (t := t) (by omega) (by omega) (by omega) (by omega) (by omega) (by omega) (by omega) (by omega)  (fun y6 h7 iv8 F9 b10 b11 => ⟨_, rfl, ?_⟩))
    have F12 := fr_ca F F9 (fun t ht => by exact ht)
    refine w_go (w_run k_794644 (w_ri ?_))
    exact k0 y6 h7 iv8 F12 (by omega) (by omega)
  · refine w_eqzt (by omega) (by omega) (by omega)  (w_run k_794642 (w_icI (x := (-2)) wn_2 (w_ri ?_)))
    exact k0 (-2) h iv F (by omega) (by omega)
theorem k_856091 : m_cg 856091 = g_209_27 := rfl
theorem k_856131 : m_cg 856131 = g_209_67 := rfl
theorem k_856122 : m_cg 856122 = g_209_58 := rfl
theorem k_856123 : m_cg 856123 = g_209_59 := rfl
theorem l_mGap_27 {g : w_G} {o : w_O} {h : m_H} {d : Nat} {Q : Option m_V → m_H → Prop} (iv : w_Inv g o h) {to : Int} (to_lo : -2147483648 ≤ to) (to_hi : to ≤ 2147483647) (k0 : ∀ (x : Int), -2147483648 ≤ x → x ≤ 2147483647 → Q (some (.inl (w_i x))) h) : ∀ (k : Nat) (bt i : Int) (bt_lo : -2147483648 ≤ bt) (bt_hi : bt ≤ 2147483647) (i_lo : -2147483648 ≤ i) (i_hi : i ≤ 2147483647) (i0 : 0 ≤ i) (i1 : i ≤ g_mH g), g_mH g - i < (k : Int) → wp d 856091 [.inr (.inl (some 31)), .inl (w_i to), .inl (w_i bt), .inl (w_i i)] [] h Q := by
  intro k
  induction k with
  | zero => intro bt i bt_lo bt_hi i_lo i_hi i0 i1 hk; exact absurd hk (by omega)
  | succ k ih =>
    intro bt i bt_lo bt_hi i_lo i_hi i0 i1 hk
    have W := iv_wm iv
    refine w_run k_856091 (w_il (fun _ => rfl) (w_al (fun _ => rfl) ?_))
    obtain ⟨_, m1, spr1, kee1, rul1, tpd1, nxt1, tok1, tka1, val1, opn1, hm1, row1, ksp1, kke1, kru1, rfl, l1_spr, u1_spr, l1_kee, u1_kee, l1_rul, u1_rul, l1_tpd, u1_tpd, l1_nxt, u1_nxt, l1_tok, u1_tok, l1_tka, u1_tka, l1_val, u1_val, l1_opn, u1_opn, l1_hm, u1_hm, l1_row, u1_row, l1_ksp, u1_ksp, l1_kke, u1_kke, l1_kru, u1_kru, f1_0, f1_1, f1_2, f1_3, f1_4, f1_5, f1_6, f1_7, f1_8, f1_9⟩ := iv_31 iv
    refine w_getf m1 rfl (fun _ => rfl) ?_
    refine w_ge2 (by omega) (by omega) (by omega) (by omega)  (fun c2 => ?_) (fun c2 => ?_)
    · refine w_run k_856131 (w_il (fun _ => rfl) (w_ri ?_))
      exact k0 bt (by omega) (by omega)
    · refine w_il (fun _ => rfl) (w_il (fun _ => rfl) (w_il (fun _ => rfl) (w_opR shr_lt (fun x3 x30 x31 x3e => ?_))))
      refine w_icI (x := 1) rfl (w_op01 and_1 (fun x4 x40 x41 x4e => ?_))
      refine w_icI (x := 1) rfl ?_
      refine w_ne2 (by omega) (by omega) (by omega) (by omega)  (fun c5 => ?_) (fun c5 => ?_)
      · refine w_run k_856122 (w_icI (x := (-1)) wn_1 (w_opR and_lt (fun x6 x60 x61 x6e => ?_)))
        refine w_is (fun _ => rfl) (w_inc (c := w_i (i + 1)) (fun _ => rfl) (i_addL (y := 1) rfl i) (fun _ => rfl) (w_go ?_))
        exact ih x6 (i + 1) (by omega) (by omega) (by omega) (by omega)  (by omega) (by omega) (by omega)
      · refine w_icI (x := 1) rfl (w_al (fun _ => rfl) (w_getf m1 rfl (fun _ => rfl) (w_il (fun _ => rfl) ?_)))
        obtain ⟨_, m7, A7, rfl, e7⟩ := iv_33 iv
        refine w_aldI m7 (by omega) (by omega) (by omega) ?_
        obtain ⟨b8, b9⟩ := ag_rg A7 i
        have e10 := e7 i (by omega) (by omega)
        refine w_opR shl_lt (fun x11 x110 x111 x11e => ?_)
        refine w_icI (x := (-1)) wn_1 (w_opR xor_lt (fun x12 x120 x121 x12e => ?_))
        refine w_go (w_run k_856123 (w_opR and_lt (fun x13 x130 x131 x13e => ?_)))
        refine w_is (fun _ => rfl) (w_inc (c := w_i (i + 1)) (fun _ => rfl) (i_addL (y := 1) rfl i) (fun _ => rfl) (w_go ?_))
        exact ih x13 (i + 1) (by omega) (by omega) (by omega) (by omega)  (by omega) (by omega) (by omega)
theorem k_856064 : m_cg 856064 = g_209_0 := rfl
theorem k_856077 : m_cg 856077 = g_209_13 := rfl
theorem k_856080 : m_cg 856080 = g_209_16 := rfl
theorem c_mGap {g : w_G} {o : w_O} {h : m_H} {d : Nat} {Q : Option m_V → m_H → Prop} (iv : w_Inv g o h) {to : Int} (to_lo : -2147483648 ≤ to) (to_hi : to ≤ 2147483647) (k0 : ∀ (x : Int), -2147483648 ≤ x → x ≤ 2147483647 → Q (some (.inl (w_i x))) h) : wp d 856064 [.inr (.inl (some 31)), .inl (w_i to), .inr (.inr (.inl 0)), .inr (.inr (.inl 0))] [] h Q := by
  have W := iv_wm iv
  refine w_run k_856064 (w_il (fun _ => rfl) ?_)
  refine w_ltz2 (by omega) (by omega)  (fun c1 => ?_) (fun c1 => ?_)
  · refine w_run k_856077 (w_icI (x := (-2)) wn_2 (w_ri ?_))
    exact k0 (-2) (by omega) (by omega)
  · refine w_il (fun _ => rfl) (w_al (fun _ => rfl) ?_)
    obtain ⟨_, m2, spr2, kee2, rul2, tpd2, nxt2, tok2, tka2, val2, opn2, hm2, row2, ksp2, kke2, kru2, rfl, l2_spr, u2_spr, l2_kee, u2_kee, l2_rul, u2_rul, l2_tpd, u2_tpd, l2_nxt, u2_nxt, l2_tok, u2_tok, l2_tka, u2_tka, l2_val, u2_val, l2_opn, u2_opn, l2_hm, u2_hm, l2_row, u2_row, l2_ksp, u2_ksp, l2_kke, u2_kke, l2_kru, u2_kru, f2_0, f2_1, f2_2, f2_3, f2_4, f2_5, f2_6, f2_7, f2_8, f2_9⟩ := iv_31 iv
    refine w_getf m2 rfl (fun _ => rfl) (w_opR shr_lt (fun x3 x30 x31 x3e => ?_))
    refine w_eqz2 (by omega) (by omega)  (fun c4 => ?_) (fun c4 => ?_)
    · refine w_run k_856080 (w_icI (x := 1) rfl (w_al (fun _ => rfl) (w_getf m2 rfl (fun _ => rfl) (w_opR shl_lt (fun x5 x50 x51 x5e => ?_)))))
      refine w_icI (x := 1) rfl (w_opR sub_lt (fun x6 x60 x61 x6e => ?_))
      refine w_is (fun _ => rfl) (w_icI (x := 0) rfl (w_is (fun _ => rfl) (w_nur k_856091 ?_)))
      exact l_mGap_27 iv    to_lo to_hi     k0 (g_mH g - 0 + 1 : Int).toNat x6 0 (by omega) (by omega) (by omega) (by omega)  (by omega) (by omega) (by omega)
    · refine w_icI (x := (-2)) wn_2 (w_ri ?_)
      exact k0 (-2) (by omega) (by omega)
theorem k_897024 : m_cg 897024 = g_219_0 := rfl
theorem k_897037 : m_cg 897037 = g_219_13 := rfl
theorem k_897038 : m_cg 897038 = g_219_14 := rfl
theorem c_mIsSheet {g : w_G} {o : w_O} {h : m_H} {d : Nat} {Q : Option m_V → m_H → Prop} (iv : w_Inv g o h) {n : Int} (n_lo : -2147483648 ≤ n) (n_hi : n ≤ 2147483647) (k0 : 0 ≤ n → n < 4 → Q (some (.inl (w_i 1))) h) (k1 : (n < 0 ∨ 4 ≤ n) → Q (some (.inl (w_i 0))) h) : wp d 897024 [.inl (w_i n)] [] h Q := by
  have W := iv_wm iv
  refine w_run k_897024 (w_il (fun _ => rfl) ?_)
  refine w_ltz2 (by omega) (by omega)  (fun c1 => ?_) (fun c1 => ?_)
  · refine w_run k_897037 (w_icI (x := 0) rfl (w_rz (by decide) ?_))
    exact k1 (by omega)
  · refine w_il (fun _ => rfl) (w_icI (x := 4) rfl ?_)
    refine w_ge2 (by omega) (by omega) (by omega) (by omega)  (fun c2 => ?_) (fun c2 => ?_)
    · refine w_run k_897037 (w_icI (x := 0) rfl (w_rz (by decide) ?_))
      exact k1 (by omega)
    · refine w_icI (x := 1) rfl (w_go (w_run k_897038 (w_rz (by decide) ?_)))
      exact k0 (by omega) (by omega)
theorem k_892928 : m_cg 892928 = g_218_0 := rfl
theorem k_892976 : m_cg 892976 = g_218_48 := rfl
theorem k_892981 : m_cg 892981 = g_218_53 := rfl
theorem k_892986 : m_cg 892986 = g_218_58 := rfl
theorem k_892991 : m_cg 892991 = g_218_63 := rfl
theorem k_892996 : m_cg 892996 = g_218_68 := rfl
theorem k_893001 : m_cg 893001 = g_218_73 := rfl
theorem k_893006 : m_cg 893006 = g_218_78 := rfl
theorem k_893011 : m_cg 893011 = g_218_83 := rfl
theorem k_893016 : m_cg 893016 = g_218_88 := rfl
theorem c_mCount {g : w_G} {o : w_O} {h : m_H} {d : Nat} {Q : Option m_V → m_H → Prop} (iv : w_Inv g o h) {n : Int} (n_lo : -2147483648 ≤ n) (n_hi : n ≤ 2147483647) (k0 : ∀ (x : Int), -2147483648 ≤ x → x ≤ 2147483647 → Q (some (.inl (w_i x))) h) : wp (d + 1) 892928 [.inr (.inl (some 31)), .inl (w_i n)] [] h Q := by
  have W := iv_wm iv
  refine w_run k_892928 (w_il (fun _ => rfl) ?_)
  by_cases c1 : n = 0
  · rw [show (n : Int) = 0 from c1]
    refine w_tsw (t := 892976) (fun _ => rfl) (w_run k_892976 (w_al (fun _ => rfl) ?_))
    obtain ⟨_, m2, spr2, kee2, rul2, tpd2, nxt2, tok2, tka2, val2, opn2, hm2, row2, ksp2, kke2, kru2, rfl, l2_spr, u2_spr, l2_kee, u2_kee, l2_rul, u2_rul, l2_tpd, u2_tpd, l2_nxt, u2_nxt, l2_tok, u2_tok, l2_tka, u2_tka, l2_val, u2_val, l2_opn, u2_opn, l2_hm, u2_hm, l2_row, u2_row, l2_ksp, u2_ksp, l2_kke, u2_kke, l2_kru, u2_kru, f2_0, f2_1, f2_2, f2_3, f2_4, f2_5, f2_6, f2_7, f2_8, f2_9⟩ := iv_31 iv
    refine w_getf m2 rfl (fun _ => rfl) (w_ri ?_)
    exact k0 (g_mH g) (by omega) (by omega)
  by_cases c3 : n = 1
  · rw [show (n : Int) = 1 from c3]
    refine w_tsw (t := 892981) (fun _ => rfl) (w_run k_892981 (w_al (fun _ => rfl) ?_))
    obtain ⟨_, m4, spr4, kee4, rul4, tpd4, nxt4, tok4, tka4, val4, opn4, hm4, row4, ksp4, kke4, kru4, rfl, l4_spr, u4_spr, l4_kee, u4_kee, l4_rul, u4_rul, l4_tpd, u4_tpd, l4_nxt, u4_nxt, l4_tok, u4_tok, l4_tka, u4_tka, l4_val, u4_val, l4_opn, u4_opn, l4_hm, u4_hm, l4_row, u4_row, l4_ksp, u4_ksp, l4_kke, u4_kke, l4_kru, u4_kru, f4_0, f4_1, f4_2, f4_3, f4_4, f4_5, f4_6, f4_7, f4_8, f4_9⟩ := iv_31 iv
    refine w_getf m4 rfl (fun _ => rfl) (w_ri ?_)
    exact k0 (g_mC g) (by omega) (by omega)
  by_cases c5 : n = 2
  · rw [show (n : Int) = 2 from c5]
    refine w_tsw (t := 892986) (fun _ => rfl) (w_run k_892986 (w_al (fun _ => rfl) ?_))
    obtain ⟨_, m6, spr6, kee6, rul6, tpd6, nxt6, tok6, tka6, val6, opn6, hm6, row6, ksp6, kke6, kru6, rfl, l6_spr, u6_spr, l6_kee, u6_kee, l6_rul, u6_rul, l6_tpd, u6_tpd, l6_nxt, u6_nxt, l6_tok, u6_tok, l6_tka, u6_tka, l6_val, u6_val, l6_opn, u6_opn, l6_hm, u6_hm, l6_row, u6_row, l6_ksp, u6_ksp, l6_kke, u6_kke, l6_kru, u6_kru, f6_0, f6_1, f6_2, f6_3, f6_4, f6_5, f6_6, f6_7, f6_8, f6_9⟩ := iv_31 iv
    refine w_getf m6 rfl (fun _ => rfl) (w_ri ?_)
    exact k0 (g_mnp g) (by omega) (by omega)
  by_cases c7 : n = 3
  · rw [show (n : Int) = 3 from c7]
    refine w_tsw (t := 892991) (fun _ => rfl) (w_run k_892991 (w_al (fun _ => rfl) ?_))
    obtain ⟨_, m8, spr8, kee8, rul8, tpd8, nxt8, tok8, tka8, val8, opn8, hm8, row8, ksp8, kke8, kru8, rfl, l8_spr, u8_spr, l8_kee, u8_kee, l8_rul, u8_rul, l8_tpd, u8_tpd, l8_nxt, u8_nxt, l8_tok, u8_tok, l8_tka, u8_tka, l8_val, u8_val, l8_opn, u8_opn, l8_hm, u8_hm, l8_row, u8_row, l8_ksp, u8_ksp, l8_kke, u8_kke, l8_kru, u8_kru, f8_0, f8_1, f8_2, f8_3, f8_4, f8_5, f8_6, f8_7, f8_8, f8_9⟩ := iv_31 iv
    refine w_getf m8 rfl (fun _ => rfl) (w_ri ?_)
    exact k0 spr8 (by omega) (by omega)
  by_cases c9 : n = 4
  · rw [show (n : Int) = 4 from c9]
    refine w_tsw (t := 892996) (fun _ => rfl) (w_run k_892996 (w_al (fun _ => rfl) ?_))
    obtain ⟨_, m10, spr10, kee10, rul10, tpd10, nxt10, tok10, tka10, val10, opn10, hm10, row10, ksp10, kke10, kru10, rfl, l10_spr, u10_spr, l10_kee, u10_kee, l10_rul, u10_rul, l10_tpd, u10_tpd, l10_nxt, u10_nxt, l10_tok, u10_tok, l10_tka, u10_tka, l10_val, u10_val, l10_opn, u10_opn, l10_hm, u10_hm, l10_row, u10_row, l10_ksp, u10_ksp, l10_kke, u10_kke, l10_kru, u10_kru, f10_0, f10_1, f10_2, f10_3, f10_4, f10_5, f10_6, f10_7, f10_8, f10_9⟩ := iv_31 iv
    refine w_this (fun _ => rfl) m10 ?_
    refine w_ca (fun _ => rfl) rfl (c_mTownNow (d := d) iv     (fun y11 b12 b13 b14 b15 => ⟨_, rfl, ?_⟩))
    refine w_ri ?_
    exact k0 y11 (by omega) (by omega)
  by_cases c16 : n = 5
  · rw [show (n : Int) = 5 from c16]
    refine w_tsw (t := 893001) (fun _ => rfl) (w_run k_893001 (w_al (fun _ => rfl) ?_))
    obtain ⟨_, m17, spr17, kee17, rul17, tpd17, nxt17, tok17, tka17, val17, opn17, hm17, row17, ksp17, kke17, kru17, rfl, l17_spr, u17_spr, l17_kee, u17_kee, l17_rul, u17_rul, l17_tpd, u17_tpd, l17_nxt, u17_nxt, l17_tok, u17_tok, l17_tka, u17_tka, l17_val, u17_val, l17_opn, u17_opn, l17_hm, u17_hm, l17_row, u17_row, l17_ksp, u17_ksp, l17_kke, u17_kke, l17_kru, u17_kru, f17_0, f17_1, f17_2, f17_3, f17_4, f17_5, f17_6, f17_7, f17_8, f17_9⟩ := iv_31 iv
    refine w_getf m17 rfl (fun _ => rfl) (w_ri ?_)
    exact k0 (g_mnt g) (by omega) (by omega)
  by_cases c18 : n = 6
  · rw [show (n : Int) = 6 from c18]
    refine w_tsw (t := 893006) (fun _ => rfl) (w_run k_893006 (w_al (fun _ => rfl) ?_))
    obtain ⟨_, m19, spr19, kee19, rul19, tpd19, nxt19, tok19, tka19, val19, opn19, hm19, row19, ksp19, kke19, kru19, rfl, l19_spr, u19_spr, l19_kee, u19_kee, l19_rul, u19_rul, l19_tpd, u19_tpd, l19_nxt, u19_nxt, l19_tok, u19_tok, l19_tka, u19_tka, l19_val, u19_val, l19_opn, u19_opn, l19_hm, u19_hm, l19_row, u19_row, l19_ksp, u19_ksp, l19_kke, u19_kke, l19_kru, u19_kru, f19_0, f19_1, f19_2, f19_3, f19_4, f19_5, f19_6, f19_7, f19_8, f19_9⟩ := iv_31 iv
    refine w_getf m19 rfl (fun _ => rfl) (w_ri ?_)
    exact k0 tpd19 (by omega) (by omega)
  by_cases c20 : n = 7
  · rw [show (n : Int) = 7 from c20]
    refine w_tsw (t := 893011) (fun _ => rfl) (w_run k_893011 (w_al (fun _ => rfl) ?_))
    obtain ⟨_, m21, spr21, kee21, rul21, tpd21, nxt21, tok21, tka21, val21, opn21, hm21, row21, ksp21, kke21, kru21, rfl, l21_spr, u21_spr, l21_kee, u21_kee, l21_rul, u21_rul, l21_tpd, u21_tpd, l21_nxt, u21_nxt, l21_tok, u21_tok, l21_tka, u21_tka, l21_val, u21_val, l21_opn, u21_opn, l21_hm, u21_hm, l21_row, u21_row, l21_ksp, u21_ksp, l21_kke, u21_kke, l21_kru, u21_kru, f21_0, f21_1, f21_2, f21_3, f21_4, f21_5, f21_6, f21_7, f21_8, f21_9⟩ := iv_31 iv
    refine w_getf m21 rfl (fun _ => rfl) (w_ri ?_)
    exact k0 rul21 (by omega) (by omega)
  refine w_tswD (by omega) (by omega) (by show _ ∨ ((8 : Nat) : Int) ≤ _; omega) (by decide) (w_run k_893016 (w_icI (x := (-2)) wn_2 (w_ri ?_)))
  exact k0 (-2) (by omega) (by omega)
theorem k_876593 : m_cg 876593 = g_214_49 := rfl
theorem k_876709 : m_cg 876709 = g_214_165 := rfl
theorem k_876718 : m_cg 876718 = g_214_174 := rfl
theorem k_876720 : m_cg 876720 = g_214_176 := rfl
theorem k_876666 : m_cg 876666 = g_214_122 := rfl
theorem k_876703 : m_cg 876703 = g_214_159 := rfl
theorem k_876668 : m_cg 876668 = g_214_124 := rfl
theorem k_876682 : m_cg 876682 = g_214_138 := rfl
theorem l_mJudge_49 {g : w_G} {o : w_O} {h0 : m_H} {d : Nat} {Q : Option m_V → m_H → Prop} {sh : Int} {wh : Int} (sh_lo : -2147483648 ≤ sh) (sh_hi : sh ≤ 2147483647) (wh_lo : -2147483648 ≤ wh) (wh_hi : wh ≤ 2147483647) (k0 : ∀ (x : Int), ∀ h2 : m_H, w_Inv g o h2 → w_fr o [54, 55, 56] h0 h2 → -2147483648 ≤ x → x ≤ 2147483647 → Q (some (.inl (w_i x))) h2) : ∀ (k : Nat) (h : m_H) (tn co fo k_ : Int) (x7_ : m_V) (x8_ : m_V) (iv : w_Inv g o h) (F : w_fr o [54, 55, 56] h0 h) (mu : w_mu g o h) (tn_lo : -2147483648 ≤ tn) (tn_hi : tn ≤ 2147483647) (co_lo : -2147483648 ≤ co) (co_hi : co ≤ 2147483647) (fo_lo : -2147483648 ≤ fo) (fo_hi : fo ≤ 2147483647) (k__lo : -2147483648 ≤ k_) (k__hi : k_ ≤ 2147483647) (k0_ : 0 ≤ k_) (k1_ : k_ ≤ 40) (n0_ : 0 ≤ tn) (n1_ : tn < g_mN g) (s0_ : 0 ≤ sh) (s1_ : sh < 4), 40 - k_ < (k : Int) → wp (d + 6) 876593 [.inr (.inl (some 31)), .inl (w_i sh), .inl (w_i wh), .inl (w_i tn), .inl (w_i co), .inl (w_i fo), .inl (w_i k_), x7_, x8_] [] h Q := by
  intro k
  induction k with
  | zero => intro h tn co fo k_ x7_ x8_ iv F mu tn_lo tn_hi co_lo co_hi fo_lo fo_hi k__lo k__hi k0_ k1_ n0_ n1_ s0_ s1_ hk; exact absurd hk (by omega)
  | succ k ih =>
    intro h tn co fo k_ x7_ x8_ iv F mu tn_lo tn_hi co_lo co_hi fo_lo fo_hi k__lo k__hi k0_ k1_ n0_ n1_ s0_ s1_ hk
    have W := iv_wm iv
    refine w_run k_876593 (w_il (fun _ => rfl) (w_al (fun _ => rfl) ?_))
    obtain ⟨_, m1, spr1, kee1, rul1, tpd1, nxt1, tok1, tka1, val1, opn1, hm1, row1, ksp1, kke1, kru1, rfl, l1_spr, u1_spr, l1_kee, u1_kee, l1_rul, u1_rul, l1_tpd, u1_tpd, l1_nxt, u1_nxt, l1_tok, u1_tok, l1_tka, u1_tka, l1_val, u1_val, l1_opn, u1_opn, l1_hm, u1_hm, l1_row, u1_row, l1_ksp, u1_ksp, l1_kke, u1_kke, l1_kru, u1_kru, f1_0, f1_1, f1_2, f1_3, f1_4, f1_5, f1_6, f1_7, f1_8, f1_9⟩ := iv_31 iv
    refine w_getf m1 rfl (fun _ => rfl) (w_il (fun _ => rfl) ?_)
    obtain ⟨_, m2, A2, rfl, e2⟩ := iv_64 iv
    refine w_aldI m2 (by omega) (by omega) (by omega) ?_
    obtain ⟨b3, b4⟩ := ag_rg A2 sh
    have e5 := e2 sh (by omega) (by omega)
    refine w_ge2 (by omega) (by omega) (by omega) (by omega)  (fun c6 => ?_) (fun c6 => ?_)
    · refine w_run k_876709 (w_il (fun _ => rfl) ?_)
      refine w_nez2 (by omega) (by omega)  (fun c7 => ?_) (fun c7 => ?_)
      · refine w_run k_876718 (w_il (fun _ => rfl) (w_ri ?_))
        exact k0 co h iv F (by omega) (by omega)
      · refine w_il (fun _ => rfl) (w_go (w_run k_876720 (w_ri ?_)))
        exact k0 fo h iv F (by omega) (by omega)
    · refine w_il (fun _ => rfl) ?_
      refine w_gez2 (by omega) (by omega)  (fun c8 => ?_) (fun c8 => ?_)
      · refine w_run k_876709 (w_il (fun _ => rfl) ?_)
        refine w_nez2 (by omega) (by omega)  (fun c9 => ?_) (fun c9 => ?_)
        · refine w_run k_876718 (w_il (fun _ => rfl) (w_ri ?_))
          exact k0 co h iv F (by omega) (by omega)
        · refine w_il (fun _ => rfl) (w_go (w_run k_876720 (w_ri ?_)))
          exact k0 fo h iv F (by omega) (by omega)
      · refine w_al (fun _ => rfl) (w_getf m1 rfl (fun _ => rfl) (w_icI (x := 40) rfl (w_il (fun _ => rfl) (w_op (c := w_i (40 * sh)) (i_mul 40 sh) (w_il (fun _ => rfl) (w_op (c := w_i ((40 * sh) + k_)) (i_add (40 * sh) k_) ?_))))))
        obtain ⟨_, m10, A10, rfl⟩ := iv_65 iv
        refine w_aldI m10 (by omega) (by omega) (by omega) ?_
        obtain ⟨b11, b12⟩ := ag_rg A10 ((40 * sh) + k_)
        refine w_is (fun _ => rfl) (w_il (fun _ => rfl) ?_)
        refine w_ltz2 (by omega) (by omega)  (fun c13 => ?_) (fun c13 => ?_)
        · refine w_run k_876666 (w_icI (x := (-5)) wn_5 (w_is (fun _ => rfl) (w_il (fun _ => rfl) (w_gezf (by omega) (by omega) (by omega)  (w_il (fun _ => rfl) (w_is (fun _ => rfl) (w_go (w_run k_876703 (w_inc (c := w_i (k_ + 1)) (fun _ => rfl) (i_addL (y := 1) rfl k_) (fun _ => rfl) (w_go ?_))))))))))
          exact ih h tn co k_ (k_ + 1) (.inl (w_i (a_g A10 ((40 * sh) + k_)))) (.inl (w_i (-5))) iv F mu (by omega) (by omega) (by omega) (by omega) (by omega) (by omega) (by omega) (by omega)  (by omega) (by omega) (by omega) (by omega) (by omega) (by omega) (by omega)
        · refine w_al (fun _ => rfl) (w_il (fun _ => rfl) (w_icI (x := 5) rfl (w_opz (c := w_i ((a_g A10 ((40 * sh) + k_)) / 5)) (beq0 (by omega) (by omega) (by omega)) (i_div (by omega) (by omega) (by omega) (by omega)) ?_)))
          have b14 : 0 ≤ ((a_g A10 ((40 * sh) + k_)) / 5) ∧ ((a_g A10 ((40 * sh) + k_)) / 5) ≤ (a_g A10 ((40 * sh) + k_)) := ⟨Int.ediv_nonneg (by omega) (by omega), Int.ediv_le_self _ (by omega)⟩
          refine w_this (fun _ => rfl) m1 ?_
          refine w_ca (fun _ => rfl) rfl (c_mIsHouse (d := (d + 5)) iv (n := ((a_g A10 ((40 * sh) + k_)) / 5)) (by omega) (by omega)   (fun b15 b16 => ⟨_, rfl, ?_⟩) (fun b17 => ⟨_, rfl, ?_⟩))
          · refine w_eqzf (by omega) (by omega) (by omega)  (w_al (fun _ => rfl) (w_il (fun _ => rfl) (w_icI (x := 5) rfl (w_opz (c := w_i ((a_g A10 ((40 * sh) + k_)) % 5)) (beq0 (by omega) (by omega) (by omega)) (i_rem (by omega) (by omega) (by omega) (by omega)) ?_))))
            have b18 : 0 ≤ ((a_g A10 ((40 * sh) + k_)) % 5) ∧ ((a_g A10 ((40 * sh) + k_)) % 5) < 5 := ⟨Int.emod_nonneg _ (by omega), Int.emod_lt_of_pos _ (by omega)⟩
            refine w_this (fun _ => rfl) m1 ?_
            refine w_ca (fun _ => rfl) rfl (c_mIsColour (d := (d + 5)) iv (n := ((a_g A10 ((40 * sh) + k_)) % 5)) (by omega) (by omega)   (fun b19 b20 => ⟨_, rfl, ?_⟩) (fun b21 => ⟨_, rfl, ?_⟩))
            · refine w_eqzf (by omega) (by omega) (by omega)  (w_al (fun _ => rfl) (w_il (fun _ => rfl) (w_il (fun _ => rfl) (w_icI (x := 5) rfl (w_opz (c := w_i ((a_g A10 ((40 * sh) + k_)) / 5)) (beq0 (by omega) (by omega) (by omega)) (i_div (by omega) (by omega) (by omega) (by omega)) ?_)))))
              have b22 : 0 ≤ ((a_g A10 ((40 * sh) + k_)) / 5) ∧ ((a_g A10 ((40 * sh) + k_)) / 5) ≤ (a_g A10 ((40 * sh) + k_)) := ⟨Int.ediv_nonneg (by omega) (by omega), Int.ediv_le_self _ (by omega)⟩
              refine w_il (fun _ => rfl) (w_icI (x := 5) rfl (w_opz (c := w_i ((a_g A10 ((40 * sh) + k_)) % 5)) (beq0 (by omega) (by omega) (by omega)) (i_rem (by omega) (by omega) (by omega) (by omega)) ?_))
              have b23 : 0 ≤ ((a_g A10 ((40 * sh) + k_)) % 5) ∧ ((a_g A10 ((40 * sh) + k_)) % 5) < 5 := ⟨Int.emod_nonneg _ (by omega), Int.emod_lt_of_pos _ (by omega)⟩
              refine w_this (fun _ => rfl) m1 ?_
              refine w_ca (fun _ => rfl) rfl (c_mCostIn (d := (d + 4)) iv (tn := tn) (ii := ((a_g A10 ((40 * sh) + k_)) / 5)) (t := ((a_g A10 ((40 * sh) + k_)) % 5)) (by omega) (by omega) (by omega) (by omega) (by omega) (by omega) (by omega) (by omega) (by omega) (by omega) (by omega) mu (fun y24 b25 b26 b27 => ⟨_, rfl, ?_⟩))
              refine w_go (w_run k_876668 (w_is (fun _ => rfl) (w_il (fun _ => rfl) ?_)))
              refine w_gez2 (by omega) (by omega)  (fun c28 => ?_) (fun c28 => ?_)
              · refine w_run k_876682 (w_il (fun _ => rfl) (w_il (fun _ => rfl) (w_opR add_lt (fun x29 x290 x291 x29e => ?_))))
                refine w_is (fun _ => rfl) (w_al (fun _ => rfl) (w_il (fun _ => rfl) (w_il (fun _ => rfl) (w_icI (x := 5) rfl (w_opz (c := w_i ((a_g A10 ((40 * sh) + k_)) / 5)) (beq0 (by omega) (by omega) (by omega)) (i_div (by omega) (by omega) (by omega) (by omega)) ?_)))))
                have b30 : 0 ≤ ((a_g A10 ((40 * sh) + k_)) / 5) ∧ ((a_g A10 ((40 * sh) + k_)) / 5) ≤ (a_g A10 ((40 * sh) + k_)) := ⟨Int.ediv_nonneg (by omega) (by omega), Int.ediv_le_self _ (by omega)⟩
                refine w_il (fun _ => rfl) (w_icI (x := 5) rfl (w_opz (c := w_i ((a_g A10 ((40 * sh) + k_)) % 5)) (beq0 (by omega) (by omega) (by omega)) (i_rem (by omega) (by omega) (by omega) (by omega)) ?_))
                have b31 : 0 ≤ ((a_g A10 ((40 * sh) + k_)) % 5) ∧ ((a_g A10 ((40 * sh) + k_)) % 5) < 5 := ⟨Int.emod_nonneg _ (by omega), Int.emod_lt_of_pos _ (by omega)⟩
                refine w_this (fun _ => rfl) m1 ?_
                refine w_ca (fun _ => rfl) rfl (c_mBehindStep (d := (d + 4)) iv (tn := tn) (ii := ((a_g A10 ((40 * sh) + k_)) / 5)) (t := ((a_g A10 ((40 * sh) + k_)) % 5)) (by omega) (by omega) (by omega) (by omega) (by omega) (by omega) (by omega) (by omega) (by omega) (by omega) (by omega) (by omega) mu (fun y32 b33 b34 b35 b36 b37 => ⟨_, rfl, ?_⟩))
                refine w_is (fun _ => rfl) (w_inc (c := w_i (k_ + 1)) (fun _ => rfl) (i_addL (y := 1) rfl k_) (fun _ => rfl) (w_go ?_))
                exact ih h y32 x29 fo (k_ + 1) (.inl (w_i (a_g A10 ((40 * sh) + k_)))) (.inl (w_i y24)) iv F mu (by omega) (by omega) (by omega) (by omega) (by omega) (by omega) (by omega) (by omega)  (by omega) (by omega) (by omega) (by omega) (by omega) (by omega) (by omega)
              · refine w_il (fun _ => rfl) (w_is (fun _ => rfl) (w_go (w_run k_876703 (w_inc (c := w_i (k_ + 1)) (fun _ => rfl) (i_addL (y := 1) rfl k_) (fun _ => rfl) (w_go ?_)))))
                exact ih h tn co k_ (k_ + 1) (.inl (w_i (a_g A10 ((40 * sh) + k_)))) (.inl (w_i y24)) iv F mu (by omega) (by omega) (by omega) (by omega) (by omega) (by omega) (by omega) (by omega)  (by omega) (by omega) (by omega) (by omega) (by omega) (by omega) (by omega)
            · refine w_eqzt (by omega) (by omega) (by omega)  (w_run k_876666 (w_icI (x := (-5)) wn_5 (w_is (fun _ => rfl) (w_il (fun _ => rfl) (w_gezf (by omega) (by omega) (by omega)  (w_il (fun _ => rfl) (w_is (fun _ => rfl) (w_go (w_run k_876703 (w_inc (c := w_i (k_ + 1)) (fun _ => rfl) (i_addL (y := 1) rfl k_) (fun _ => rfl) (w_go ?_)))))))))))
              exact ih h tn co k_ (k_ + 1) (.inl (w_i (a_g A10 ((40 * sh) + k_)))) (.inl (w_i (-5))) iv F mu (by omega) (by omega) (by omega) (by omega) (by omega) (by omega) (by omega) (by omega)  (by omega) (by omega) (by omega) (by omega) (by omega) (by omega) (by omega)
          · refine w_eqzt (by omega) (by omega) (by omega)  (w_run k_876666 (w_icI (x := (-5)) wn_5 (w_is (fun _ => rfl) (w_il (fun _ => rfl) (w_gezf (by omega) (by omega) (by omega)  (w_il (fun _ => rfl) (w_is (fun _ => rfl) (w_go (w_run k_876703 (w_inc (c := w_i (k_ + 1)) (fun _ => rfl) (i_addL (y := 1) rfl k_) (fun _ => rfl) (w_go ?_)))))))))))
            exact ih h tn co k_ (k_ + 1) (.inl (w_i (a_g A10 ((40 * sh) + k_)))) (.inl (w_i (-5))) iv F mu (by omega) (by omega) (by omega) (by omega) (by omega) (by omega) (by omega) (by omega)  (by omega) (by omega) (by omega) (by omega) (by omega) (by omega) (by omega)
theorem k_876544 : m_cg 876544 = g_214_0 := rfl
theorem k_876563 : m_cg 876563 = g_214_19 := rfl
theorem k_876575 : m_cg 876575 = g_214_31 := rfl
theorem k_876560 : m_cg 876560 = g_214_16 := rfl
theorem c_mJudge {g : w_G} {o : w_O} {h : m_H} {d : Nat} {Q : Option m_V → m_H → Prop} (iv : w_Inv g o h) {sh : Int} {wh : Int} (sh_lo : -2147483648 ≤ sh) (sh_hi : sh ≤ 2147483647) (wh_lo : -2147483648 ≤ wh) (wh_hi : wh ≤ 2147483647) (k0 : ∀ (x : Int), ∀ h2 : m_H, w_Inv g o h2 → w_fr o [54, 55, 56] h h2 → -2147483648 ≤ x → x ≤ 2147483647 → Q (some (.inl (w_i x))) h2) : wp (d + 6) 876544 [.inr (.inl (some 31)), .inl (w_i sh), .inl (w_i wh), .inr (.inr (.inl 0)), .inr (.inr (.inl 0)), .inr (.inr (.inl 0)), .inr (.inr (.inl 0)), .inr (.inr (.inl 0)), .inr (.inr (.inl 0))] [] h Q := by
  have F := fr_rf (o := o) (h := h) (W := [54, 55, 56])
  have W := iv_wm iv
  refine w_run k_876544 (w_il (fun _ => rfl) ?_)
  refine w_ca (fun _ => rfl) rfl (c_mIsSheet (d := (d + 5)) iv (n := sh) (by omega) (by omega)   (fun b1 b2 => ⟨_, rfl, ?_⟩) (fun b3 => ⟨_, rfl, ?_⟩))
  · refine w_eqzf (by omega) (by omega) (by omega)  (w_il (fun _ => rfl) (w_icI (x := 0) rfl (w_icI (x := 1) rfl ?_)))
    refine w_ca (fun _ => rfl) rfl (c_mIsIn (d := (d + 5)) iv (n := wh) (ln := 0) (mn := 1) (by omega) (by omega) (by omega) (by omega) (by omega) (by omega)   (fun b4 b5 => ⟨_, rfl, ?_⟩) (fun b6 => ⟨_, rfl, ?_⟩))
    · refine w_nezt (by omega) (by omega) (by omega)  (w_run k_876563 (w_al (fun _ => rfl) ?_))
      obtain ⟨_, m7, spr7, kee7, rul7, tpd7, nxt7, tok7, tka7, val7, opn7, hm7, row7, ksp7, kke7, kru7, rfl, l7_spr, u7_spr, l7_kee, u7_kee, l7_rul, u7_rul, l7_tpd, u7_tpd, l7_nxt, u7_nxt, l7_tok, u7_tok, l7_tka, u7_tka, l7_val, u7_val, l7_opn, u7_opn, l7_hm, u7_hm, l7_row, u7_row, l7_ksp, u7_ksp, l7_kke, u7_kke, l7_kru, u7_kru, f7_0, f7_1, f7_2, f7_3, f7_4, f7_5, f7_6, f7_7, f7_8, f7_9⟩ := iv_31 iv
      refine w_getf m7 rfl (fun _ => rfl) (w_il (fun _ => rfl) ?_)
      obtain ⟨_, m8, A8, rfl, e8⟩ := iv_63 iv
      refine w_aldI m8 (by omega) (by omega) (by omega) ?_
      obtain ⟨b9, b10⟩ := ag_rg A8 sh
      have e11 := e8 sh (by omega) (by omega)
      refine w_gez2 (by omega) (by omega)  (fun c12 => ?_) (fun c12 => ?_)
      · refine w_run k_876575 (w_al (fun _ => rfl) (w_this (fun _ => rfl) m7 ?_))
        refine w_cv (fun _ => rfl) rfl (c_mFinds (d := d) iv     (fun h13 iv14 F15 b16 => ⟨rfl, ?_⟩))
        have F17 := fr_ca F F15 (fun t ht => by exact ht)
        refine w_al (fun _ => rfl) ?_
        have m18 := fr_at F15 m7 iv (ow_31 iv) rfl rfl
        refine w_this (fun _ => rfl) m18 ?_
        refine w_ca (fun _ => rfl) rfl (c_mTownNow (d := (d + 5)) iv14     (fun y19 b20 b21 b22 b23 => ⟨_, rfl, ?_⟩))
        refine w_is (fun _ => rfl) (w_icI (x := 0) rfl (w_is (fun _ => rfl) (w_icI (x := (-1)) wn_1 (w_is (fun _ => rfl) (w_icI (x := 0) rfl (w_is (fun _ => rfl) (w_nur k_876593 ?_)))))))
        exact l_mJudge_49     sh_lo sh_hi wh_lo wh_hi     k0 (40 - 0 + 1 : Int).toNat h13 y19 0 (-1) 0 (.inr (.inr (.inl 0))) (.inr (.inr (.inl 0))) iv14 F17 b16 (by omega) (by omega) (by omega) (by omega) (by omega) (by omega) (by omega) (by omega)  (by omega) (by omega) (by omega) (by omega) (by omega) (by omega) (by omega)
      · refine w_icI (x := (-11)) wn_11 (w_ri ?_)
        exact k0 (-11) h iv F (by omega) (by omega)
    · refine w_nezf (by omega) (by omega) (by omega)  (w_icI (x := (-2)) wn_2 (w_ri ?_))
      exact k0 (-2) h iv F (by omega) (by omega)
  · refine w_eqzt (by omega) (by omega) (by omega)  (w_run k_876560 (w_icI (x := (-2)) wn_2 (w_ri ?_)))
    exact k0 (-2) h iv F (by omega) (by omega)
theorem k_880669 : m_cg 880669 = g_215_29 := rfl
theorem k_880739 : m_cg 880739 = g_215_99 := rfl
theorem k_880733 : m_cg 880733 = g_215_93 := rfl
theorem l_mDrawn_29 {g : w_G} {o : w_O} {h0 : m_H} {d : Nat} {Q : Option m_V → m_H → Prop} {sd : Int} {n : Int} (sd_lo : -2147483648 ≤ sd) (sd_hi : sd ≤ 2147483647) (n_lo : -2147483648 ≤ n) (n_hi : n ≤ 2147483647) (k0 : ∀ (x : Int), ∀ h2 : m_H, w_Inv g o h2 → w_fr o [54, 55, 56] h0 h2 → -2147483648 ≤ x → x ≤ 2147483647 → Q (some (.inl (w_i x))) h2) : ∀ (k : Nat) (h : m_H) (tn z k_ : Int) (x6_ : m_V) (x7_ : m_V) (iv : w_Inv g o h) (F : w_fr o [54, 55, 56] h0 h) (mu : w_mu g o h) (tn_lo : -2147483648 ≤ tn) (tn_hi : tn ≤ 2147483647) (z_lo : -2147483648 ≤ z) (z_hi : z ≤ 2147483647) (k__lo : -2147483648 ≤ k_) (k__hi : k_ ≤ 2147483647) (k0_ : 0 ≤ k_) (k1_ : k_ ≤ 200) (n0_ : 0 ≤ tn) (n1_ : tn < g_mN g) (s1_ : n ≤ 200), 200 - k_ < (k : Int) → wp (d + 6) 880669 [.inr (.inl (some 31)), .inl (w_i sd), .inl (w_i n), .inl (w_i tn), .inl (w_i z), .inl (w_i k_), x6_, x7_] [] h Q := by
  intro k
  induction k with
  | zero => intro h tn z k_ x6_ x7_ iv F mu tn_lo tn_hi z_lo z_hi k__lo k__hi k0_ k1_ n0_ n1_ s1_ hk; exact absurd hk (by omega)
  | succ k ih =>
    intro h tn z k_ x6_ x7_ iv F mu tn_lo tn_hi z_lo z_hi k__lo k__hi k0_ k1_ n0_ n1_ s1_ hk
    have W := iv_wm iv
    refine w_run k_880669 (w_il (fun _ => rfl) (w_il (fun _ => rfl) ?_))
    refine w_ge2 (by omega) (by omega) (by omega) (by omega)  (fun c1 => ?_) (fun c1 => ?_)
    · refine w_run k_880739 (w_il (fun _ => rfl) (w_ri ?_))
      exact k0 tn h iv F (by omega) (by omega)
    · refine w_il (fun _ => rfl) (w_icI (x := 1103515245) rfl (w_opR mul_lt (fun x2 x20 x21 x2e => ?_)))
      refine w_icI (x := 12345) rfl (w_opR add_lt (fun x3 x30 x31 x3e => ?_))
      refine w_is (fun _ => rfl) (w_il (fun _ => rfl) (w_icI (x := 8) rfl (w_opP (ushr_p (by decide) (by decide)) (fun x4 x40 x41 x4e => ?_))))
      refine w_al (fun _ => rfl) ?_
      obtain ⟨_, m5, spr5, kee5, rul5, tpd5, nxt5, tok5, tka5, val5, opn5, hm5, row5, ksp5, kke5, kru5, rfl, l5_spr, u5_spr, l5_kee, u5_kee, l5_rul, u5_rul, l5_tpd, u5_tpd, l5_nxt, u5_nxt, l5_tok, u5_tok, l5_tka, u5_tka, l5_val, u5_val, l5_opn, u5_opn, l5_hm, u5_hm, l5_row, u5_row, l5_ksp, u5_ksp, l5_kke, u5_kke, l5_kru, u5_kru, f5_0, f5_1, f5_2, f5_3, f5_4, f5_5, f5_6, f5_7, f5_8, f5_9⟩ := iv_31 iv
      refine w_getf m5 rfl (fun _ => rfl) (w_opz (c := w_i (x4 % g_mH g)) (beq0 (by omega) (by omega) (by omega)) (i_rem (by omega) (by omega) (by omega) (by omega)) ?_)
      have b6 : 0 ≤ (x4 % g_mH g) ∧ (x4 % g_mH g) < g_mH g := ⟨Int.emod_nonneg _ (by omega), Int.emod_lt_of_pos _ (by omega)⟩
      refine w_is (fun _ => rfl) (w_il (fun _ => rfl) (w_icI (x := 16) rfl (w_opP (ushr_p (by decide) (by decide)) (fun x7 x70 x71 x7e => ?_))))
      refine w_al (fun _ => rfl) (w_getf m5 rfl (fun _ => rfl) (w_opz (c := w_i (x7 % g_mC g)) (beq0 (by omega) (by omega) (by omega)) (i_rem (by omega) (by omega) (by omega) (by omega)) ?_))
      have b8 : 0 ≤ (x7 % g_mC g) ∧ (x7 % g_mC g) < g_mC g := ⟨Int.emod_nonneg _ (by omega), Int.emod_lt_of_pos _ (by omega)⟩
      refine w_is (fun _ => rfl) (w_al (fun _ => rfl) (w_il (fun _ => rfl) (w_il (fun _ => rfl) (w_il (fun _ => rfl) (w_this (fun _ => rfl) m5 ?_)))))
      refine w_ca (fun _ => rfl) rfl (c_mCostIn (d := (d + 4)) iv (tn := tn) (ii := (x4 % g_mH g)) (t := (x7 % g_mC g)) (by omega) (by omega) (by omega) (by omega) (by omega) (by omega) (by omega) (by omega) (by omega) (by omega) (by omega) mu (fun y9 b10 b11 b12 => ⟨_, rfl, ?_⟩))
      refine w_ltz2 (by omega) (by omega)  (fun c13 => ?_) (fun c13 => ?_)
      · refine w_run k_880733 (w_inc (c := w_i (k_ + 1)) (fun _ => rfl) (i_addL (y := 1) rfl k_) (fun _ => rfl) (w_go ?_))
        exact ih h tn x3 (k_ + 1) (.inl (w_i (x4 % g_mH g))) (.inl (w_i (x7 % g_mC g))) iv F mu (by omega) (by omega) (by omega) (by omega) (by omega) (by omega)  (by omega) (by omega) (by omega) (by omega) (by omega) (by omega)
      · refine w_al (fun _ => rfl) (w_il (fun _ => rfl) (w_il (fun _ => rfl) (w_il (fun _ => rfl) (w_this (fun _ => rfl) m5 ?_))))
        refine w_ca (fun _ => rfl) rfl (c_mBehindStep (d := (d + 4)) iv (tn := tn) (ii := (x4 % g_mH g)) (t := (x7 % g_mC g)) (by omega) (by omega) (by omega) (by omega) (by omega) (by omega) (by omega) (by omega) (by omega) (by omega) (by omega) (by omega) mu (fun y14 b15 b16 b17 b18 b19 => ⟨_, rfl, ?_⟩))
        refine w_is (fun _ => rfl) (w_inc (c := w_i (k_ + 1)) (fun _ => rfl) (i_addL (y := 1) rfl k_) (fun _ => rfl) (w_go ?_))
        exact ih h y14 x3 (k_ + 1) (.inl (w_i (x4 % g_mH g))) (.inl (w_i (x7 % g_mC g))) iv F mu (by omega) (by omega) (by omega) (by omega) (by omega) (by omega)  (by omega) (by omega) (by omega) (by omega) (by omega) (by omega)
theorem k_880640 : m_cg 880640 = g_215_0 := rfl
theorem k_880654 : m_cg 880654 = g_215_14 := rfl
theorem c_mDrawn {g : w_G} {o : w_O} {h : m_H} {d : Nat} {Q : Option m_V → m_H → Prop} (iv : w_Inv g o h) {sd : Int} {n : Int} (sd_lo : -2147483648 ≤ sd) (sd_hi : sd ≤ 2147483647) (n_lo : -2147483648 ≤ n) (n_hi : n ≤ 2147483647) (k0 : ∀ (x : Int), ∀ h2 : m_H, w_Inv g o h2 → w_fr o [54, 55, 56] h h2 → -2147483648 ≤ x → x ≤ 2147483647 → Q (some (.inl (w_i x))) h2) : wp (d + 6) 880640 [.inr (.inl (some 31)), .inl (w_i sd), .inl (w_i n), .inr (.inr (.inl 0)), .inr (.inr (.inl 0)), .inr (.inr (.inl 0)), .inr (.inr (.inl 0)), .inr (.inr (.inl 0))] [] h Q := by
  have F := fr_rf (o := o) (h := h) (W := [54, 55, 56])
  have W := iv_wm iv
  refine w_run k_880640 (w_il (fun _ => rfl) (w_icI (x := 0) rfl (w_icI (x := 200) rfl ?_)))
  refine w_ca (fun _ => rfl) rfl (c_mIsIn (d := (d + 5)) iv (n := n) (ln := 0) (mn := 200) (by omega) (by omega) (by omega) (by omega) (by omega) (by omega)   (fun b1 b2 => ⟨_, rfl, ?_⟩) (fun b3 => ⟨_, rfl, ?_⟩))
  · refine w_nezt (by omega) (by omega) (by omega)  (w_run k_880654 (w_al (fun _ => rfl) ?_))
    obtain ⟨_, m4, spr4, kee4, rul4, tpd4, nxt4, tok4, tka4, val4, opn4, hm4, row4, ksp4, kke4, kru4, rfl, l4_spr, u4_spr, l4_kee, u4_kee, l4_rul, u4_rul, l4_tpd, u4_tpd, l4_nxt, u4_nxt, l4_tok, u4_tok, l4_tka, u4_tka, l4_val, u4_val, l4_opn, u4_opn, l4_hm, u4_hm, l4_row, u4_row, l4_ksp, u4_ksp, l4_kke, u4_kke, l4_kru, u4_kru, f4_0, f4_1, f4_2, f4_3, f4_4, f4_5, f4_6, f4_7, f4_8, f4_9⟩ := iv_31 iv
    refine w_this (fun _ => rfl) m4 ?_
    refine w_cv (fun _ => rfl) rfl (c_mFinds (d := d) iv     (fun h5 iv6 F7 b8 => ⟨rfl, ?_⟩))
    have F9 := fr_ca F F7 (fun t ht => by exact ht)
    refine w_al (fun _ => rfl) ?_
    have m10 := fr_at F7 m4 iv (ow_31 iv) rfl rfl
    refine w_this (fun _ => rfl) m10 ?_
    refine w_ca (fun _ => rfl) rfl (c_mTownNow (d := (d + 5)) iv6     (fun y11 b12 b13 b14 b15 => ⟨_, rfl, ?_⟩))
    refine w_is (fun _ => rfl) (w_il (fun _ => rfl) (w_is (fun _ => rfl) (w_icI (x := 0) rfl (w_is (fun _ => rfl) (w_nur k_880669 ?_)))))
    exact l_mDrawn_29     sd_lo sd_hi n_lo n_hi     k0 (200 - 0 + 1 : Int).toNat h5 y11 sd 0 (.inr (.inr (.inl 0))) (.inr (.inr (.inl 0))) iv6 F9 b8 (by omega) (by omega) (by omega) (by omega) (by omega) (by omega)  (by omega) (by omega) (by omega) (by omega) (by omega) (by omega)
  · refine w_nezf (by omega) (by omega) (by omega)  (w_icI (x := (-2)) wn_2 (w_ri ?_))
    exact k0 (-2) h iv F (by omega) (by omega)
theorem k_905216 : m_cg 905216 = g_221_0 := rfl
theorem k_905226 : m_cg 905226 = g_221_10 := rfl
theorem k_905238 : m_cg 905238 = g_221_22 := rfl
theorem k_905257 : m_cg 905257 = g_221_41 := rfl
theorem k_905281 : m_cg 905281 = g_221_65 := rfl
theorem k_905296 : m_cg 905296 = g_221_80 := rfl
theorem k_905297 : m_cg 905297 = g_221_81 := rfl
theorem c_mCell {g : w_G} {o : w_O} {h : m_H} {d : Nat} {Q : Option m_V → m_H → Prop} (iv : w_Inv g o h) {sh : Int} {n : Int} {va : Int} (sh_lo : -2147483648 ≤ sh) (sh_hi : sh ≤ 2147483647) (n_lo : -2147483648 ≤ n) (n_hi : n ≤ 2147483647) (va_lo : -2147483648 ≤ va) (va_hi : va ≤ 2147483647) (k0 : ∀ (x : Int), ∀ h2 : m_H, w_Inv g o h2 → w_fr o [65] h h2 → -2147483648 ≤ x → x ≤ 2147483647 → Q (some (.inl (w_i x))) h2) : wp (d + 1) 905216 [.inr (.inl (some 31)), .inl (w_i sh), .inl (w_i n), .inl (w_i va)] [] h Q := by
  have F := fr_rf (o := o) (h := h) (W := [65])
  have W := iv_wm iv
  refine w_run k_905216 (w_il (fun _ => rfl) ?_)
  refine w_ca (fun _ => rfl) rfl (c_mIsSheet (d := d) iv (n := sh) (by omega) (by omega)   (fun b1 b2 => ⟨_, rfl, ?_⟩) (fun b3 => ⟨_, rfl, ?_⟩))
  · refine w_nezt (by omega) (by omega) (by omega)  (w_run k_905226 (w_al (fun _ => rfl) ?_))
    obtain ⟨_, m4, spr4, kee4, rul4, tpd4, nxt4, tok4, tka4, val4, opn4, hm4, row4, ksp4, kke4, kru4, rfl, l4_spr, u4_spr, l4_kee, u4_kee, l4_rul, u4_rul, l4_tpd, u4_tpd, l4_nxt, u4_nxt, l4_tok, u4_tok, l4_tka, u4_tka, l4_val, u4_val, l4_opn, u4_opn, l4_hm, u4_hm, l4_row, u4_row, l4_ksp, u4_ksp, l4_kke, u4_kke, l4_kru, u4_kru, f4_0, f4_1, f4_2, f4_3, f4_4, f4_5, f4_6, f4_7, f4_8, f4_9⟩ := iv_31 iv
    refine w_getf m4 rfl (fun _ => rfl) (w_il (fun _ => rfl) ?_)
    obtain ⟨_, m5, A5, rfl, e5⟩ := iv_63 iv
    refine w_aldI m5 (by omega) (by omega) (by omega) ?_
    obtain ⟨b6, b7⟩ := ag_rg A5 sh
    have e8 := e5 sh (by omega) (by omega)
    refine w_gez2 (by omega) (by omega)  (fun c9 => ?_) (fun c9 => ?_)
    · refine w_run k_905238 (w_il (fun _ => rfl) (w_icI (x := 0) rfl (w_al (fun _ => rfl) (w_getf m4 rfl (fun _ => rfl) (w_il (fun _ => rfl) ?_)))))
      obtain ⟨_, m10, A10, rfl, e10⟩ := iv_64 iv
      refine w_aldI m10 (by omega) (by omega) (by omega) ?_
      obtain ⟨b11, b12⟩ := ag_rg A10 sh
      have e13 := e10 sh (by omega) (by omega)
      refine w_icI (x := 1) rfl (w_op (c := w_i ((a_g A10 sh) - 1)) (i_sub (a_g A10 sh) 1) ?_)
      refine w_ca (fun _ => rfl) rfl (c_mIsIn (d := d) iv (n := n) (ln := 0) (mn := ((a_g A10 sh) - 1)) (by omega) (by omega) (by omega) (by omega) (by omega) (by omega)   (fun b14 b15 => ⟨_, rfl, ?_⟩) (fun b16 => ⟨_, rfl, ?_⟩))
      · refine w_nezt (by omega) (by omega) (by omega)  (w_run k_905257 (w_al (fun _ => rfl) (w_getf m4 rfl (fun _ => rfl) (w_icI (x := 40) rfl (w_il (fun _ => rfl) (w_op (c := w_i (40 * sh)) (i_mul 40 sh) (w_il (fun _ => rfl) (w_op (c := w_i ((40 * sh) + n)) (i_add (40 * sh) n) (w_al (fun _ => rfl) (w_getf m4 rfl (fun _ => rfl) (w_il (fun _ => rfl) (w_aldI m5 (by omega) (by omega) (by omega) ?_))))))))))))
        obtain ⟨b17, b18⟩ := ag_rg A5 sh
        have e19 := e5 sh (by omega) (by omega)
        refine w_nez2 (by omega) (by omega)  (fun c20 => ?_) (fun c20 => ?_)
        · refine w_run k_905281 (w_al (fun _ => rfl) (w_getf m4 rfl (fun _ => rfl) (w_il (fun _ => rfl) (w_aldI m5 (by omega) (by omega) (by omega) ?_))))
          obtain ⟨b21, b22⟩ := ag_rg A5 sh
          have e23 := e5 sh (by omega) (by omega)
          refine w_icI (x := 1) rfl ?_
          refine w_ne2 (by omega) (by omega) (by omega) (by omega)  (fun c24 => ?_) (fun c24 => ?_)
          · refine w_run k_905296 (w_il (fun _ => rfl) ?_)
            obtain ⟨_, m25, A25, rfl⟩ := iv_65 iv
            refine w_astI m25 (by omega) (by omega) (by omega) (by omega) (by omega) (fun A29 h27 w30 s26 => ?_)
            have iv28 := is_65 iv s26 ⟨_, rfl⟩
            have F31 := fr_st F s26 (by rw [(ow_65 iv)]; rfl)
            refine w_icI (x := 1) rfl (w_ri ?_)
            exact k0 1 h27 iv28 F31 (by omega) (by omega)
          · refine w_il (fun _ => rfl) (w_unR i2s_lt (fun x32 x320 x321 x32e => ?_))
            refine w_go (w_run k_905297 ?_)
            obtain ⟨_, m33, A33, rfl⟩ := iv_65 iv
            refine w_astI m33 (by omega) (by omega) (by omega) (by omega) (by omega) (fun A37 h35 w38 s34 => ?_)
            have iv36 := is_65 iv s34 ⟨_, rfl⟩
            have F39 := fr_st F s34 (by rw [(ow_65 iv)]; rfl)
            refine w_icI (x := 1) rfl (w_ri ?_)
            exact k0 1 h35 iv36 F39 (by omega) (by omega)
        · refine w_il (fun _ => rfl) (w_unR i2b_lt (fun x40 x400 x401 x40e => ?_))
          refine w_go (w_run k_905297 ?_)
          obtain ⟨_, m41, A41, rfl⟩ := iv_65 iv
          refine w_astI m41 (by omega) (by omega) (by omega) (by omega) (by omega) (fun A45 h43 w46 s42 => ?_)
          have iv44 := is_65 iv s42 ⟨_, rfl⟩
          have F47 := fr_st F s42 (by rw [(ow_65 iv)]; rfl)
          refine w_icI (x := 1) rfl (w_ri ?_)
          exact k0 1 h43 iv44 F47 (by omega) (by omega)
      · refine w_nezf (by omega) (by omega) (by omega)  (w_icI (x := (-12)) wn_12 (w_ri ?_))
        exact k0 (-12) h iv F (by omega) (by omega)
    · refine w_icI (x := (-11)) wn_11 (w_ri ?_)
      exact k0 (-11) h iv F (by omega) (by omega)
  · refine w_nezf (by omega) (by omega) (by omega)  (w_icI (x := (-2)) wn_2 (w_ri ?_))
    exact k0 (-2) h iv F (by omega) (by omega)
theorem k_909312 : m_cg 909312 = g_222_0 := rfl
theorem k_909342 : m_cg 909342 = g_222_30 := rfl
theorem k_909343 : m_cg 909343 = g_222_31 := rfl
theorem c_mHasCells {g : w_G} {o : w_O} {h : m_H} {d : Nat} {Q : Option m_V → m_H → Prop} (iv : w_Inv g o h) {sh : Int} {n : Int} {m : Int} (sh_lo : -2147483648 ≤ sh) (sh_hi : sh ≤ 2147483647) (n_lo : -2147483648 ≤ n) (n_hi : n ≤ 2147483647) (m_lo : -2147483648 ≤ m) (m_hi : m ≤ 2147483647) (s0_ : 0 ≤ sh) (s1_ : sh < 4) (k0 : 0 ≤ n → n ≤ 40 → m ≤ 40 - n → Q (some (.inl (w_i 1))) h) (k1 : Q (some (.inl (w_i 0))) h) : wp d 909312 [.inr (.inl (some 31)), .inl (w_i sh), .inl (w_i n), .inl (w_i m)] [] h Q := by
  have W := iv_wm iv
  refine w_run k_909312 (w_il (fun _ => rfl) ?_)
  refine w_ltz2 (by omega) (by omega)  (fun c1 => ?_) (fun c1 => ?_)
  · refine w_run k_909342 (w_icI (x := 0) rfl (w_rz (by decide) ?_))
    exact k1 
  · refine w_il (fun _ => rfl) (w_al (fun _ => rfl) ?_)
    obtain ⟨_, m2, spr2, kee2, rul2, tpd2, nxt2, tok2, tka2, val2, opn2, hm2, row2, ksp2, kke2, kru2, rfl, l2_spr, u2_spr, l2_kee, u2_kee, l2_rul, u2_rul, l2_tpd, u2_tpd, l2_nxt, u2_nxt, l2_tok, u2_tok, l2_tka, u2_tka, l2_val, u2_val, l2_opn, u2_opn, l2_hm, u2_hm, l2_row, u2_row, l2_ksp, u2_ksp, l2_kke, u2_kke, l2_kru, u2_kru, f2_0, f2_1, f2_2, f2_3, f2_4, f2_5, f2_6, f2_7, f2_8, f2_9⟩ := iv_31 iv
    refine w_getf m2 rfl (fun _ => rfl) (w_il (fun _ => rfl) ?_)
    obtain ⟨_, m3, A3, rfl, e3⟩ := iv_64 iv
    refine w_aldI m3 (by omega) (by omega) (by omega) ?_
    obtain ⟨b4, b5⟩ := ag_rg A3 sh
    have e6 := e3 sh (by omega) (by omega)
    refine w_gt2 (by omega) (by omega) (by omega) (by omega)  (fun c7 => ?_) (fun c7 => ?_)
    · refine w_run k_909342 (w_icI (x := 0) rfl (w_rz (by decide) ?_))
      exact k1 
    · refine w_il (fun _ => rfl) (w_al (fun _ => rfl) (w_getf m2 rfl (fun _ => rfl) (w_il (fun _ => rfl) (w_aldI m3 (by omega) (by omega) (by omega) ?_))))
      obtain ⟨b8, b9⟩ := ag_rg A3 sh
      have e10 := e3 sh (by omega) (by omega)
      refine w_il (fun _ => rfl) (w_op (c := w_i ((a_g A3 sh) - n)) (i_sub (a_g A3 sh) n) ?_)
      refine w_gt2 (by omega) (by omega) (by omega) (by omega)  (fun c11 => ?_) (fun c11 => ?_)
      · refine w_run k_909342 (w_icI (x := 0) rfl (w_rz (by decide) ?_))
        exact k1 
      · refine w_icI (x := 1) rfl (w_go (w_run k_909343 (w_rz (by decide) ?_)))
        exact k0 (by omega) (by omega) (by omega)
theorem k_913498 : m_cg 913498 = g_223_90 := rfl
theorem l_mCopy_90 {g : w_G} {o : w_O} {h0 : m_H} {d : Nat} {Q : Option m_V → m_H → Prop} {sh : Int} {n : Int} {ot : Int} {j : Int} {m : Int} (sh_lo : -2147483648 ≤ sh) (sh_hi : sh ≤ 2147483647) (n_lo : -2147483648 ≤ n) (n_hi : n ≤ 2147483647) (ot_lo : -2147483648 ≤ ot) (ot_hi : ot ≤ 2147483647) (j_lo : -2147483648 ≤ j) (j_hi : j ≤ 2147483647) (m_lo : -2147483648 ≤ m) (m_hi : m ≤ 2147483647) (k0 : ∀ (x : Int), ∀ h2 : m_H, w_Inv g o h2 → w_fr o [65, 66] h0 h2 → -2147483648 ≤ x → x ≤ 2147483647 → Q (some (.inl (w_i x))) h2) (kx : ∀ (x6_ : m_V), ∀ h2 : m_H, w_Inv g o h2 → w_fr o [65, 66] h0 h2 → wp (d + 1) 913532 [.inr (.inl (some 31)), .inl (w_i sh), .inl (w_i n), .inl (w_i ot), .inl (w_i j), .inl (w_i m), x6_] [] h2 Q) : ∀ (k : Nat) (h : m_H) (k_ : Int) (iv : w_Inv g o h) (F : w_fr o [65, 66] h0 h) (k__lo : -2147483648 ≤ k_) (k__hi : k_ ≤ 2147483647) (k0_ : 0 ≤ k_) (k1_ : k_ ≤ m) (s0_ : 0 ≤ sh) (s1_ : sh < 4) (n0_ : 0 ≤ n) (n1_ : n ≤ 40) (m0_ : 0 ≤ m) (m1_ : m ≤ 40 - n), m - k_ < (k : Int) → wp (d + 1) 913498 [.inr (.inl (some 31)), .inl (w_i sh), .inl (w_i n), .inl (w_i ot), .inl (w_i j), .inl (w_i m), .inl (w_i k_)] [] h Q := by
  intro k
  induction k with
  | zero => intro h k_ iv F k__lo k__hi k0_ k1_ s0_ s1_ n0_ n1_ m0_ m1_ hk; exact absurd hk (by omega)
  | succ k ih =>
    intro h k_ iv F k__lo k__hi k0_ k1_ s0_ s1_ n0_ n1_ m0_ m1_ hk
    have W := iv_wm iv
    refine w_run k_913498 (w_il (fun _ => rfl) (w_il (fun _ => rfl) ?_))
    refine w_ge2 (by omega) (by omega) (by omega) (by omega)  (fun c1 => ?_) (fun c1 => ?_)
    · exact kx (.inl (w_i k_))  h iv F  
    · refine w_al (fun _ => rfl) ?_
      obtain ⟨_, m2, spr2, kee2, rul2, tpd2, nxt2, tok2, tka2, val2, opn2, hm2, row2, ksp2, kke2, kru2, rfl, l2_spr, u2_spr, l2_kee, u2_kee, l2_rul, u2_rul, l2_tpd, u2_tpd, l2_nxt, u2_nxt, l2_tok, u2_tok, l2_tka, u2_tka, l2_val, u2_val, l2_opn, u2_opn, l2_hm, u2_hm, l2_row, u2_row, l2_ksp, u2_ksp, l2_kke, u2_kke, l2_kru, u2_kru, f2_0, f2_1, f2_2, f2_3, f2_4, f2_5, f2_6, f2_7, f2_8, f2_9⟩ := iv_31 iv
      refine w_getf m2 rfl (fun _ => rfl) (w_il (fun _ => rfl) (w_al (fun _ => rfl) (w_getf m2 rfl (fun _ => rfl) (w_icI (x := 40) rfl (w_il (fun _ => rfl) (w_op (c := w_i (40 * sh)) (i_mul 40 sh) (w_il (fun _ => rfl) (w_op (c := w_i ((40 * sh) + n)) (i_add (40 * sh) n) (w_il (fun _ => rfl) (w_op (c := w_i (((40 * sh) + n) + k_)) (i_add ((40 * sh) + n) k_) ?_))))))))))
      obtain ⟨_, m3, A3, rfl⟩ := iv_65 iv
      refine w_aldI m3 (by omega) (by omega) (by omega) ?_
      obtain ⟨b4, b5⟩ := ag_rg A3 (((40 * sh) + n) + k_)
      obtain ⟨_, m6, A6, rfl⟩ := iv_66 iv
      refine w_astI m6 (by omega) (by omega) (by omega) (by omega) (by omega) (fun A10 h8 w11 s7 => ?_)
      have iv9 := is_66 iv s7 ⟨_, rfl⟩
      have F12 := fr_st F s7 (by rw [(ow_66 iv)]; rfl)
      refine w_inc (c := w_i (k_ + 1)) (fun _ => rfl) (i_addL (y := 1) rfl k_) (fun _ => rfl) (w_go ?_)
      exact ih h8 (k_ + 1) iv9 F12 (by omega) (by omega)  (by omega) (by omega) (by omega) (by omega) (by omega) (by omega) (by omega) (by omega) (by omega)
theorem k_913535 : m_cg 913535 = g_223_127 := rfl
theorem k_913570 : m_cg 913570 = g_223_162 := rfl
theorem l_mCopy_127 {g : w_G} {o : w_O} {h0 : m_H} {d : Nat} {Q : Option m_V → m_H → Prop} {sh : Int} {n : Int} {ot : Int} {j : Int} {m : Int} (sh_lo : -2147483648 ≤ sh) (sh_hi : sh ≤ 2147483647) (n_lo : -2147483648 ≤ n) (n_hi : n ≤ 2147483647) (ot_lo : -2147483648 ≤ ot) (ot_hi : ot ≤ 2147483647) (j_lo : -2147483648 ≤ j) (j_hi : j ≤ 2147483647) (m_lo : -2147483648 ≤ m) (m_hi : m ≤ 2147483647) (k0 : ∀ (x : Int), ∀ h2 : m_H, w_Inv g o h2 → w_fr o [65, 66] h0 h2 → -2147483648 ≤ x → x ≤ 2147483647 → Q (some (.inl (w_i x))) h2) : ∀ (k : Nat) (h : m_H) (k_ : Int) (iv : w_Inv g o h) (F : w_fr o [65, 66] h0 h) (k__lo : -2147483648 ≤ k_) (k__hi : k_ ≤ 2147483647) (k0_ : 0 ≤ k_) (k1_ : k_ ≤ m) (s0_ : 0 ≤ ot) (s1_ : ot < 4) (n0_ : 0 ≤ j) (n1_ : j ≤ 40) (m0_ : 0 ≤ m) (m1_ : m ≤ 40 - j), m - k_ < (k : Int) → wp (d + 1) 913535 [.inr (.inl (some 31)), .inl (w_i sh), .inl (w_i n), .inl (w_i ot), .inl (w_i j), .inl (w_i m), .inl (w_i k_)] [] h Q := by
  intro k
  induction k with
  | zero => intro h k_ iv F k__lo k__hi k0_ k1_ s0_ s1_ n0_ n1_ m0_ m1_ hk; exact absurd hk (by omega)
  | succ k ih =>
    intro h k_ iv F k__lo k__hi k0_ k1_ s0_ s1_ n0_ n1_ m0_ m1_ hk
    have W := iv_wm iv
    refine w_run k_913535 (w_il (fun _ => rfl) (w_il (fun _ => rfl) ?_))
    refine w_ge2 (by omega) (by omega) (by omega) (by omega)  (fun c1 => ?_) (fun c1 => ?_)
    · refine w_run k_913570 (w_il (fun _ => rfl) (w_ri ?_))
      exact k0 m h iv F (by omega) (by omega)
    · refine w_al (fun _ => rfl) ?_
      obtain ⟨_, m2, spr2, kee2, rul2, tpd2, nxt2, tok2, tka2, val2, opn2, hm2, row2, ksp2, kke2, kru2, rfl, l2_spr, u2_spr, l2_kee, u2_kee, l2_rul, u2_rul, l2_tpd, u2_tpd, l2_nxt, u2_nxt, l2_tok, u2_tok, l2_tka, u2_tka, l2_val, u2_val, l2_opn, u2_opn, l2_hm, u2_hm, l2_row, u2_row, l2_ksp, u2_ksp, l2_kke, u2_kke, l2_kru, u2_kru, f2_0, f2_1, f2_2, f2_3, f2_4, f2_5, f2_6, f2_7, f2_8, f2_9⟩ := iv_31 iv
      refine w_getf m2 rfl (fun _ => rfl) (w_icI (x := 40) rfl (w_il (fun _ => rfl) (w_op (c := w_i (40 * ot)) (i_mul 40 ot) (w_il (fun _ => rfl) (w_op (c := w_i ((40 * ot) + j)) (i_add (40 * ot) j) (w_il (fun _ => rfl) (w_op (c := w_i (((40 * ot) + j) + k_)) (i_add ((40 * ot) + j) k_) (w_al (fun _ => rfl) (w_getf m2 rfl (fun _ => rfl) (w_il (fun _ => rfl) ?_))))))))))
      obtain ⟨_, m3, A3, rfl⟩ := iv_66 iv
      refine w_aldI m3 (by omega) (by omega) (by omega) ?_
      obtain ⟨b4, b5⟩ := ag_rg A3 k_
      obtain ⟨_, m6, A6, rfl⟩ := iv_65 iv
      refine w_astI m6 (by omega) (by omega) (by omega) (by omega) (by omega) (fun A10 h8 w11 s7 => ?_)
      have iv9 := is_65 iv s7 ⟨_, rfl⟩
      have F12 := fr_st F s7 (by rw [(ow_65 iv)]; rfl)
      refine w_inc (c := w_i (k_ + 1)) (fun _ => rfl) (i_addL (y := 1) rfl k_) (fun _ => rfl) (w_go ?_)
      exact ih h8 (k_ + 1) iv9 F12 (by omega) (by omega)  (by omega) (by omega) (by omega) (by omega) (by omega) (by omega) (by omega) (by omega) (by omega)
theorem k_913408 : m_cg 913408 = g_223_0 := rfl
theorem k_913425 : m_cg 913425 = g_223_17 := rfl
theorem k_913443 : m_cg 913443 = g_223_35 := rfl
theorem k_913446 : m_cg 913446 = g_223_38 := rfl
theorem k_913464 : m_cg 913464 = g_223_56 := rfl
theorem k_913492 : m_cg 913492 = g_223_84 := rfl
theorem k_913495 : m_cg 913495 = g_223_87 := rfl
theorem k_913532 : m_cg 913532 = g_223_124 := rfl
theorem k_913422 : m_cg 913422 = g_223_14 := rfl
theorem c_mCopy {g : w_G} {o : w_O} {h : m_H} {d : Nat} {Q : Option m_V → m_H → Prop} (iv : w_Inv g o h) {sh : Int} {n : Int} {ot : Int} {j : Int} {m : Int} (sh_lo : -2147483648 ≤ sh) (sh_hi : sh ≤ 2147483647) (n_lo : -2147483648 ≤ n) (n_hi : n ≤ 2147483647) (ot_lo : -2147483648 ≤ ot) (ot_hi : ot ≤ 2147483647) (j_lo : -2147483648 ≤ j) (j_hi : j ≤ 2147483647) (m_lo : -2147483648 ≤ m) (m_hi : m ≤ 2147483647) (k0 : ∀ (x : Int), ∀ h2 : m_H, w_Inv g o h2 → w_fr o [65, 66] h h2 → -2147483648 ≤ x → x ≤ 2147483647 → Q (some (.inl (w_i x))) h2) : wp (d + 1) 913408 [.inr (.inl (some 31)), .inl (w_i sh), .inl (w_i n), .inl (w_i ot), .inl (w_i j), .inl (w_i m), .inr (.inr (.inl 0))] [] h Q := by
  have F := fr_rf (o := o) (h := h) (W := [65, 66])
  have W := iv_wm iv
  refine w_run k_913408 (w_il (fun _ => rfl) ?_)
  refine w_ca (fun _ => rfl) rfl (c_mIsSheet (d := d) iv (n := sh) (by omega) (by omega)   (fun b1 b2 => ⟨_, rfl, ?_⟩) (fun b3 => ⟨_, rfl, ?_⟩))
  · refine w_eqzf (by omega) (by omega) (by omega)  (w_il (fun _ => rfl) ?_)
    refine w_ca (fun _ => rfl) rfl (c_mIsSheet (d := d) iv (n := ot) (by omega) (by omega)   (fun b4 b5 => ⟨_, rfl, ?_⟩) (fun b6 => ⟨_, rfl, ?_⟩))
    · refine w_nezt (by omega) (by omega) (by omega)  (w_run k_913425 (w_al (fun _ => rfl) ?_))
      obtain ⟨_, m7, spr7, kee7, rul7, tpd7, nxt7, tok7, tka7, val7, opn7, hm7, row7, ksp7, kke7, kru7, rfl, l7_spr, u7_spr, l7_kee, u7_kee, l7_rul, u7_rul, l7_tpd, u7_tpd, l7_nxt, u7_nxt, l7_tok, u7_tok, l7_tka, u7_tka, l7_val, u7_val, l7_opn, u7_opn, l7_hm, u7_hm, l7_row, u7_row, l7_ksp, u7_ksp, l7_kke, u7_kke, l7_kru, u7_kru, f7_0, f7_1, f7_2, f7_3, f7_4, f7_5, f7_6, f7_7, f7_8, f7_9⟩ := iv_31 iv
      refine w_getf m7 rfl (fun _ => rfl) (w_il (fun _ => rfl) ?_)
      obtain ⟨_, m8, A8, rfl, e8⟩ := iv_63 iv
      refine w_aldI m8 (by omega) (by omega) (by omega) ?_
      obtain ⟨b9, b10⟩ := ag_rg A8 sh
      have e11 := e8 sh (by omega) (by omega)
      refine w_ltz2 (by omega) (by omega)  (fun c12 => ?_) (fun c12 => ?_)
      · refine w_run k_913443 (w_icI (x := (-11)) wn_11 (w_ri ?_))
        exact k0 (-11) h iv F (by omega) (by omega)
      · refine w_al (fun _ => rfl) (w_getf m7 rfl (fun _ => rfl) (w_il (fun _ => rfl) (w_aldI m8 (by omega) (by omega) (by omega) ?_)))
        obtain ⟨b13, b14⟩ := ag_rg A8 ot
        have e15 := e8 ot (by omega) (by omega)
        refine w_gez2 (by omega) (by omega)  (fun c16 => ?_) (fun c16 => ?_)
        · refine w_run k_913446 (w_al (fun _ => rfl) (w_getf m7 rfl (fun _ => rfl) (w_il (fun _ => rfl) (w_aldI m8 (by omega) (by omega) (by omega) ?_))))
          obtain ⟨b17, b18⟩ := ag_rg A8 sh
          have e19 := e8 sh (by omega) (by omega)
          refine w_al (fun _ => rfl) (w_getf m7 rfl (fun _ => rfl) (w_il (fun _ => rfl) (w_aldI m8 (by omega) (by omega) (by omega) ?_)))
          obtain ⟨b20, b21⟩ := ag_rg A8 ot
          have e22 := e8 ot (by omega) (by omega)
          refine w_eq2 (by omega) (by omega) (by omega) (by omega)  (fun c23 => ?_) (fun c23 => ?_)
          · refine w_run k_913464 (w_il (fun _ => rfl) ?_)
            refine w_ltz2 (by omega) (by omega)  (fun c24 => ?_) (fun c24 => ?_)
            · refine w_run k_913492 (w_icI (x := (-12)) wn_12 (w_ri ?_))
              exact k0 (-12) h iv F (by omega) (by omega)
            · refine w_al (fun _ => rfl) (w_il (fun _ => rfl) (w_il (fun _ => rfl) (w_il (fun _ => rfl) (w_this (fun _ => rfl) m7 ?_))))
              refine w_ca (fun _ => rfl) rfl (c_mHasCells (d := d) iv (sh := sh) (n := n) (m := m) (by omega) (by omega) (by omega) (by omega) (by omega) (by omega) (by omega) (by omega)  (fun b25 b26 b27 => ⟨_, rfl, ?_⟩) ⟨_, rfl, ?_⟩)
              · refine w_eqzf (by omega) (by omega) (by omega)  (w_al (fun _ => rfl) (w_il (fun _ => rfl) (w_il (fun _ => rfl) (w_il (fun _ => rfl) (w_this (fun _ => rfl) m7 ?_)))))
                refine w_ca (fun _ => rfl) rfl (c_mHasCells (d := d) iv (sh := ot) (n := j) (m := m) (by omega) (by omega) (by omega) (by omega) (by omega) (by omega) (by omega) (by omega)  (fun b28 b29 b30 => ⟨_, rfl, ?_⟩) ⟨_, rfl, ?_⟩)
                · refine w_nezt (by omega) (by omega) (by omega)  (w_run k_913495 (w_icI (x := 0) rfl (w_is (fun _ => rfl) (w_nur k_913498 ?_))))
                  refine l_mCopy_90     sh_lo sh_hi n_lo n_hi ot_lo ot_hi j_lo j_hi m_lo m_hi     k0 (fun z31 h32 iv33 F34 => ?_) (m - 0 + 1 : Int).toNat h 0 iv F (by omega) (by omega)  (by omega) (by omega) (by omega) (by omega) (by omega) (by omega) (by omega) (by omega) (by omega)
                  refine w_run k_913532 (w_icI (x := 0) rfl (w_is (fun _ => rfl) (w_nur k_913535 ?_)))
                  exact l_mCopy_127     sh_lo sh_hi n_lo n_hi ot_lo ot_hi j_lo j_hi m_lo m_hi     k0 (m - 0 + 1 : Int).toNat h32 0 iv33 F34 (by omega) (by omega)  (by omega) (by omega) (by omega) (by omega) (by omega) (by omega) (by omega) (by omega) (by omega)
                · refine w_nezf (by omega) (by omega) (by omega)  (w_icI (x := (-12)) wn_12 (w_ri ?_))
                  exact k0 (-12) h iv F (by omega) (by omega)
              · refine w_eqzt (by omega) (by omega) (by omega)  (w_run k_913492 (w_icI (x := (-12)) wn_12 (w_ri ?_)))
                exact k0 (-12) h iv F (by omega) (by omega)
          · refine w_icI (x := (-13)) wn_13 (w_ri ?_)
            exact k0 (-13) h iv F (by omega) (by omega)
        · refine w_icI (x := (-11)) wn_11 (w_ri ?_)
          exact k0 (-11) h iv F (by omega) (by omega)
    · refine w_nezf (by omega) (by omega) (by omega)  (w_icI (x := (-2)) wn_2 (w_ri ?_))
      exact k0 (-2) h iv F (by omega) (by omega)
  · refine w_eqzt (by omega) (by omega) (by omega)  (w_run k_913422 (w_icI (x := (-2)) wn_2 (w_ri ?_)))
    exact k0 (-2) h iv F (by omega) (by omega)
theorem k_917565 : m_cg 917565 = g_224_61 := rfl
theorem k_917667 : m_cg 917667 = g_224_163 := rfl
theorem k_917603 : m_cg 917603 = g_224_99 := rfl
theorem k_917606 : m_cg 917606 = g_224_102 := rfl
theorem k_917661 : m_cg 917661 = g_224_157 := rfl
theorem l_mPaints_61 {g : w_G} {o : w_O} {h0 : m_H} {d : Nat} {Q : Option m_V → m_H → Prop} {sh : Int} {so : Int} {fo : Int} {n : Int} (sh_lo : -2147483648 ≤ sh) (sh_hi : sh ≤ 2147483647) (so_lo : -2147483648 ≤ so) (so_hi : so ≤ 2147483647) (fo_lo : -2147483648 ≤ fo) (fo_hi : fo ≤ 2147483647) (n_lo : -2147483648 ≤ n) (n_hi : n ≤ 2147483647) (k0 : ∀ (x : Int), ∀ h2 : m_H, w_Inv g o h2 → w_fr o [31, 33, 54, 55, 56] h0 h2 → -2147483648 ≤ x → x ≤ 2147483647 → Q (some (.inl (w_i x))) h2) : ∀ (k : Nat) (h : m_H) (my k_ : Int) (x7_ : m_V) (x8_ : m_V) (x9_ : m_V) (iv : w_Inv g o h) (F : w_fr o [31, 33, 54, 55, 56] h0 h) (my_lo : -2147483648 ≤ my) (my_hi : my ≤ 2147483647) (k__lo : -2147483648 ≤ k_) (k__hi : k_ ≤ 2147483647) (m0_ : 0 ≤ my) (m1_ : my ≤ k_) (k0_ : 0 ≤ k_) (k1_ : k_ ≤ 20) (n1 : n ≤ 20) (s0_ : 0 ≤ sh) (s1_ : sh < 4), 20 - k_ < (k : Int) → wp (d + 7) 917565 [.inr (.inl (some 31)), .inl (w_i sh), .inl (w_i so), .inl (w_i fo), .inl (w_i n), .inl (w_i my), .inl (w_i k_), x7_, x8_, x9_] [] h Q := by
  intro k
  induction k with
  | zero => intro h my k_ x7_ x8_ x9_ iv F my_lo my_hi k__lo k__hi m0_ m1_ k0_ k1_ n1 s0_ s1_ hk; exact absurd hk (by omega)
  | succ k ih =>
    intro h my k_ x7_ x8_ x9_ iv F my_lo my_hi k__lo k__hi m0_ m1_ k0_ k1_ n1 s0_ s1_ hk
    have W := iv_wm iv
    refine w_run k_917565 (w_il (fun _ => rfl) (w_il (fun _ => rfl) ?_))
    refine w_ge2 (by omega) (by omega) (by omega) (by omega)  (fun c1 => ?_) (fun c1 => ?_)
    · refine w_run k_917667 (w_il (fun _ => rfl) (w_ri ?_))
      exact k0 my h iv F (by omega) (by omega)
    · refine w_il (fun _ => rfl) (w_icI (x := 2) rfl (w_il (fun _ => rfl) (w_op (c := w_i (2 * k_)) (i_mul 2 k_) (w_op (c := w_i (fo + (2 * k_))) (i_add fo (2 * k_)) (w_is (fun _ => rfl) (w_il (fun _ => rfl) ?_))))))
      refine w_ltz2 (by omega) (by omega)  (fun c2 => ?_) (fun c2 => ?_)
      · refine w_run k_917603 (w_icI (x := (-12)) wn_12 (w_ri ?_))
        exact k0 (-12) h iv F (by omega) (by omega)
      · refine w_il (fun _ => rfl) (w_icI (x := 40) rfl ?_)
        refine w_gt2 (by omega) (by omega) (by omega) (by omega)  (fun c3 => ?_) (fun c3 => ?_)
        · refine w_run k_917603 (w_icI (x := (-12)) wn_12 (w_ri ?_))
          exact k0 (-12) h iv F (by omega) (by omega)
        · refine w_il (fun _ => rfl) (w_icI (x := 1) rfl (w_op (c := w_i ((fo + (2 * k_)) + 1)) (i_add (fo + (2 * k_)) 1) (w_al (fun _ => rfl) ?_)))
          obtain ⟨_, m4, spr4, kee4, rul4, tpd4, nxt4, tok4, tka4, val4, opn4, hm4, row4, ksp4, kke4, kru4, rfl, l4_spr, u4_spr, l4_kee, u4_kee, l4_rul, u4_rul, l4_tpd, u4_tpd, l4_nxt, u4_nxt, l4_tok, u4_tok, l4_tka, u4_tka, l4_val, u4_val, l4_opn, u4_opn, l4_hm, u4_hm, l4_row, u4_row, l4_ksp, u4_ksp, l4_kke, u4_kke, l4_kru, u4_kru, f4_0, f4_1, f4_2, f4_3, f4_4, f4_5, f4_6, f4_7, f4_8, f4_9⟩ := iv_31 iv
          refine w_getf m4 rfl (fun _ => rfl) (w_il (fun _ => rfl) ?_)
          obtain ⟨_, m5, A5, rfl, e5⟩ := iv_64 iv
          refine w_aldI m5 (by omega) (by omega) (by omega) ?_
          obtain ⟨b6, b7⟩ := ag_rg A5 sh
          have e8 := e5 sh (by omega) (by omega)
          refine w_lt2 (by omega) (by omega) (by omega) (by omega)  (fun c9 => ?_) (fun c9 => ?_)
          · refine w_run k_917606 (w_al (fun _ => rfl) (w_getf m4 rfl (fun _ => rfl) (w_icI (x := 40) rfl (w_il (fun _ => rfl) (w_op (c := w_i (40 * sh)) (i_mul 40 sh) (w_il (fun _ => rfl) (w_op (c := w_i ((40 * sh) + (fo + (2 * k_)))) (i_add (40 * sh) (fo + (2 * k_))) ?_)))))))
            obtain ⟨_, m10, A10, rfl⟩ := iv_65 iv
            refine w_aldI m10 (by omega) (by omega) (by omega) ?_
            obtain ⟨b11, b12⟩ := ag_rg A10 ((40 * sh) + (fo + (2 * k_)))
            refine w_is (fun _ => rfl) (w_al (fun _ => rfl) (w_getf m4 rfl (fun _ => rfl) (w_icI (x := 40) rfl (w_il (fun _ => rfl) (w_op (c := w_i (40 * sh)) (i_mul 40 sh) (w_il (fun _ => rfl) (w_op (c := w_i ((40 * sh) + (fo + (2 * k_)))) (i_add (40 * sh) (fo + (2 * k_))) (w_icI (x := 1) rfl (w_op (c := w_i (((40 * sh) + (fo + (2 * k_))) + 1)) (i_add ((40 * sh) + (fo + (2 * k_))) 1) (w_aldI m10 (by omega) (by omega) (by omega) ?_))))))))))
            obtain ⟨b13, b14⟩ := ag_rg A10 (((40 * sh) + (fo + (2 * k_))) + 1)
            refine w_is (fun _ => rfl) (w_al (fun _ => rfl) (w_il (fun _ => rfl) (w_il (fun _ => rfl) (w_this (fun _ => rfl) m4 ?_))))
            refine w_ca (fun _ => rfl) rfl (c_mIsStep (d := (d + 5)) iv (ho := (a_g A10 ((40 * sh) + (fo + (2 * k_))))) (t := (a_g A10 (((40 * sh) + (fo + (2 * k_))) + 1))) (by omega) (by omega) (by omega) (by omega)   (fun b15 b16 b17 b18 => ⟨_, rfl, ?_⟩) ⟨_, rfl, ?_⟩)
            · refine w_eqzf (by omega) (by omega) (by omega)  (w_al (fun _ => rfl) (w_il (fun _ => rfl) (w_il (fun _ => rfl) (w_this (fun _ => rfl) m4 ?_))))
              refine w_ca (fun _ => rfl) rfl (c_mPaintsOne (d := d) iv (ho := (a_g A10 ((40 * sh) + (fo + (2 * k_))))) (t := (a_g A10 (((40 * sh) + (fo + (2 * k_))) + 1))) (by omega) (by omega) (by omega) (by omega) (by omega) (by omega) (by omega) (by omega)  (fun y19 h20 iv21 F22 b23 b24 => ⟨_, rfl, ?_⟩))
              have F25 := fr_ca F F22 (fun t ht => by exact ht)
              refine w_ltz2 (by omega) (by omega)  (fun c26 => ?_) (fun c26 => ?_)
              · refine w_run k_917661 (w_inc (c := w_i (k_ + 1)) (fun _ => rfl) (i_addL (y := 1) rfl k_) (fun _ => rfl) (w_go ?_))
                exact ih h20 my (k_ + 1) (.inl (w_i (fo + (2 * k_)))) (.inl (w_i (a_g A10 ((40 * sh) + (fo + (2 * k_)))))) (.inl (w_i (a_g A10 (((40 * sh) + (fo + (2 * k_))) + 1)))) iv21 F25 (by omega) (by omega) (by omega) (by omega)  (by omega) (by omega) (by omega) (by omega) (by omega) (by omega) (by omega) (by omega)
              · refine w_inc (c := w_i (my + 1)) (fun _ => rfl) (i_addL (y := 1) rfl my) (fun _ => rfl) (w_inc (c := w_i (k_ + 1)) (fun _ => rfl) (i_addL (y := 1) rfl k_) (fun _ => rfl) (w_go ?_))
                exact ih h20 (my + 1) (k_ + 1) (.inl (w_i (fo + (2 * k_)))) (.inl (w_i (a_g A10 ((40 * sh) + (fo + (2 * k_)))))) (.inl (w_i (a_g A10 (((40 * sh) + (fo + (2 * k_))) + 1)))) iv21 F25 (by omega) (by omega) (by omega) (by omega)  (by omega) (by omega) (by omega) (by omega) (by omega) (by omega) (by omega) (by omega)
            · refine w_eqzt (by omega) (by omega) (by omega)  (w_run k_917661 (w_inc (c := w_i (k_ + 1)) (fun _ => rfl) (i_addL (y := 1) rfl k_) (fun _ => rfl) (w_go ?_)))
              exact ih h my (k_ + 1) (.inl (w_i (fo + (2 * k_)))) (.inl (w_i (a_g A10 ((40 * sh) + (fo + (2 * k_)))))) (.inl (w_i (a_g A10 (((40 * sh) + (fo + (2 * k_))) + 1)))) iv F (by omega) (by omega) (by omega) (by omega)  (by omega) (by omega) (by omega) (by omega) (by omega) (by omega) (by omega) (by omega)
          · refine w_icI (x := (-12)) wn_12 (w_ri ?_)
            exact k0 (-12) h iv F (by omega) (by omega)
theorem k_917504 : m_cg 917504 = g_224_0 := rfl
theorem k_917534 : m_cg 917534 = g_224_30 := rfl
theorem k_917546 : m_cg 917546 = g_224_42 := rfl
theorem k_917559 : m_cg 917559 = g_224_55 := rfl
theorem k_917531 : m_cg 917531 = g_224_27 := rfl
theorem c_mPaints {g : w_G} {o : w_O} {h : m_H} {d : Nat} {Q : Option m_V → m_H → Prop} (iv : w_Inv g o h) {sh : Int} {so : Int} {fo : Int} {n : Int} (sh_lo : -2147483648 ≤ sh) (sh_hi : sh ≤ 2147483647) (so_lo : -2147483648 ≤ so) (so_hi : so ≤ 2147483647) (fo_lo : -2147483648 ≤ fo) (fo_hi : fo ≤ 2147483647) (n_lo : -2147483648 ≤ n) (n_hi : n ≤ 2147483647) (k0 : ∀ (x : Int), ∀ h2 : m_H, w_Inv g o h2 → w_fr o [31, 33, 54, 55, 56] h h2 → -2147483648 ≤ x → x ≤ 2147483647 → Q (some (.inl (w_i x))) h2) : wp (d + 7) 917504 [.inr (.inl (some 31)), .inl (w_i sh), .inl (w_i so), .inl (w_i fo), .inl (w_i n), .inr (.inr (.inl 0)), .inr (.inr (.inl 0)), .inr (.inr (.inl 0)), .inr (.inr (.inl 0)), .inr (.inr (.inl 0))] [] h Q := by
  have F := fr_rf (o := o) (h := h) (W := [31, 33, 54, 55, 56])
  have W := iv_wm iv
  refine w_run k_917504 (w_il (fun _ => rfl) ?_)
  refine w_ca (fun _ => rfl) rfl (c_mIsSheet (d := (d + 6)) iv (n := sh) (by omega) (by omega)   (fun b1 b2 => ⟨_, rfl, ?_⟩) (fun b3 => ⟨_, rfl, ?_⟩))
  · refine w_eqzf (by omega) (by omega) (by omega)  (w_il (fun _ => rfl) (w_icI (x := 0) rfl (w_icI (x := 2) rfl ?_)))
    refine w_ca (fun _ => rfl) rfl (c_mIsIn (d := (d + 6)) iv (n := so) (ln := 0) (mn := 2) (by omega) (by omega) (by omega) (by omega) (by omega) (by omega)   (fun b4 b5 => ⟨_, rfl, ?_⟩) (fun b6 => ⟨_, rfl, ?_⟩))
    · refine w_eqzf (by omega) (by omega) (by omega)  (w_il (fun _ => rfl) (w_icI (x := 0) rfl (w_icI (x := 20) rfl ?_)))
      refine w_ca (fun _ => rfl) rfl (c_mIsIn (d := (d + 6)) iv (n := n) (ln := 0) (mn := 20) (by omega) (by omega) (by omega) (by omega) (by omega) (by omega)   (fun b7 b8 => ⟨_, rfl, ?_⟩) (fun b9 => ⟨_, rfl, ?_⟩))
      · refine w_nezt (by omega) (by omega) (by omega)  (w_run k_917534 (w_al (fun _ => rfl) ?_))
        obtain ⟨_, m10, spr10, kee10, rul10, tpd10, nxt10, tok10, tka10, val10, opn10, hm10, row10, ksp10, kke10, kru10, rfl, l10_spr, u10_spr, l10_kee, u10_kee, l10_rul, u10_rul, l10_tpd, u10_tpd, l10_nxt, u10_nxt, l10_tok, u10_tok, l10_tka, u10_tka, l10_val, u10_val, l10_opn, u10_opn, l10_hm, u10_hm, l10_row, u10_row, l10_ksp, u10_ksp, l10_kke, u10_kke, l10_kru, u10_kru, f10_0, f10_1, f10_2, f10_3, f10_4, f10_5, f10_6, f10_7, f10_8, f10_9⟩ := iv_31 iv
        refine w_getf m10 rfl (fun _ => rfl) (w_il (fun _ => rfl) ?_)
        obtain ⟨_, m11, A11, rfl, e11⟩ := iv_63 iv
        refine w_aldI m11 (by omega) (by omega) (by omega) ?_
        obtain ⟨b12, b13⟩ := ag_rg A11 sh
        have e14 := e11 sh (by omega) (by omega)
        refine w_gez2 (by omega) (by omega)  (fun c15 => ?_) (fun c15 => ?_)
        · refine w_run k_917546 (w_al (fun _ => rfl) (w_getf m10 rfl (fun _ => rfl) (w_il (fun _ => rfl) (w_aldI m11 (by omega) (by omega) (by omega) ?_))))
          obtain ⟨b16, b17⟩ := ag_rg A11 sh
          have e18 := e11 sh (by omega) (by omega)
          refine w_il (fun _ => rfl) ?_
          refine w_eq2 (by omega) (by omega) (by omega) (by omega)  (fun c19 => ?_) (fun c19 => ?_)
          · refine w_run k_917559 (w_icI (x := 0) rfl (w_is (fun _ => rfl) (w_icI (x := 0) rfl (w_is (fun _ => rfl) (w_nur k_917565 ?_)))))
            exact l_mPaints_61     sh_lo sh_hi so_lo so_hi fo_lo fo_hi n_lo n_hi     k0 (20 - 0 + 1 : Int).toNat h 0 0 (.inr (.inr (.inl 0))) (.inr (.inr (.inl 0))) (.inr (.inr (.inl 0))) iv F (by omega) (by omega) (by omega) (by omega)  (by omega) (by omega) (by omega) (by omega) (by omega) (by omega) (by omega) (by omega)
          · refine w_icI (x := (-13)) wn_13 (w_ri ?_)
            exact k0 (-13) h iv F (by omega) (by omega)
        · refine w_icI (x := (-11)) wn_11 (w_ri ?_)
          exact k0 (-11) h iv F (by omega) (by omega)
      · refine w_nezf (by omega) (by omega) (by omega)  (w_icI (x := (-2)) wn_2 (w_ri ?_))
        exact k0 (-2) h iv F (by omega) (by omega)
    · refine w_eqzt (by omega) (by omega) (by omega)  (w_run k_917531 (w_icI (x := (-2)) wn_2 (w_ri ?_)))
      exact k0 (-2) h iv F (by omega) (by omega)
  · refine w_eqzt (by omega) (by omega) (by omega)  (w_run k_917531 (w_icI (x := (-2)) wn_2 (w_ri ?_)))
    exact k0 (-2) h iv F (by omega) (by omega)
theorem k_901188 : m_cg 901188 = g_220_68 := rfl
theorem k_901218 : m_cg 901218 = g_220_98 := rfl
theorem l_mSheet_68 {g : w_G} {o : w_O} {h0 : m_H} {d : Nat} {Q : Option m_V → m_H → Prop} {sh : Int} {so : Int} {n : Int} (sh_lo : -2147483648 ≤ sh) (sh_hi : sh ≤ 2147483647) (so_lo : -2147483648 ≤ so) (so_hi : so ≤ 2147483647) (n_lo : -2147483648 ≤ n) (n_hi : n ≤ 2147483647) (k0 : ∀ h2 : m_H, w_Inv g o h2 → w_fr o [63, 64, 65] h0 h2 → (sh < 0 ∨ 4 ≤ sh ∨ so < -1 ∨ 2 < so ∨ (0 ≤ so ∧ 40 < n)) → Q (some (.inl (w_i (-2)))) h2) (k1 : ∀ h2 : m_H, w_Inv g o h2 → w_fr o [63, 64, 65] h0 h2 → 0 ≤ sh → sh < 4 → 0 ≤ so → so ≤ 2 → n < 0 → Q (some (.inl (w_i (-14)))) h2) (k2 : ∀ h2 : m_H, w_Inv g o h2 → w_fr o [63, 64, 65] h0 h2 → 0 ≤ sh → sh < 4 → (so = -1 ∨ (0 ≤ so ∧ so ≤ 2 ∧ 0 ≤ n ∧ n ≤ 40)) → Q (some (.inl (w_i 1))) h2) : ∀ (k : Nat) (h : m_H) (k_ : Int) (iv : w_Inv g o h) (F : w_fr o [63, 64, 65] h0 h) (k__lo : -2147483648 ≤ k_) (k__hi : k_ ≤ 2147483647) (k0_ : 0 ≤ k_) (k1_ : k_ ≤ 40) (s0_ : 0 ≤ sh) (s1_ : sh < 4) (o0_ : so = -1 ∨ (0 ≤ so ∧ so ≤ 2 ∧ 0 ≤ n ∧ n ≤ 40)), 40 - k_ < (k : Int) → wp (d + 1) 901188 [.inr (.inl (some 31)), .inl (w_i sh), .inl (w_i so), .inl (w_i n), .inl (w_i k_)] [] h Q := by
  intro k
  induction k with
  | zero => intro h k_ iv F k__lo k__hi k0_ k1_ s0_ s1_ o0_ hk; exact absurd hk (by omega)
  | succ k ih =>
    intro h k_ iv F k__lo k__hi k0_ k1_ s0_ s1_ o0_ hk
    have W := iv_wm iv
    refine w_run k_901188 (w_il (fun _ => rfl) (w_al (fun _ => rfl) ?_))
    obtain ⟨_, m1, spr1, kee1, rul1, tpd1, nxt1, tok1, tka1, val1, opn1, hm1, row1, ksp1, kke1, kru1, rfl, l1_spr, u1_spr, l1_kee, u1_kee, l1_rul, u1_rul, l1_tpd, u1_tpd, l1_nxt, u1_nxt, l1_tok, u1_tok, l1_tka, u1_tka, l1_val, u1_val, l1_opn, u1_opn, l1_hm, u1_hm, l1_row, u1_row, l1_ksp, u1_ksp, l1_kke, u1_kke, l1_kru, u1_kru, f1_0, f1_1, f1_2, f1_3, f1_4, f1_5, f1_6, f1_7, f1_8, f1_9⟩ := iv_31 iv
    refine w_getf m1 rfl (fun _ => rfl) (w_il (fun _ => rfl) ?_)
    obtain ⟨_, m2, A2, rfl, e2⟩ := iv_64 iv
    refine w_aldI m2 (by omega) (by omega) (by omega) ?_
    obtain ⟨b3, b4⟩ := ag_rg A2 sh
    have e5 := e2 sh (by omega) (by omega)
    refine w_ge2 (by omega) (by omega) (by omega) (by omega)  (fun c6 => ?_) (fun c6 => ?_)
    · refine w_run k_901218 (w_icI (x := 1) rfl (w_ri ?_))
      exact k2 h iv F (by omega) (by omega) (by omega)
    · refine w_al (fun _ => rfl) (w_getf m1 rfl (fun _ => rfl) (w_icI (x := 40) rfl (w_il (fun _ => rfl) (w_op (c := w_i (40 * sh)) (i_mul 40 sh) (w_il (fun _ => rfl) (w_op (c := w_i ((40 * sh) + k_)) (i_add (40 * sh) k_) (w_icI (x := 0) rfl ?_)))))))
      obtain ⟨_, m7, A7, rfl⟩ := iv_65 iv
      refine w_astI m7 (by omega) (by omega) (by omega) (by omega) (by omega) (fun A11 h9 w12 s8 => ?_)
      have iv10 := is_65 iv s8 ⟨_, rfl⟩
      have F13 := fr_st F s8 (by rw [(ow_65 iv)]; rfl)
      refine w_inc (c := w_i (k_ + 1)) (fun _ => rfl) (i_addL (y := 1) rfl k_) (fun _ => rfl) (w_go ?_)
      exact ih h9 (k_ + 1) iv10 F13 (by omega) (by omega)  (by omega) (by omega) (by omega) (by omega) (by omega) (by omega)
theorem k_901120 : m_cg 901120 = g_220_0 := rfl
theorem k_901139 : m_cg 901139 = g_220_19 := rfl
theorem k_901152 : m_cg 901152 = g_220_32 := rfl
theorem k_901163 : m_cg 901163 = g_220_43 := rfl
theorem k_901184 : m_cg 901184 = g_220_64 := rfl
theorem k_901183 : m_cg 901183 = g_220_63 := rfl
theorem k_901136 : m_cg 901136 = g_220_16 := rfl
theorem c_mSheet {g : w_G} {o : w_O} {h : m_H} {d : Nat} {Q : Option m_V → m_H → Prop} (iv : w_Inv g o h) {sh : Int} {so : Int} {n : Int} (sh_lo : -2147483648 ≤ sh) (sh_hi : sh ≤ 2147483647) (so_lo : -2147483648 ≤ so) (so_hi : so ≤ 2147483647) (n_lo : -2147483648 ≤ n) (n_hi : n ≤ 2147483647) (k0 : ∀ h2 : m_H, w_Inv g o h2 → w_fr o [63, 64, 65] h h2 → (sh < 0 ∨ 4 ≤ sh ∨ so < -1 ∨ 2 < so ∨ (0 ≤ so ∧ 40 < n)) → Q (some (.inl (w_i (-2)))) h2) (k1 : ∀ h2 : m_H, w_Inv g o h2 → w_fr o [63, 64, 65] h h2 → 0 ≤ sh → sh < 4 → 0 ≤ so → so ≤ 2 → n < 0 → Q (some (.inl (w_i (-14)))) h2) (k2 : ∀ h2 : m_H, w_Inv g o h2 → w_fr o [63, 64, 65] h h2 → 0 ≤ sh → sh < 4 → (so = -1 ∨ (0 ≤ so ∧ so ≤ 2 ∧ 0 ≤ n ∧ n ≤ 40)) → Q (some (.inl (w_i 1))) h2) : wp (d + 1) 901120 [.inr (.inl (some 31)), .inl (w_i sh), .inl (w_i so), .inl (w_i n), .inr (.inr (.inl 0))] [] h Q := by
  have F := fr_rf (o := o) (h := h) (W := [63, 64, 65])
  have W := iv_wm iv
  refine w_run k_901120 (w_il (fun _ => rfl) ?_)
  refine w_ca (fun _ => rfl) rfl (c_mIsSheet (d := d) iv (n := sh) (by omega) (by omega)   (fun b1 b2 => ⟨_, rfl, ?_⟩) (fun b3 => ⟨_, rfl, ?_⟩))
  · refine w_eqzf (by omega) (by omega) (by omega)  (w_il (fun _ => rfl) (w_icI (x := (-1)) wn_1 (w_icI (x := 2) rfl ?_)))
    refine w_ca (fun _ => rfl) rfl (c_mIsIn (d := d) iv (n := so) (ln := (-1)) (mn := 2) (by omega) (by omega) (by omega) (by omega) (by omega) (by omega)   (fun b4 b5 => ⟨_, rfl, ?_⟩) (fun b6 => ⟨_, rfl, ?_⟩))
    · refine w_nezt (by omega) (by omega) (by omega)  (w_run k_901139 (w_il (fun _ => rfl) ?_))
      refine w_ltz2 (by omega) (by omega)  (fun c7 => ?_) (fun c7 => ?_)
      · refine w_run k_901152 (w_il (fun _ => rfl) (w_ltzt (by omega) (by omega) (by omega)  (w_run k_901163 (w_al (fun _ => rfl) ?_))))
        obtain ⟨_, m8, spr8, kee8, rul8, tpd8, nxt8, tok8, tka8, val8, opn8, hm8, row8, ksp8, kke8, kru8, rfl, l8_spr, u8_spr, l8_kee, u8_kee, l8_rul, u8_rul, l8_tpd, u8_tpd, l8_nxt, u8_nxt, l8_tok, u8_tok, l8_tka, u8_tka, l8_val, u8_val, l8_opn, u8_opn, l8_hm, u8_hm, l8_row, u8_row, l8_ksp, u8_ksp, l8_kke, u8_kke, l8_kru, u8_kru, f8_0, f8_1, f8_2, f8_3, f8_4, f8_5, f8_6, f8_7, f8_8, f8_9⟩ := iv_31 iv
        refine w_getf m8 rfl (fun _ => rfl) (w_il (fun _ => rfl) (w_il (fun _ => rfl) ?_))
        obtain ⟨_, m9, A9, rfl, e9⟩ := iv_63 iv
        refine w_astI m9 (by omega) (by omega) (by omega) (by omega) (by omega) (fun A13 h11 w14 s10 => ?_)
        have e15 : ∀ j : Int, 0 ≤ j → j < 4 → -1 ≤ a_g A13 j ∧ a_g A13 j ≤ 2 := fun j j0 j1 => by
          rw [w14 j j0 j1]
          by_cases hj : j = sh
          · rw [if_pos hj]; omega
          · rw [if_neg hj]; exact e9 j j0 j1
        have iv12 := is_63 iv s10 ⟨_, rfl, e15⟩
        have F16 := fr_st F s10 (by rw [(ow_63 iv)]; rfl)
        refine w_al (fun _ => rfl) ?_
        have m17 := st_fr s10 m8 (by decide)
        refine w_getf m17 rfl (fun _ => rfl) (w_il (fun _ => rfl) (w_il (fun _ => rfl) (w_gezf (by omega) (by omega) (by omega)  (w_icI (x := 0) rfl (w_go (w_run k_901184 ?_))))))
        obtain ⟨_, m18, A18, rfl, e18⟩ := iv_64 iv12
        refine w_astI m18 (by omega) (by omega) (by omega) (by omega) (by omega) (fun A22 h20 w23 s19 => ?_)
        have e24 : ∀ j : Int, 0 ≤ j → j < 4 → 0 ≤ a_g A22 j ∧ a_g A22 j ≤ 40 := fun j j0 j1 => by
          rw [w23 j j0 j1]
          by_cases hj : j = sh
          · rw [if_pos hj]; omega
          · rw [if_neg hj]; exact e18 j j0 j1
        have iv21 := is_64 iv12 s19 ⟨_, rfl, e24⟩
        have F25 := fr_st F16 s19 (by rw [(ow_64 iv12)]; rfl)
        refine w_icI (x := 0) rfl (w_is (fun _ => rfl) (w_nur k_901188 ?_))
        exact l_mSheet_68     sh_lo sh_hi so_lo so_hi n_lo n_hi     k0 k1 k2 (40 - 0 + 1 : Int).toNat h20 0 iv21 F25 (by omega) (by omega)  (by omega) (by omega) (by omega) (by omega) (by omega) (by omega)
      · refine w_il (fun _ => rfl) (w_icI (x := 40) rfl ?_)
        refine w_le2 (by omega) (by omega) (by omega) (by omega)  (fun c26 => ?_) (fun c26 => ?_)
        · refine w_run k_901152 (w_il (fun _ => rfl) (w_ltzf (by omega) (by omega) (by omega)  (w_il (fun _ => rfl) ?_)))
          refine w_gez2 (by omega) (by omega)  (fun c27 => ?_) (fun c27 => ?_)
          · refine w_run k_901163 (w_al (fun _ => rfl) ?_)
            obtain ⟨_, m28, spr28, kee28, rul28, tpd28, nxt28, tok28, tka28, val28, opn28, hm28, row28, ksp28, kke28, kru28, rfl, l28_spr, u28_spr, l28_kee, u28_kee, l28_rul, u28_rul, l28_tpd, u28_tpd, l28_nxt, u28_nxt, l28_tok, u28_tok, l28_tka, u28_tka, l28_val, u28_val, l28_opn, u28_opn, l28_hm, u28_hm, l28_row, u28_row, l28_ksp, u28_ksp, l28_kke, u28_kke, l28_kru, u28_kru, f28_0, f28_1, f28_2, f28_3, f28_4, f28_5, f28_6, f28_7, f28_8, f28_9⟩ := iv_31 iv
            refine w_getf m28 rfl (fun _ => rfl) (w_il (fun _ => rfl) (w_il (fun _ => rfl) ?_))
            obtain ⟨_, m29, A29, rfl, e29⟩ := iv_63 iv
            refine w_astI m29 (by omega) (by omega) (by omega) (by omega) (by omega) (fun A33 h31 w34 s30 => ?_)
            have e35 : ∀ j : Int, 0 ≤ j → j < 4 → -1 ≤ a_g A33 j ∧ a_g A33 j ≤ 2 := fun j j0 j1 => by
              rw [w34 j j0 j1]
              by_cases hj : j = sh
              · rw [if_pos hj]; omega
              · rw [if_neg hj]; exact e29 j j0 j1
            have iv32 := is_63 iv s30 ⟨_, rfl, e35⟩
            have F36 := fr_st F s30 (by rw [(ow_63 iv)]; rfl)
            refine w_al (fun _ => rfl) ?_
            have m37 := st_fr s30 m28 (by decide)
            refine w_getf m37 rfl (fun _ => rfl) (w_il (fun _ => rfl) (w_il (fun _ => rfl) (w_gezt (by omega) (by omega) (by omega)  (w_run k_901183 (w_il (fun _ => rfl) ?_)))))
            obtain ⟨_, m38, A38, rfl, e38⟩ := iv_64 iv32
            refine w_astI m38 (by omega) (by omega) (by omega) (by omega) (by omega) (fun A42 h40 w43 s39 => ?_)
            have e44 : ∀ j : Int, 0 ≤ j → j < 4 → 0 ≤ a_g A42 j ∧ a_g A42 j ≤ 40 := fun j j0 j1 => by
              rw [w43 j j0 j1]
              by_cases hj : j = sh
              · rw [if_pos hj]; omega
              · rw [if_neg hj]; exact e38 j j0 j1
            have iv41 := is_64 iv32 s39 ⟨_, rfl, e44⟩
            have F45 := fr_st F36 s39 (by rw [(ow_64 iv32)]; rfl)
            refine w_icI (x := 0) rfl (w_is (fun _ => rfl) (w_nur k_901188 ?_))
            exact l_mSheet_68     sh_lo sh_hi so_lo so_hi n_lo n_hi     k0 k1 k2 (40 - 0 + 1 : Int).toNat h40 0 iv41 F45 (by omega) (by omega)  (by omega) (by omega) (by omega) (by omega) (by omega) (by omega)
          · refine w_icI (x := (-14)) wn_14 (w_ri ?_)
            exact k1 h iv F (by omega) (by omega) (by omega) (by omega) (by omega)
        · refine w_icI (x := (-2)) wn_2 (w_ri ?_)
          exact k0 h iv F (by omega)
    · refine w_nezf (by omega) (by omega) (by omega)  (w_icI (x := (-2)) wn_2 (w_ri ?_))
      exact k0 h iv F (by omega)
  · refine w_eqzt (by omega) (by omega) (by omega)  (w_run k_901136 (w_icI (x := (-2)) wn_2 (w_ri ?_)))
    exact k0 h iv F (by omega)
