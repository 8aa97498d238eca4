theorem k_327680 : m_cg 327680 = g_80_0 := rfl
theorem k_327696 : m_cg 327696 = g_80_16 := rfl
theorem k_327697 : m_cg 327697 = g_80_17 := rfl
theorem c_isHouse {g : w_G} {o : w_O} {h : m_H} {d : Nat} {Q : Option m_V → m_H → Prop} (iv : w_Inv g o h) {n : Int} (n_lo : -2147483648 ≤ n) (n_hi : n ≤ 2147483647) (k0 : 0 ≤ n → n < g_H g → Q (some (.inl (w_i 1))) h) (k1 : (n < 0 ∨ g_H g ≤ n) → Q (some (.inl (w_i 0))) h) : wp d 327680 [.inr (.inl (some 1)), .inl (w_i n)] [] h Q := by
  have W := iv_wc iv
  refine w_run k_327680 (w_il (fun _ => rfl) ?_)
  refine w_ltz2 (by omega) (by omega)  (fun c1 => ?_) (fun c1 => ?_)
  · refine w_run k_327696 (w_icI (x := 0) rfl (w_rz (by decide) ?_))
    exact k1 (by omega)
  · refine w_il (fun _ => rfl) (w_al (fun _ => rfl) ?_)
    obtain ⟨_, m2, kp2, sp2, rl2, rfl, l2_kp, u2_kp, l2_sp, u2_sp, l2_rl, u2_rl, f2_0, f2_1⟩ := iv_1 iv
    refine w_getf m2 rfl (fun _ => rfl) ?_
    refine w_ge2 (by omega) (by omega) (by omega) (by omega)  (fun c3 => ?_) (fun c3 => ?_)
    · refine w_run k_327696 (w_icI (x := 0) rfl (w_rz (by decide) ?_))
      exact k1 (by omega)
    · refine w_icI (x := 1) rfl (w_go (w_run k_327697 (w_rz (by decide) ?_)))
      exact k0 (by omega) (by omega)
theorem k_335872 : m_cg 335872 = g_82_0 := rfl
theorem k_335888 : m_cg 335888 = g_82_16 := rfl
theorem k_335889 : m_cg 335889 = g_82_17 := rfl
theorem c_isColour {g : w_G} {o : w_O} {h : m_H} {d : Nat} {Q : Option m_V → m_H → Prop} (iv : w_Inv g o h) {n : Int} (n_lo : -2147483648 ≤ n) (n_hi : n ≤ 2147483647) (k0 : 0 ≤ n → n < g_C g → Q (some (.inl (w_i 1))) h) (k1 : (n < 0 ∨ g_C g ≤ n) → Q (some (.inl (w_i 0))) h) : wp d 335872 [.inr (.inl (some 1)), .inl (w_i n)] [] h Q := by
  have W := iv_wc iv
  refine w_run k_335872 (w_il (fun _ => rfl) ?_)
  refine w_ltz2 (by omega) (by omega)  (fun c1 => ?_) (fun c1 => ?_)
  · refine w_run k_335888 (w_icI (x := 0) rfl (w_rz (by decide) ?_))
    exact k1 (by omega)
  · refine w_il (fun _ => rfl) (w_al (fun _ => rfl) ?_)
    obtain ⟨_, m2, kp2, sp2, rl2, rfl, l2_kp, u2_kp, l2_sp, u2_sp, l2_rl, u2_rl, f2_0, f2_1⟩ := iv_1 iv
    refine w_getf m2 rfl (fun _ => rfl) ?_
    refine w_ge2 (by omega) (by omega) (by omega) (by omega)  (fun c3 => ?_) (fun c3 => ?_)
    · refine w_run k_335888 (w_icI (x := 0) rfl (w_rz (by decide) ?_))
      exact k1 (by omega)
    · refine w_icI (x := 1) rfl (w_go (w_run k_335889 (w_rz (by decide) ?_)))
      exact k0 (by omega) (by omega)
theorem k_339968 : m_cg 339968 = g_83_0 := rfl
theorem k_339984 : m_cg 339984 = g_83_16 := rfl
theorem k_339985 : m_cg 339985 = g_83_17 := rfl
theorem c_isTown {g : w_G} {o : w_O} {h : m_H} {d : Nat} {Q : Option m_V → m_H → Prop} (iv : w_Inv g o h) {n : Int} (n_lo : -2147483648 ≤ n) (n_hi : n ≤ 2147483647) (k0 : 0 ≤ n → n < g_N g → Q (some (.inl (w_i 1))) h) (k1 : (n < 0 ∨ g_N g ≤ n) → Q (some (.inl (w_i 0))) h) : wp d 339968 [.inr (.inl (some 1)), .inl (w_i n)] [] h Q := by
  have W := iv_wc iv
  refine w_run k_339968 (w_il (fun _ => rfl) ?_)
  refine w_ltz2 (by omega) (by omega)  (fun c1 => ?_) (fun c1 => ?_)
  · refine w_run k_339984 (w_icI (x := 0) rfl (w_rz (by decide) ?_))
    exact k1 (by omega)
  · refine w_il (fun _ => rfl) (w_al (fun _ => rfl) ?_)
    obtain ⟨_, m2, kp2, sp2, rl2, rfl, l2_kp, u2_kp, l2_sp, u2_sp, l2_rl, u2_rl, f2_0, f2_1⟩ := iv_1 iv
    refine w_getf m2 rfl (fun _ => rfl) ?_
    refine w_ge2 (by omega) (by omega) (by omega) (by omega)  (fun c3 => ?_) (fun c3 => ?_)
    · refine w_run k_339984 (w_icI (x := 0) rfl (w_rz (by decide) ?_))
      exact k1 (by omega)
    · refine w_icI (x := 1) rfl (w_go (w_run k_339985 (w_rz (by decide) ?_)))
      exact k0 (by omega) (by omega)
theorem k_331776 : m_cg 331776 = g_81_0 := rfl
theorem k_331801 : m_cg 331801 = g_81_25 := rfl
theorem k_331802 : m_cg 331802 = g_81_26 := rfl
theorem c_areTwo {g : w_G} {o : w_O} {h : m_H} {d : Nat} {Q : Option m_V → m_H → Prop} (iv : w_Inv g o h) {a : Int} {b : Int} (a_lo : -2147483648 ≤ a) (a_hi : a ≤ 2147483647) (b_lo : -2147483648 ≤ b) (b_hi : b ≤ 2147483647) (k0 : 0 ≤ a → a < g_H g → 0 ≤ b → b < g_H g → a ≠ b → Q (some (.inl (w_i 1))) h) (k1 : (a < 0 ∨ g_H g ≤ a ∨ b < 0 ∨ g_H g ≤ b ∨ a = b) → Q (some (.inl (w_i 0))) h) : wp (d + 1) 331776 [.inr (.inl (some 1)), .inl (w_i a), .inl (w_i b)] [] h Q := by
  have W := iv_wc iv
  refine w_run k_331776 (w_al (fun _ => rfl) (w_il (fun _ => rfl) ?_))
  obtain ⟨_, m1, kp1, sp1, rl1, rfl, l1_kp, u1_kp, l1_sp, u1_sp, l1_rl, u1_rl, f1_0, f1_1⟩ := iv_1 iv
  refine w_this (fun _ => rfl) m1 ?_
  refine w_ca (fun _ => rfl) rfl (c_isHouse (d := d) iv (n := a) (by omega) (by omega)   (fun b2 b3 => ⟨_, rfl, ?_⟩) (fun b4 => ⟨_, rfl, ?_⟩))
  · refine w_eqzf (by omega) (by omega) (by omega)  (w_al (fun _ => rfl) (w_il (fun _ => rfl) (w_this (fun _ => rfl) m1 ?_)))
    refine w_ca (fun _ => rfl) rfl (c_isHouse (d := d) iv (n := b) (by omega) (by omega)   (fun b5 b6 => ⟨_, rfl, ?_⟩) (fun b7 => ⟨_, rfl, ?_⟩))
    · refine w_eqzf (by omega) (by omega) (by omega)  (w_il (fun _ => rfl) (w_il (fun _ => rfl) ?_))
      refine w_eq2 (by omega) (by omega) (by omega) (by omega)  (fun c8 => ?_) (fun c8 => ?_)
      · refine w_run k_331801 (w_icI (x := 0) rfl (w_rz (by decide) ?_))
        exact k1 (by omega)
      · refine w_icI (x := 1) rfl (w_go (w_run k_331802 (w_rz (by decide) ?_)))
        exact k0 (by omega) (by omega) (by omega) (by omega) (by omega)
    · refine w_eqzt (by omega) (by omega) (by omega)  (w_run k_331801 (w_icI (x := 0) rfl (w_rz (by decide) ?_)))
      exact k1 (by omega)
  · refine w_eqzt (by omega) (by omega) (by omega)  (w_run k_331801 (w_icI (x := 0) rfl (w_rz (by decide) ?_)))
    exact k1 (by omega)
theorem k_344064 : m_cg 344064 = g_84_0 := rfl
theorem c_keepBit {g : w_G} {o : w_O} {h : m_H} {d : Nat} {Q : Option m_V → m_H → Prop} (iv : w_Inv g o h) {n : Int} (n_lo : -2147483648 ≤ n) (n_hi : n ≤ 2147483647) (k0 : ∀ (x : Int), -2147483648 ≤ x → x ≤ 2147483647 → 0 ≤ x → x ≤ 1 → Q (some (.inl (w_i x))) h) : wp d 344064 [.inr (.inl (some 1)), .inl (w_i n)] [] h Q := by
  have W := iv_wc iv
  refine w_run k_344064 (w_al (fun _ => rfl) ?_)
  obtain ⟨_, m1, kp1, sp1, rl1, rfl, l1_kp, u1_kp, l1_sp, u1_sp, l1_rl, u1_rl, f1_0, f1_1⟩ := iv_1 iv
  refine w_getf m1 rfl (fun _ => rfl) (w_il (fun _ => rfl) (w_opR shr_lt (fun x2 x20 x21 x2e => ?_)))
  refine w_icI (x := 1) rfl (w_op01 and_1 (fun x3 x30 x31 x3e => ?_))
  refine w_ri ?_
  exact k0 x3 (by omega) (by omega) (by omega) (by omega)
theorem k_348165 : m_cg 348165 = g_85_5 := rfl
theorem k_348199 : m_cg 348199 = g_85_39 := rfl
theorem k_348193 : m_cg 348193 = g_85_33 := rfl
theorem l_coloursOf_5 {g : w_G} {o : w_O} {h : m_H} {d : Nat} {Q : Option m_V → m_H → Prop} (iv : w_Inv g o h) {q : Nat} {A : Nat} {told : Int} (told_lo : -2147483648 ≤ told) (told_hi : told ≤ 2147483647) (ha_A : m_at h.2.2 q = some (.inl (false, 6, A))) (k0 : ∀ (x : Int), -2147483648 ≤ x → x ≤ 2147483647 → Q (some (.inl (w_i x))) h) : ∀ (k : Nat) (bits i : Int) (bits_lo : -2147483648 ≤ bits) (bits_hi : bits ≤ 2147483647) (i_lo : -2147483648 ≤ i) (i_hi : i ≤ 2147483647) (i0 : 0 ≤ i) (i1 : i ≤ g_H g), g_H g - i < (k : Int) → wp d 348165 [.inr (.inl (some 1)), .inl (w_i told), .inr (.inl (some q)), .inl (w_i bits), .inl (w_i i)] [] h Q := by
  intro k
  induction k with
  | zero => intro bits i bits_lo bits_hi i_lo i_hi i0 i1 hk; exact absurd hk (by omega)
  | succ k ih =>
    intro bits i bits_lo bits_hi i_lo i_hi i0 i1 hk
    have W := iv_wc iv
    refine w_run k_348165 (w_il (fun _ => rfl) (w_al (fun _ => rfl) ?_))
    obtain ⟨_, m1, kp1, sp1, rl1, rfl, l1_kp, u1_kp, l1_sp, u1_sp, l1_rl, u1_rl, f1_0, f1_1⟩ := iv_1 iv
    refine w_getf m1 rfl (fun _ => rfl) ?_
    refine w_ge2 (by omega) (by omega) (by omega) (by omega)  (fun c2 => ?_) (fun c2 => ?_)
    · refine w_run k_348199 (w_il (fun _ => rfl) (w_ri ?_))
      exact k0 bits (by omega) (by omega)
    · refine w_il (fun _ => rfl) (w_il (fun _ => rfl) (w_opR shr_lt (fun x3 x30 x31 x3e => ?_)))
      refine w_icI (x := 1) rfl (w_op01 and_1 (fun x4 x40 x41 x4e => ?_))
      refine w_icI (x := 1) rfl ?_
      refine w_ne2 (by omega) (by omega) (by omega) (by omega)  (fun c5 => ?_) (fun c5 => ?_)
      · refine w_run k_348193 (w_inc (c := w_i (i + 1)) (fun _ => rfl) (i_addL (y := 1) rfl i) (fun _ => rfl) (w_go ?_))
        exact ih bits (i + 1) (by omega) (by omega) (by omega) (by omega)  (by omega) (by omega) (by omega)
      · refine w_il (fun _ => rfl) (w_icI (x := 1) rfl (w_al (fun _ => rfl) (w_il (fun _ => rfl) (w_aldI ha_A (by omega) (by omega) (by omega) ?_))))
        obtain ⟨b6, b7⟩ := ag_rg A i
        refine w_opR shl_lt (fun x8 x80 x81 x8e => ?_)
        refine w_opR or_lt (fun x9 x90 x91 x9e => ?_)
        refine w_is (fun _ => rfl) (w_inc (c := w_i (i + 1)) (fun _ => rfl) (i_addL (y := 1) rfl i) (fun _ => rfl) (w_go ?_))
        exact ih x9 (i + 1) (by omega) (by omega) (by omega) (by omega)  (by omega) (by omega) (by omega)
theorem k_348160 : m_cg 348160 = g_85_0 := rfl
theorem c_coloursOf {g : w_G} {o : w_O} {h : m_H} {d : Nat} {Q : Option m_V → m_H → Prop} (iv : w_Inv g o h) {q : Nat} {A : Nat} {told : Int} (told_lo : -2147483648 ≤ told) (told_hi : told ≤ 2147483647) (ha_A : m_at h.2.2 q = some (.inl (false, 6, A))) (k0 : ∀ (x : Int), -2147483648 ≤ x → x ≤ 2147483647 → Q (some (.inl (w_i x))) h) : wp d 348160 [.inr (.inl (some 1)), .inl (w_i told), .inr (.inl (some q)), .inr (.inr (.inl 0)), .inr (.inr (.inl 0))] [] h Q := by
  have W := iv_wc iv
  refine w_run k_348160 (w_icI (x := 0) rfl (w_is (fun _ => rfl) (w_icI (x := 0) rfl (w_is (fun _ => rfl) (w_nur k_348165 ?_)))))
  exact l_coloursOf_5 iv (q := q) (A := A)   told_lo told_hi ha_A    k0 (g_H g - 0 + 1 : Int).toNat 0 0 (by omega) (by omega) (by omega) (by omega)  (by omega) (by omega) (by omega)
theorem k_352258 : m_cg 352258 = g_86_2 := rfl
theorem k_352295 : m_cg 352295 = g_86_39 := rfl
theorem k_352289 : m_cg 352289 = g_86_33 := rfl
theorem l_isLawful_2 {g : w_G} {o : w_O} {h : m_H} {d : Nat} {Q : Option m_V → m_H → Prop} (iv : w_Inv g o h) {q : Nat} {A : Nat} (ha_A : m_at h.2.2 q = some (.inl (false, 6, A))) (k0 : Q (some (.inl (w_i 1))) h) (k1 : Q (some (.inl (w_i 0))) h) : ∀ (k : Nat) (i : Int) (i_lo : -2147483648 ≤ i) (i_hi : i ≤ 2147483647) (i0 : 0 ≤ i) (i1 : i ≤ g_H g), g_H g - i < (k : Int) → wp (d + 1) 352258 [.inr (.inl (some 1)), .inr (.inl (some q)), .inl (w_i i)] [] h Q := by
  intro k
  induction k with
  | zero => intro i i_lo i_hi i0 i1 hk; exact absurd hk (by omega)
  | succ k ih =>
    intro i i_lo i_hi i0 i1 hk
    have W := iv_wc iv
    refine w_run k_352258 (w_il (fun _ => rfl) (w_al (fun _ => rfl) ?_))
    obtain ⟨_, m1, kp1, sp1, rl1, rfl, l1_kp, u1_kp, l1_sp, u1_sp, l1_rl, u1_rl, f1_0, f1_1⟩ := iv_1 iv
    refine w_getf m1 rfl (fun _ => rfl) ?_
    refine w_ge2 (by omega) (by omega) (by omega) (by omega)  (fun c2 => ?_) (fun c2 => ?_)
    · refine w_run k_352295 (w_icI (x := 1) rfl (w_rz (by decide) ?_))
      exact k0 
    · refine w_al (fun _ => rfl) (w_al (fun _ => rfl) (w_getf m1 rfl (fun _ => rfl) (w_il (fun _ => rfl) ?_)))
      obtain ⟨_, m3, A3, rfl, e3⟩ := iv_2 iv
      refine w_aldI m3 (by omega) (by omega) (by omega) ?_
      obtain ⟨b4, b5⟩ := ag_rg A3 i
      have e6 := e3 i (by omega) (by omega)
      refine w_al (fun _ => rfl) (w_this (fun _ => rfl) m1 ?_)
      refine w_ca (fun _ => rfl) rfl (c_coloursOf (d := d) iv (told := (a_g A3 i)) (q := q) (by omega) (by omega) ha_A  (fun y7 b8 b9 => ⟨_, rfl, ?_⟩))
      refine w_al (fun _ => rfl) (w_il (fun _ => rfl) (w_aldI ha_A (by omega) (by omega) (by omega) ?_))
      obtain ⟨b10, b11⟩ := ag_rg A i
      refine w_opR shr_lt (fun x12 x120 x121 x12e => ?_)
      refine w_icI (x := 1) rfl (w_op01 and_1 (fun x13 x130 x131 x13e => ?_))
      refine w_icI (x := 1) rfl ?_
      refine w_ne2 (by omega) (by omega) (by omega) (by omega)  (fun c14 => ?_) (fun c14 => ?_)
      · refine w_run k_352289 (w_inc (c := w_i (i + 1)) (fun _ => rfl) (i_addL (y := 1) rfl i) (fun _ => rfl) (w_go ?_))
        exact ih (i + 1) (by omega) (by omega)  (by omega) (by omega) (by omega)
      · refine w_icI (x := 0) rfl (w_rz (by decide) ?_)
        exact k1 
theorem k_352256 : m_cg 352256 = g_86_0 := rfl
theorem c_isLawful {g : w_G} {o : w_O} {h : m_H} {d : Nat} {Q : Option m_V → m_H → Prop} (iv : w_Inv g o h) {q : Nat} {A : Nat} (ha_A : m_at h.2.2 q = some (.inl (false, 6, A))) (k0 : Q (some (.inl (w_i 1))) h) (k1 : Q (some (.inl (w_i 0))) h) : wp (d + 1) 352256 [.inr (.inl (some 1)), .inr (.inl (some q)), .inr (.inr (.inl 0))] [] h Q := by
  have W := iv_wc iv
  refine w_run k_352256 (w_icI (x := 0) rfl (w_is (fun _ => rfl) (w_nur k_352258 ?_)))
  exact l_isLawful_2 iv (q := q) (A := A)    ha_A    k0 k1 (g_H g - 0 + 1 : Int).toNat 0 (by omega) (by omega)  (by omega) (by omega) (by omega)
theorem k_356361 : m_cg 356361 = g_87_9 := rfl
theorem k_356382 : m_cg 356382 = g_87_30 := rfl
theorem l_numberOf_9 {g : w_G} {o : w_O} {h : m_H} {d : Nat} {Q : Option m_V → m_H → Prop} (iv : w_Inv g o h) {q : Nat} {A : Nat} (ha_A : m_at h.2.2 q = some (.inl (false, 6, A))) (hA : ∀ j : Int, 0 ≤ j → j < 6 → 0 ≤ a_g A j ∧ a_g A j < g_C g) (k0 : ∀ (x : Int), -2147483648 ≤ x → x ≤ 2147483647 → 0 ≤ x → x < g_N g → Q (some (.inl (w_i x))) h) : ∀ (k : Nat) (num i : Int) (num_lo : -2147483648 ≤ num) (num_hi : num ≤ 2147483647) (i_lo : -2147483648 ≤ i) (i_hi : i ≤ 2147483647) (i0 : -1 ≤ i) (i1 : i ≤ g_H g - 1) (n0 : 0 ≤ num) (n1 : num < w_pw (g_C g) (g_H g - 1 - i)), i + 1 < (k : Int) → wp d 356361 [.inr (.inl (some 1)), .inr (.inl (some q)), .inl (w_i num), .inl (w_i i)] [] h Q := by
  intro k
  induction k with
  | zero => intro num i num_lo num_hi i_lo i_hi i0 i1 n0 n1 hk; exact absurd hk (by omega)
  | succ k ih =>
    intro num i num_lo num_hi i_lo i_hi i0 i1 n0 n1 hk
    have W := iv_wc iv
    refine w_run k_356361 (w_il (fun _ => rfl) ?_)
    refine w_ltz2 (by omega) (by omega)  (fun c1 => ?_) (fun c1 => ?_)
    · refine w_run k_356382 (w_il (fun _ => rfl) (w_ri ?_))
      exact k0 num (by omega) (by omega) (by omega) (by have e : g_H g - 1 - i = g_H g := (by omega); rw [e, ← iv_N iv] at n1; exact n1)
    · have hP := pw_le (c := g_C g) (m := g_H g - 1 - i) (n := g_H g) (by omega) (by omega) (by omega)
      rw [← iv_N iv] at hP
      have hm := mul_rg (a := num) (b := g_C g) (x := 4096) (y := 5) (by omega) (by omega) (by omega) (by omega)
      refine w_il (fun _ => rfl) (w_al (fun _ => rfl) ?_)
      obtain ⟨_, m2, kp2, sp2, rl2, rfl, l2_kp, u2_kp, l2_sp, u2_sp, l2_rl, u2_rl, f2_0, f2_1⟩ := iv_1 iv
      refine w_getf m2 rfl (fun _ => rfl) (w_op (c := w_i (num * g_C g)) (i_mul num (g_C g)) (w_al (fun _ => rfl) (w_il (fun _ => rfl) (w_aldI ha_A (by omega) (by omega) (by omega) ?_))))
      obtain ⟨b3, b4⟩ := ag_rg A i
      have e5 := hA i (by omega) (by omega)
      refine w_op (c := w_i ((num * g_C g) + (a_g A i))) (i_add (num * g_C g) (a_g A i)) (w_is (fun _ => rfl) (w_inc (c := w_i (i + (-1))) (fun _ => rfl) (i_addL (y := (-1)) wn_1 i) (fun _ => rfl) (w_go ?_)))
      exact ih ((num * g_C g) + (a_g A i)) (i + (-1)) (by omega) (by omega) (by omega) (by omega)  (by omega) (by omega) (by omega) (by rw [show g_H g - 1 - (i + (-1)) = (g_H g - 1 - i) + 1 from by omega]; exact pw_dig (by omega) n1 (by omega) (by omega) (by omega)) (by omega)
theorem k_356352 : m_cg 356352 = g_87_0 := rfl
theorem c_numberOf {g : w_G} {o : w_O} {h : m_H} {d : Nat} {Q : Option m_V → m_H → Prop} (iv : w_Inv g o h) {q : Nat} {A : Nat} (ha_A : m_at h.2.2 q = some (.inl (false, 6, A))) (hA : ∀ j : Int, 0 ≤ j → j < 6 → 0 ≤ a_g A j ∧ a_g A j < g_C g) (k0 : ∀ (x : Int), -2147483648 ≤ x → x ≤ 2147483647 → 0 ≤ x → x < g_N g → Q (some (.inl (w_i x))) h) : wp d 356352 [.inr (.inl (some 1)), .inr (.inl (some q)), .inr (.inr (.inl 0)), .inr (.inr (.inl 0))] [] h Q := by
  have W := iv_wc iv
  refine w_run k_356352 (w_icI (x := 0) rfl (w_is (fun _ => rfl) (w_al (fun _ => rfl) ?_)))
  obtain ⟨_, m1, kp1, sp1, rl1, rfl, l1_kp, u1_kp, l1_sp, u1_sp, l1_rl, u1_rl, f1_0, f1_1⟩ := iv_1 iv
  refine w_getf m1 rfl (fun _ => rfl) (w_icI (x := 1) rfl (w_op (c := w_i (g_H g - 1)) (i_sub (g_H g) 1) (w_is (fun _ => rfl) (w_nur k_356361 ?_))))
  exact l_numberOf_9 iv (q := q) (A := A)    ha_A hA    k0 ((g_H g - 1) + 1 + 1 : Int).toNat 0 (g_H g - 1) (by omega) (by omega) (by omega) (by omega)  (by omega) (by omega) (by omega) (by rw [show g_H g - 1 - (g_H g - 1) = 0 from by omega]; exact pw_0) (by omega)
theorem l_numberOfU_9 {g : w_G} {o : w_O} {h : m_H} {d : Nat} {Q : Option m_V → m_H → Prop} (iv : w_Inv g o h) {q : Nat} {A : Nat} (ha_A : m_at h.2.2 q = some (.inl (false, 6, A))) (k0 : ∀ (x : Int), -2147483648 ≤ x → x ≤ 2147483647 → Q (some (.inl (w_i x))) h) : ∀ (k : Nat) (num i : Int) (num_lo : -2147483648 ≤ num) (num_hi : num ≤ 2147483647) (i_lo : -2147483648 ≤ i) (i_hi : i ≤ 2147483647) (i0 : -1 ≤ i) (i1 : i ≤ g_H g - 1), i + 1 < (k : Int) → wp d 356361 [.inr (.inl (some 1)), .inr (.inl (some q)), .inl (w_i num), .inl (w_i i)] [] h Q := by
  intro k
  induction k with
  | zero => intro num i num_lo num_hi i_lo i_hi i0 i1 hk; exact absurd hk (by omega)
  | succ k ih =>
    intro num i num_lo num_hi i_lo i_hi i0 i1 hk
    have W := iv_wc iv
    refine w_run k_356361 (w_il (fun _ => rfl) ?_)
    refine w_ltz2 (by omega) (by omega)  (fun c1 => ?_) (fun c1 => ?_)
    · refine w_run k_356382 (w_il (fun _ => rfl) (w_ri ?_))
      exact k0 num (by omega) (by omega)
    · refine w_il (fun _ => rfl) (w_al (fun _ => rfl) ?_)
      obtain ⟨_, m2, kp2, sp2, rl2, rfl, l2_kp, u2_kp, l2_sp, u2_sp, l2_rl, u2_rl, f2_0, f2_1⟩ := iv_1 iv
      refine w_getf m2 rfl (fun _ => rfl) (w_opR mul_lt (fun x3 x30 x31 x3e => ?_))
      refine w_al (fun _ => rfl) (w_il (fun _ => rfl) (w_aldI ha_A (by omega) (by omega) (by omega) ?_))
      obtain ⟨b4, b5⟩ := ag_rg A i
      refine w_opR add_lt (fun x6 x60 x61 x6e => ?_)
      refine w_is (fun _ => rfl) (w_inc (c := w_i (i + (-1))) (fun _ => rfl) (i_addL (y := (-1)) wn_1 i) (fun _ => rfl) (w_go ?_))
      exact ih x6 (i + (-1)) (by omega) (by omega) (by omega) (by omega)  (by omega) (by omega) (by omega)
theorem c_numberOfU {g : w_G} {o : w_O} {h : m_H} {d : Nat} {Q : Option m_V → m_H → Prop} (iv : w_Inv g o h) {q : Nat} {A : Nat} (ha_A : m_at h.2.2 q = some (.inl (false, 6, A))) (k0 : ∀ (x : Int), -2147483648 ≤ x → x ≤ 2147483647 → Q (some (.inl (w_i x))) h) : wp d 356352 [.inr (.inl (some 1)), .inr (.inl (some q)), .inr (.inr (.inl 0)), .inr (.inr (.inl 0))] [] h Q := by
  have W := iv_wc iv
  refine w_run k_356352 (w_icI (x := 0) rfl (w_is (fun _ => rfl) (w_al (fun _ => rfl) ?_)))
  obtain ⟨_, m1, kp1, sp1, rl1, rfl, l1_kp, u1_kp, l1_sp, u1_sp, l1_rl, u1_rl, f1_0, f1_1⟩ := iv_1 iv
  refine w_getf m1 rfl (fun _ => rfl) (w_icI (x := 1) rfl (w_op (c := w_i (g_H g - 1)) (i_sub (g_H g) 1) (w_is (fun _ => rfl) (w_nur k_356361 ?_))))
  exact l_numberOfU_9 iv (q := q) (A := A)    ha_A    k0 ((g_H g - 1) + 1 + 1 : Int).toNat 0 (g_H g - 1) (by omega) (by omega) (by omega) (by omega)  (by omega) (by omega) (by omega)
