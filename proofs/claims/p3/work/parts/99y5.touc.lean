/-! WHO TOUCHES, by words -/
noncomputable def w_bt (t b : Int) : Nat := m_and (m_shr (w_i t) (w_i b)) (w_i 1)
noncomputable def v_lk (x b : Nat) (s : Bool) : Nat := m_or (m_and x (m_xor (m_shl 1 b) 4294967295)) (m_sel s (m_shl 1 b) 0)
noncomputable def v_xr (x b : Nat) : Nat := m_xor x (m_shl 1 b)
noncomputable def v_bt (x b : Nat) : Nat := m_and (m_shr x b) 1
theorem bt_1 : ∀ x, x < 64 → ∀ b, b < 6 → v_bt x b < 2 ∧ v_lk x b (Nat.beq (v_bt x b) 1) = x ∧ v_lk x b (Nat.beq (v_bt x b) 0) = v_xr x b := by decide +kernel
theorem bt_2 : ∀ x, x < 64 → ∀ b, b < 6 → v_bt (v_lk x b true) b = 1 ∧ v_bt (v_lk x b false) b = 0 := by decide +kernel
theorem bt_3 : ∀ x, x < 64 → ∀ b, b < 6 → ∀ c, c < 6 → Nat.beq c b = false → v_bt (v_lk x b true) c = v_bt x c ∧ v_bt (v_lk x b false) c = v_bt x c := by decide +kernel
/-- a row's bit set to is -/
noncomputable def w_lk (t b is : Int) : Nat := v_lk (w_i t) (w_i b) (decide (is = 1))
noncomputable def w_xr (t b : Int) : Nat := v_xr (w_i t) (w_i b)
theorem lk_v {T b is x1 x2 x3 x5 : Int} {y : Nat} (e1 : m_shl (w_i 1) (w_i b) = w_i x1) (e2 : m_xor (w_i x1) (w_i (-1)) = w_i x2) (e3 : m_and (w_i T) (w_i x2) = w_i x3) (hy : (is = 1 ∧ y = m_shl (w_i 1) (w_i b)) ∨ (is ≠ 1 ∧ y = w_i 0)) (e5 : m_or (w_i x3) y = w_i x5) : w_lk T b is = w_i x5 := by
  have z1 : m_shl 1 (w_i b) = w_i x1 := e1
  have z2 : m_xor (w_i x1) 4294967295 = w_i x2 := e2
  unfold w_lk v_lk
  rw [z1, z2, e3, ← e5]
  rcases hy with ⟨h, rfl⟩ | ⟨h, rfl⟩
  · rw [decide_eq_true h, e1]; rfl
  · rw [decide_eq_false h]; rfl
theorem xr_v {T b x1 x2 : Int} (e1 : m_shl (w_i 1) (w_i b) = w_i x1) (e2 : m_xor (w_i T) (w_i x1) = w_i x2) : w_xr T b = w_i x2 := by
  have z1 : m_shl 1 (w_i b) = w_i x1 := e1
  unfold w_xr v_xr
  rw [z1, e2]
theorem bt_v {T b x1 x2 : Int} {y : Nat} (hy : y = w_i 1) (e1 : m_shr (w_i T) (w_i b) = w_i x1) (e2 : m_and (w_i x1) y = w_i x2) : w_bt T b = w_i x2 := by
  unfold w_bt
  rw [e1, ← hy, e2]
theorem btv (t b : Int) : w_bt t b = v_bt (w_i t) (w_i b) := rfl
/-- houses that may be made to touch -/
def w_tb (H a b is : Int) : Prop := a < 0 ∨ H ≤ a ∨ b < 0 ∨ H ≤ b ∨ a = b ∨ is < 0 ∨ 1 < is
def w_tg (H a b is : Int) : Prop := 0 ≤ a ∧ a < H ∧ 0 ≤ b ∧ b < H ∧ a ≠ b ∧ 0 ≤ is ∧ is ≤ 1
def w_oth (T T2 : Int → Int) (a b : Int) : Prop := ∀ j : Int, 0 ≤ j → j < 6 → j ≠ a → j ≠ b → T2 j = T j
def w_ys (T : Int → Int) : Prop := ∀ a b : Int, 0 ≤ a → a < 6 → 0 ≤ b → b < 6 → w_bt (T a) b = w_bt (T b) a
def w_cut (T : Int → Int) : Prop := ∀ j : Int, 0 ≤ j → j < 6 → 0 ≤ T j ∧ T j ≤ 63
def w_eT (g : w_G) : Prop := w_eq g ∧ (∀ j : Int, 0 ≤ j → j < 6 → g_T g j = g_mT g j) ∧ w_ys (g_T g)
theorem H_6 {g : w_G} {o : w_O} {h : m_H} (iv : w_Inv g o h) : g_H g ≤ 6 := (iv_wc iv).2.1
def w_kT (g g2 : w_G) : Prop := w_kp g g2 ∧ (∀ j, g_T g2 j = g_T g j) ∧ ∀ j, g_mT g2 j = g_mT g j
theorem kT_rf {g : w_G} : w_kT g g := ⟨kp_rf, fun _ => rfl, fun _ => rfl⟩
theorem kT_pub {g g2 : w_G} (p : w_pub g g2) : w_kT g g2 := ⟨kp_pub p, pub_T p, pub_mT p⟩
theorem kT_of {g g2 : w_G} (k : w_kp g g2) (f0 : g2.2.1 0 = g.2.1 0) (f3 : g2.2.1 3 = g.2.1 3) : w_kT g g2 := ⟨k, fun j => congrFun f0 j, fun j => congrFun f3 j⟩
theorem sy_eq {T T2 : Int → Int} (h : ∀ j, 0 ≤ j → j < 6 → T2 j = T j) (s : w_ys T) : w_ys T2 := fun a b a0 a1 b0 b1 => by rw [h a a0 a1, h b b0 b1]; exact s a b a0 a1 b0 b1
theorem eT_kT {g g2 : w_G} (k : w_kT g g2) (e : w_eT g) : w_eT g2 := by
  obtain ⟨k1, k2, k3⟩ := k
  obtain ⟨e1, e2, e3⟩ := e
  exact ⟨eq_kp k1 e1, fun j j0 j1 => by rw [k2, k3]; exact e2 j j0 j1, sy_eq (fun j _ _ => k2 j) e3⟩
/-- build -/
def w_tv (k j : Int) : Int := (if 0 < j ∧ j < k then (if j = 1 then 1 else if j = 2 then 2 else if j = 3 then 4 else if j = 4 then 8 else 16) else 0) + (if j + 1 < k then (if j = 0 then 2 else if j = 1 then 4 else if j = 2 then 8 else if j = 3 then 16 else 32) else 0)
def w_tt (k : Int) (T : Int → Int) : Prop := ∀ j : Int, 0 ≤ j → j < 6 → T j = w_tv k j
theorem tv_sy {k : Int} (h0 : 1 ≤ k) (h1 : k ≤ 6) : w_ys (w_tv k) := by
  intro a b a0 a1 b0 b1
  rcases (show k = 1 ∨ k = 2 ∨ k = 3 ∨ k = 4 ∨ k = 5 ∨ k = 6 from by omega) with rfl | rfl | rfl | rfl | rfl | rfl <;>
  rcases (show a = 0 ∨ a = 1 ∨ a = 2 ∨ a = 3 ∨ a = 4 ∨ a = 5 from by omega) with rfl | rfl | rfl | rfl | rfl | rfl <;>
  rcases (show b = 0 ∨ b = 1 ∨ b = 2 ∨ b = 3 ∨ b = 4 ∨ b = 5 from by omega) with rfl | rfl | rfl | rfl | rfl | rfl <;> decide +kernel
def w_cBT (g g2 : w_G) (x hh c : Int) : Prop := w_cB g g2 x hh c ∧ (∀ j, g_mT g2 j = g_mT g j) ∧ ((¬ w_okB hh c ∧ ∀ j, g_T g2 j = g_T g j) ∨ (w_okB hh c ∧ w_tt hh (g_T g2)))
def w_mBT (g g2 : w_G) (x hh c : Int) : Prop := w_mB g g2 x hh c ∧ (∀ j, g_T g2 j = g_T g j) ∧ ((¬ w_okB hh c ∧ ∀ j, g_mT g2 j = g_mT g j) ∨ (w_okB hh c ∧ w_tt hh (g_mT g2)))
theorem eT_B {g g1 g2 : w_G} {x y hh c : Int} (e : w_eT g) (h1 : w_cBT g g1 x hh c) (h2 : w_mBT g1 g2 y hh c) : w_eT g2 ∧ x = y := by
  obtain ⟨e1, e2, e3⟩ := e
  obtain ⟨a1, a2, a3⟩ := h1
  obtain ⟨b1, b2, b3⟩ := h2
  have z := eq_B e1 a1 b1
  refine ⟨⟨z.1, ?_⟩, z.2⟩
  rcases a3 with ⟨n1, a3⟩ | ⟨n1, a3⟩ <;> rcases b3 with ⟨m1, b3⟩ | ⟨m1, b3⟩
  · exact ⟨fun j j0 j1 => by rw [b2, a3, b3, a2]; exact e2 j j0 j1, sy_eq (fun j _ _ => by rw [b2, a3]) e3⟩
  · exact absurd m1 n1
  · exact absurd n1 m1
  · exact ⟨fun j j0 j1 => by rw [b2, a3 j j0 j1, b3 j j0 j1], sy_eq (T := w_tv hh) (fun j j0 j1 => by rw [b2, a3 j j0 j1]) (tv_sy n1.1 n1.2.1)⟩
/-- painter -/
def w_cPT (g g2 : w_G) (x kd nu : Int) : Prop := w_cP g g2 x kd nu ∧ (∀ j, g_T g2 j = g_T g j) ∧ ∀ j, g_mT g2 j = g_mT g j
def w_mPT (g g2 : w_G) (x kd nu : Int) : Prop := w_mP g g2 x kd nu ∧ (∀ j, g_T g2 j = g_T g j) ∧ ∀ j, g_mT g2 j = g_mT g j
theorem eT_P {g g1 g2 : w_G} {x y kd nu : Int} (e : w_eT g) (h1 : w_cPT g g1 x kd nu) (h2 : w_mPT g1 g2 y kd nu) : w_eT g2 ∧ x = y := by
  obtain ⟨e1, e2, e3⟩ := e
  obtain ⟨a1, a2, a3⟩ := h1
  obtain ⟨b1, b2, b3⟩ := h2
  have z := eq_P e1 a1 b1
  exact ⟨⟨z.1, fun j j0 j1 => by rw [b2, a2, b3, a3]; exact e2 j j0 j1, sy_eq (fun j _ _ => by rw [b2, a2]) e3⟩, z.2⟩
/-- touch -/
def w_cTo (g g2 : w_G) (x a b is : Int) : Prop := w_kp g g2 ∧ (∀ j, g_mT g2 j = g_mT g j) ∧ ((x = -2 ∧ w_tb (g_H g) a b is ∧ ∀ j, g_T g2 j = g_T g j) ∨ (w_tg (g_H g) a b is ∧ 0 ≤ x ∧ x ≤ 1 ∧ w_bt (g_T g a) b = w_i x ∧ w_i (g_T g2 a) = w_lk (g_T g a) b is ∧ w_i (g_T g2 b) = w_lk (g_T g b) a is ∧ w_oth (g_T g) (g_T g2) a b))
def w_mTo (g g2 : w_G) (x a b is : Int) : Prop := w_kp g g2 ∧ (∀ j, g_T g2 j = g_T g j) ∧ ((x = -2 ∧ w_tb (g_mH g) a b is ∧ ∀ j, g_mT g2 j = g_mT g j) ∨ (w_tg (g_mH g) a b is ∧ 0 ≤ x ∧ x ≤ 1 ∧ w_bt (g_mT g a) b = w_i x ∧ x = is ∧ ∀ j, g_mT g2 j = g_mT g j) ∨ (w_tg (g_mH g) a b is ∧ 0 ≤ x ∧ x ≤ 1 ∧ w_bt (g_mT g a) b = w_i x ∧ x ≠ is ∧ w_i (g_mT g2 a) = w_xr (g_mT g a) b ∧ w_i (g_mT g2 b) = w_xr (g_mT g b) a ∧ w_oth (g_mT g) (g_mT g2) a b))
theorem wi_01 {x y : Int} (x0 : 0 ≤ x) (x1 : x ≤ 1) (y0 : 0 ≤ y) (y1 : y ≤ 1) (e : w_i x = w_i y) : x = y := by
  have h1 := wi_pos x0 (by omega)
  have h2 := wi_pos y0 (by omega)
  omega
theorem wi_63 {x y : Int} (x0 : 0 ≤ x ∧ x ≤ 63) (y0 : 0 ≤ y ∧ y ≤ 63) (e : w_i x = w_i y) : x = y := by
  have h1 := wi_pos x0.1 (by omega)
  have h2 := wi_pos y0.1 (by omega)
  omega
theorem lt_63 {x : Int} (x0 : 0 ≤ x ∧ x ≤ 63) : w_i x < 64 := by rw [wi_pos x0.1 (by omega)]; omega
theorem lt_6 {x : Int} (x0 : 0 ≤ x) (x1 : x < 6) : w_i x < 6 := by rw [wi_pos x0 (by omega)]; omega
/-- a bit that is as told: nothing changes -/
theorem lk_sm {t b is : Int} (t0 : 0 ≤ t ∧ t ≤ 63) (b0 : 0 ≤ b) (b1 : b < 6) (i0 : 0 ≤ is) (i1 : is ≤ 1) (e : w_bt t b = w_i is) : w_lk t b is = w_i t := by
  have h := (bt_1 (w_i t) (lt_63 t0) (w_i b) (lt_6 b0 b1)).2.1
  rw [← btv, e] at h
  unfold w_lk
  rcases (show is = 0 ∨ is = 1 from by omega) with rfl | rfl
  · exact h
  · exact h
theorem lk_df {t b is x : Int} (t0 : 0 ≤ t ∧ t ≤ 63) (b0 : 0 ≤ b) (b1 : b < 6) (i0 : 0 ≤ is) (i1 : is ≤ 1) (x0 : 0 ≤ x) (x1 : x ≤ 1) (ne : x ≠ is) (e : w_bt t b = w_i x) : w_lk t b is = w_xr t b := by
  have h := (bt_1 (w_i t) (lt_63 t0) (w_i b) (lt_6 b0 b1)).2.2
  rw [← btv, e] at h
  unfold w_lk w_xr
  rcases (show (is = 0 ∧ x = 1) ∨ (is = 1 ∧ x = 0) from by omega) with ⟨rfl, rfl⟩ | ⟨rfl, rfl⟩
  · exact h
  · exact h
theorem lk_b {t t2 b is : Int} (t0 : 0 ≤ t ∧ t ≤ 63) (b0 : 0 ≤ b) (b1 : b < 6) (e : w_i t2 = w_lk t b is) : w_bt t2 b = (decide (is = 1)).toNat := by
  have h := bt_2 (w_i t) (lt_63 t0) (w_i b) (lt_6 b0 b1)
  rw [btv, e]
  unfold w_lk
  cases decide (is = 1)
  · exact h.2
  · exact h.1
theorem lk_c {t t2 b c is : Int} (t0 : 0 ≤ t ∧ t ≤ 63) (b0 : 0 ≤ b) (b1 : b < 6) (c0 : 0 ≤ c) (c1 : c < 6) (ne : c ≠ b) (e : w_i t2 = w_lk t b is) : w_bt t2 c = w_bt t c := by
  have hn : Nat.beq (w_i c) (w_i b) = false := by
    rw [wi_pos c0 (by omega), wi_pos b0 (by omega)]
    cases hq : Nat.beq c.toNat b.toNat with
    | false => rfl
    | true => exact absurd (Nat.eq_of_beq_eq_true hq) (by omega)
  have h := bt_3 (w_i t) (lt_63 t0) (w_i b) (lt_6 b0 b1) (w_i c) (lt_6 c0 c1) hn
  rw [btv, btv, e]
  unfold w_lk
  cases decide (is = 1)
  · exact h.2
  · exact h.1
theorem sy_to {T T2 : Int → Int} {a b is : Int} (r : w_cut T) (s : w_ys T) (a0 : 0 ≤ a) (a1 : a < 6) (b0 : 0 ≤ b) (b1 : b < 6) (ab : a ≠ b) (ha : w_i (T2 a) = w_lk (T a) b is) (hb : w_i (T2 b) = w_lk (T b) a is) (ho : w_oth T T2 a b) : w_ys T2 := by
  have main : ∀ p q : Int, 0 ≤ p → p < 6 → 0 ≤ q → q < 6 → w_bt (T2 p) q = if (p = a ∧ q = b) ∨ (p = b ∧ q = a) then (decide (is = 1)).toNat else w_bt (T p) q := fun p q p0 p1 q0 q1 => by
    by_cases pa : p = a
    · rw [pa]
      by_cases qb : q = b
      · rw [qb, if_pos (Or.inl ⟨rfl, rfl⟩)]
        exact lk_b (r a a0 a1) b0 b1 ha
      · rw [if_neg (by omega)]
        exact lk_c (r a a0 a1) b0 b1 q0 q1 qb ha
    · by_cases pb : p = b
      · rw [pb]
        by_cases qa : q = a
        · rw [qa, if_pos (Or.inr ⟨rfl, rfl⟩)]
          exact lk_b (r b b0 b1) a0 a1 hb
        · rw [if_neg (by omega)]
          exact lk_c (r b b0 b1) a0 a1 q0 q1 qa hb
      · rw [if_neg (by omega), ho p p0 p1 pa pb]
  intro p q p0 p1 q0 q1
  rw [main p q p0 p1 q0 q1, main q p q0 q1 p0 p1]
  by_cases h : (p = a ∧ q = b) ∨ (p = b ∧ q = a)
  · rw [if_pos h, if_pos (by omega)]
  · rw [if_neg h, if_neg (by omega)]
    exact s p q p0 p1 q0 q1
theorem eT_T {g g1 g2 : w_G} {x y a b is : Int} (hH : g_H g ≤ 6) (r : w_cut (g_T g)) (r2 : w_cut (g_T g2)) (m2 : w_cut (g_mT g2)) (e : w_eT g) (h1 : w_cTo g g1 x a b is) (h2 : w_mTo g1 g2 y a b is) : w_eT g2 ∧ x = y := by
  obtain ⟨e1, e2, e3⟩ := e
  obtain ⟨a1, a2, a3⟩ := h1
  obtain ⟨b1, b2, b3⟩ := h2
  have q1 := eq_kp a1 e1
  have q2 := eq_kp b1 q1
  have hh : g_mH g1 = g_H g := by rw [← q1.1]; exact a1.1
  rw [hh] at b3
  rcases a3 with ⟨c1, c2, c3⟩ | ⟨⟨c1, c2, c3, c4, c5, c6, c7⟩, x0, x1, c8, c9, c10, c11⟩
  · have k : w_kp g g1 ∧ (∀ j, g_T g1 j = g_T g j) ∧ ∀ j, g_mT g1 j = g_mT g j := ⟨a1, c3, a2⟩
    rcases b3 with ⟨d1, d2, d3⟩ | ⟨d1, -⟩ | ⟨d1, -⟩
    · exact ⟨eT_kT ⟨b1, b2, d3⟩ (eT_kT k ⟨e1, e2, e3⟩), c1.trans d1.symm⟩
    · unfold w_tb at c2; unfold w_tg at d1; exfalso; omega
    · unfold w_tb at c2; unfold w_tg at d1; exfalso; omega
  · have ea : g_mT g1 a = g_T g a := by rw [a2]; exact (e2 a c1 (by omega)).symm
    have eb : g_mT g1 b = g_T g b := by rw [a2]; exact (e2 b c3 (by omega)).symm
    have sb : w_bt (g_T g b) a = w_i x := (e3 b a c3 (by omega) c1 (by omega)).trans c8
    have hs : w_ys (g_T g2) := sy_eq (fun j _ _ => b2 j) (sy_to r e3 c1 (by omega) c3 (by omega) c5 c9 c10 c11)
    rcases b3 with ⟨d1, d2, d3⟩ | ⟨-, y0, y1, d1, d2, d3⟩ | ⟨-, y0, y1, d1, d2, d3, d4, d5⟩
    · unfold w_tb at d2; exfalso; omega
    · rw [ea, c8] at d1
      have xy := wi_01 x0 x1 y0 y1 d1
      refine ⟨⟨q2, fun j j0 j1 => ?_, hs⟩, xy⟩
      by_cases ja : j = a
      · rw [ja]
        refine wi_63 (r2 a c1 (by omega)) (m2 a c1 (by omega)) ?_
        rw [b2, c9, lk_sm (r a c1 (by omega)) c3 (by omega) c6 c7 (by rw [c8, xy, d2]), d3, ea]
      · by_cases jb : j = b
        · rw [jb]
          refine wi_63 (r2 b c3 (by omega)) (m2 b c3 (by omega)) ?_
          rw [b2, c10, lk_sm (r b c3 (by omega)) c1 (by omega) c6 c7 (by rw [sb, xy, d2]), d3, eb]
        · rw [b2, c11 j j0 j1 ja jb, d3, a2]; exact e2 j j0 j1
    · rw [ea, c8] at d1
      have xy := wi_01 x0 x1 y0 y1 d1
      refine ⟨⟨q2, fun j j0 j1 => ?_, hs⟩, xy⟩
      by_cases ja : j = a
      · rw [ja]
        refine wi_63 (r2 a c1 (by omega)) (m2 a c1 (by omega)) ?_
        rw [b2, c9, lk_df (r a c1 (by omega)) c3 (by omega) c6 c7 y0 y1 d2 (by rw [c8, xy]), d3, ea]
      · by_cases jb : j = b
        · rw [jb]
          refine wi_63 (r2 b c3 (by omega)) (m2 b c3 (by omega)) ?_
          rw [b2, c10, lk_df (r b c3 (by omega)) c1 (by omega) c6 c7 y0 y1 d2 (by rw [sb, xy]), d4, eb]
        · rw [b2, c11 j j0 j1 ja jb, d5 j j0 j1 ja jb, a2]; exact e2 j j0 j1
theorem c_touchT {g : w_G} {o : w_O} {h : m_H} {d : Nat} {Q : Option m_V → m_H → Prop} (iv : w_Inv g o h) {a : Int} {b : Int} {is_ : Int} (a_lo : -2147483648 ≤ a) (a_hi : a ≤ 2147483647) (b_lo : -2147483648 ≤ b) (b_hi : b ≤ 2147483647) (is__lo : -2147483648 ≤ is_) (is__hi : is_ ≤ 2147483647) (k0 : ∀ (x : Int) (g2 : w_G) (o2 : w_O) (h2 : m_H), w_Inv g2 o2 h2 → w_ch [] [0] g g2 → w_oe o o2 → h2.1 ≤ h.1 + 3 → h2.2.1 ≤ h.2.1 + 200 → w_tg (g_H g) a b is_ → 0 ≤ x → x ≤ 1 → w_bt (g_T g a) b = w_i x → w_i (g_T g2 a) = w_lk (g_T g a) b is_ → w_i (g_T g2 b) = w_lk (g_T g b) a is_ → w_oth (g_T g) (g_T g2) a b → Q (some (.inl (w_i x))) h2) (k1 : ∀ h2 : m_H, w_Inv g o h2 → w_fr o [9] h h2 → w_tb (g_H g) a b is_ → Q (some (.inl (w_i (-2)))) h2) : wp (d + 2) 368640 [.inr (.inl (some 0)), .inl (w_i a), .inl (w_i b), .inl (w_i is_), .inr (.inr (.inl 0))] [] h Q := by
  have F := fr_rf (o := o) (h := h) (W := [9])
  have W := iv_wc iv
  refine w_run k_368640 (w_al (fun _ => rfl) ?_)
  obtain ⟨_, m1, rfl⟩ := iv_0 iv
  refine w_getf m1 rfl (fun _ => rfl) (w_il (fun _ => rfl) (w_il (fun _ => rfl) ?_))
  obtain ⟨_, m2, kp2, sp2, rl2, rfl, l2_kp, u2_kp, l2_sp, u2_sp, l2_rl, u2_rl, f2_0, f2_1⟩ := iv_1 iv
  refine w_this (fun _ => rfl) m2 ?_
  refine w_ca (fun _ => rfl) rfl (c_areTwo (d := d) iv (a := a) (b := b) (by omega) (by omega) (by omega) (by omega)   (fun b3 b4 b5 b6 b7 => ⟨_, rfl, ?_⟩) (fun b8 => ⟨_, rfl, ?_⟩))
  · refine w_eqzf (by omega) (by omega) (by omega)  (w_il (fun _ => rfl) ?_)
    refine w_ca (fun _ => rfl) rfl (c_isFlag (d := (d + 1)) iv (n := is_) (by omega) (by omega)   (fun b9 b10 => ⟨_, rfl, ?_⟩) (fun b11 => ⟨_, rfl, ?_⟩))
    · refine w_nezt (by omega) (by omega) (by omega)  (w_run k_368662 (w_al (fun _ => rfl) (w_getf m1 rfl (fun _ => rfl) (w_getf m2 rfl (fun _ => rfl) (w_il (fun _ => rfl) ?_)))))
      obtain ⟨_, m12, A12, rfl, e12⟩ := iv_2 iv
      refine w_aldI m12 (by omega) (by omega) (by omega) ?_
      obtain ⟨b13, b14⟩ := ag_rg A12 a
      have e15 := e12 a (by omega) (by omega)
      refine w_il (fun _ => rfl) (w_opR shr_lt (fun x16 x160 x161 x16e => ?_))
      refine w_icI (x := 1) rfl ?_
      refine w_op01 and_1 (fun x17 x170 x171 x17e => ?_)
      refine w_is (fun _ => rfl) ?_
      have z18 := iv.2.2.2.2.1
      have z18w := iv.1
      have eTa := e12 a (by omega) (by omega)
      have qx : w_bt (g_T g a) b = w_i x17 := by rw [← eTa]; exact bt_v rfl x16e x17e
      refine w_al (fun _ => rfl) (w_getf m1 rfl (fun _ => rfl) (w_il (fun _ => rfl) (w_il (fun _ => rfl) (w_il (fun _ => rfl) (w_icI (x := 1) rfl ?_)))))
      refine w_ne2 (by omega) (by omega) (by omega) (by omega)  (fun c19 => ?_) (fun c19 => ?_)
      · refine w_run k_368692 (w_icI (x := 0) rfl (w_this (fun _ => rfl) m2 (w_cv (fun _ => rfl) rfl (w_run k_323584 (w_al (fun _ => rfl) (w_getf m2 rfl (fun _ => rfl) (w_il (fun _ => rfl) (w_al (fun _ => rfl) (w_getf m2 rfl (fun _ => rfl) (w_il (fun _ => rfl) (w_aldI m12 (by omega) (by omega) (by decide) ?_)))))))))))
        obtain ⟨b20, b21⟩ := ag_rg A12 a
        have e22 := e12 a (by omega) (by omega)
        refine w_icI (x := 1) rfl (w_il (fun _ => rfl) (w_opR shl_lt (fun x23 x230 x231 x23e => ?_)))
        refine w_icI (x := (-1)) wn_1 (w_opR xor_lt (fun x24 x240 x241 x24e => ?_))
        refine w_opR and_lt (fun x25 x250 x251 x25e => ?_)
        refine w_il (fun _ => rfl) (w_eqzt (by decide) (by decide) (by decide)  (w_run k_323611 (w_icI (x := 0) rfl ?_)))
        refine w_opR or_lt (fun x26 x260 x261 x26e => ?_)
        have hTa := wf_T iv a (by omega) (by omega)
        have hxa := lk_63 (T := (a_g A12 a)) (b := b) (by omega) (by omega) (by omega) (by omega) x23e x24e x25e (Or.inr rfl) x26e (by omega) (by omega)
        have hva := lk_v (T := (a_g A12 a)) (b := b) (is := is_) x23e x24e x25e (Or.inr ⟨by omega, rfl⟩) x26e
        refine w_astI m12 (by omega) (by omega) (by decide) (by omega) (by omega) (fun A29 h28 w30 s27 => ?_)
        have z31 := s27.1
        have z31y := s27.2.1
        have z31w := s27.2.2.2.2 z18w
        refine w_al (fun _ => rfl) ?_
        have m32 := st_fr s27 m2 (by decide)
        refine w_getf m32 rfl (fun _ => rfl) (w_il (fun _ => rfl) (w_al (fun _ => rfl) (w_getf m32 rfl (fun _ => rfl) (w_il (fun _ => rfl) (w_aldI s27.2.2.1 (by omega) (by omega) (by decide) ?_)))))
        obtain ⟨b33, b34⟩ := ag_rg A29 b
        refine w_icI (x := 1) rfl (w_il (fun _ => rfl) (w_opR shl_lt (fun x35 x350 x351 x35e => ?_)))
        refine w_icI (x := (-1)) wn_1 (w_opR xor_lt (fun x36 x360 x361 x36e => ?_))
        refine w_opR and_lt (fun x37 x370 x371 x37e => ?_)
        refine w_il (fun _ => rfl) (w_eqzt (by decide) (by decide) (by decide)  (w_run k_323641 (w_icI (x := 0) rfl ?_)))
        refine w_opR or_lt (fun x38 x380 x381 x38e => ?_)
        have hTb := wf_T iv b (by omega) (by omega)
        have eTb := e12 b (by omega) (by omega)
        have eb2 : a_g A29 b = a_g A12 b := (w30 b (by omega) (by omega)).trans (if_neg (by omega))
        have hxb := lk_63 (T := (a_g A29 b)) (b := a) (by omega) (by omega) (by omega) (by omega) x35e x36e x37e (Or.inr rfl) x38e (by omega) (by omega)
        have hvb := lk_v (T := (a_g A29 b)) (b := a) (is := is_) x35e x36e x37e (Or.inr ⟨by omega, rfl⟩) x38e
        refine w_astI s27.2.2.1 (by omega) (by omega) (by decide) (by omega) (by omega) (fun A41 h40 w42 s39 => ?_)
        have z43 := s39.1
        have z43y := s39.2.1
        have z43w := s39.2.2.2.2 z31w
        refine w_rv ⟨rfl, ?_⟩
        have F1 := F.1
        have F2 := F.2.1
        have E1 : h40.1 = h.1 := by omega
        have E2 : h40.2.1 = h.2.1 := by omega
        have hA : ∀ j : Int, 0 ≤ j → j < 6 → 0 ≤ a_g A41 j ∧ a_g A41 j ≤ 63 := fun j j0 j1 => by
          rw [w42 j j0 (by omega)]
          by_cases hb : j = b
          · rw [if_pos hb]; exact hxb
          · rw [if_neg hb, w30 j j0 (by omega)]
            by_cases ha : j = a
            · rw [if_pos ha]; exact hxa
            · rw [if_neg ha, e12 j j0 (by omega)]; exact wf_T iv j j0 (by omega)
        have ja : a_g A41 a = x26 := (w42 a (by omega) (by omega)).trans ((if_neg (by omega)).trans ((w30 a (by omega) (by omega)).trans (if_pos rfl)))
        have jb : a_g A41 b = x38 := (w42 b (by omega) (by omega)).trans (if_pos rfl)
        have jo : w_oth (g_T g) (a_g A41) a b := fun j j0 j1 na nb => by rw [w42 j j0 (by omega), if_neg nb, w30 j j0 (by omega), if_neg na]; exact e12 j j0 (by omega)
        have qa : w_i (a_g A41 a) = w_lk (g_T g a) b is_ := by rw [ja, ← eTa]; exact hva.symm
        have qb : w_i (a_g A41 b) = w_lk (g_T g b) a is_ := by rw [jb, ← eTb, ← eb2]; exact hvb.symm
        have ivn := to_fin iv z43w (by omega) (fun q n2 => (s39.2.2.2.1 q n2).trans ((s27.2.2.2.1 q n2).trans (rfl))) s39.2.2.1 hA
        have gd : w_tg (g_H g) a b is_ := ⟨by omega, by omega, by omega, by omega, by omega, by omega, by omega⟩
        obtain ⟨g, ivq, chg, qa, qb, jo⟩ : ∃ g2 : w_G, w_Inv g2 o h40 ∧ w_ch [] [0] g g2 ∧ w_i (g_T g2 a) = w_lk (g_T g a) b is_ ∧ w_i (g_T g2 b) = w_lk (g_T g b) a is_ ∧ w_oth (g_T g) (g_T g2) a b := ⟨_, ivn, ch_gto, qa, qb, jo⟩
        have W := iv_wc ivq
        have Fq := fr_rf (o := o) (h := h40) (W := [9])
        refine w_al (fun _ => rfl) ?_
        obtain ⟨_, m44, rfl⟩ := iv_0 ivq
        refine w_getf m44 rfl (fun _ => rfl) ?_
        obtain ⟨_, m45, kpr45, sta45, fnd45, kco45, rfl, l45_kpr, u45_kpr, l45_sta, u45_sta, l45_fnd, u45_fnd, l45_kco, u45_kco, f45_0, f45_1, f45_2, f45_3, f45_4, f45_5, f45_6⟩ := iv_9 ivq
        refine w_this (fun _ => rfl) m45 ?_
        refine w_cv (fun _ => rfl) rfl (c_forget (d := (d + 1)) ivq     (fun h46 iv47 F48 => ⟨rfl, ?_⟩))
        have F49 := fr_ca Fq F48 (fun t ht => by exact ht)
        refine w_il (fun _ => rfl) (w_ri ?_)
        exact k0 _ g o h46 iv47 chg oe_rf (by have := F49.1; omega) (by have := F49.2.1; omega) gd (by omega) (by omega) qx qa qb jo
      · refine w_icI (x := 1) rfl (w_go (w_run k_368693 (w_this (fun _ => rfl) m2 (w_cv (fun _ => rfl) rfl (w_run k_323584 (w_al (fun _ => rfl) (w_getf m2 rfl (fun _ => rfl) (w_il (fun _ => rfl) (w_al (fun _ => rfl) (w_getf m2 rfl (fun _ => rfl) (w_il (fun _ => rfl) (w_aldI m12 (by omega) (by omega) (by decide) ?_))))))))))))
        obtain ⟨b50, b51⟩ := ag_rg A12 a
        have e52 := e12 a (by omega) (by omega)
        refine w_icI (x := 1) rfl (w_il (fun _ => rfl) (w_opR shl_lt (fun x53 x530 x531 x53e => ?_)))
        refine w_icI (x := (-1)) wn_1 (w_opR xor_lt (fun x54 x540 x541 x54e => ?_))
        refine w_opR and_lt (fun x55 x550 x551 x55e => ?_)
        refine w_il (fun _ => rfl) (w_eqzf (by decide) (by decide) (by decide)  (w_icI (x := 1) rfl (w_il (fun _ => rfl) (w_opR shl_lt (fun x56 x560 x561 x56e => ?_)))))
        refine w_go (w_run k_323612 ?_)
        refine w_opR or_lt (fun x57 x570 x571 x57e => ?_)
        have hTa := wf_T iv a (by omega) (by omega)
        have hxa := lk_63 (T := (a_g A12 a)) (b := b) (by omega) (by omega) (by omega) (by omega) x53e x54e x55e (Or.inl x56e.symm) x57e (by omega) (by omega)
        have hva := lk_v (T := (a_g A12 a)) (b := b) (is := is_) x53e x54e x55e (Or.inl ⟨by omega, x56e.symm⟩) x57e
        refine w_astI m12 (by omega) (by omega) (by decide) (by omega) (by omega) (fun A60 h59 w61 s58 => ?_)
        have z62 := s58.1
        have z62y := s58.2.1
        have z62w := s58.2.2.2.2 z18w
        refine w_al (fun _ => rfl) ?_
        have m63 := st_fr s58 m2 (by decide)
        refine w_getf m63 rfl (fun _ => rfl) (w_il (fun _ => rfl) (w_al (fun _ => rfl) (w_getf m63 rfl (fun _ => rfl) (w_il (fun _ => rfl) (w_aldI s58.2.2.1 (by omega) (by omega) (by decide) ?_)))))
        obtain ⟨b64, b65⟩ := ag_rg A60 b
        refine w_icI (x := 1) rfl (w_il (fun _ => rfl) (w_opR shl_lt (fun x66 x660 x661 x66e => ?_)))
        refine w_icI (x := (-1)) wn_1 (w_opR xor_lt (fun x67 x670 x671 x67e => ?_))
        refine w_opR and_lt (fun x68 x680 x681 x68e => ?_)
        refine w_il (fun _ => rfl) (w_eqzf (by decide) (by decide) (by decide)  (w_icI (x := 1) rfl (w_il (fun _ => rfl) (w_opR shl_lt (fun x69 x690 x691 x69e => ?_)))))
        refine w_go (w_run k_323642 ?_)
        refine w_opR or_lt (fun x70 x700 x701 x70e => ?_)
        have hTb := wf_T iv b (by omega) (by omega)
        have eTb := e12 b (by omega) (by omega)
        have eb2 : a_g A60 b = a_g A12 b := (w61 b (by omega) (by omega)).trans (if_neg (by omega))
        have hxb := lk_63 (T := (a_g A60 b)) (b := a) (by omega) (by omega) (by omega) (by omega) x66e x67e x68e (Or.inl x69e.symm) x70e (by omega) (by omega)
        have hvb := lk_v (T := (a_g A60 b)) (b := a) (is := is_) x66e x67e x68e (Or.inl ⟨by omega, x69e.symm⟩) x70e
        refine w_astI s58.2.2.1 (by omega) (by omega) (by decide) (by omega) (by omega) (fun A73 h72 w74 s71 => ?_)
        have z75 := s71.1
        have z75y := s71.2.1
        have z75w := s71.2.2.2.2 z62w
        refine w_rv ⟨rfl, ?_⟩
        have F1 := F.1
        have F2 := F.2.1
        have E1 : h72.1 = h.1 := by omega
        have E2 : h72.2.1 = h.2.1 := by omega
        have hA : ∀ j : Int, 0 ≤ j → j < 6 → 0 ≤ a_g A73 j ∧ a_g A73 j ≤ 63 := fun j j0 j1 => by
          rw [w74 j j0 (by omega)]
          by_cases hb : j = b
          · rw [if_pos hb]; exact hxb
          · rw [if_neg hb, w61 j j0 (by omega)]
            by_cases ha : j = a
            · rw [if_pos ha]; exact hxa
            · rw [if_neg ha, e12 j j0 (by omega)]; exact wf_T iv j j0 (by omega)
        have ja : a_g A73 a = x57 := (w74 a (by omega) (by omega)).trans ((if_neg (by omega)).trans ((w61 a (by omega) (by omega)).trans (if_pos rfl)))
        have jb : a_g A73 b = x70 := (w74 b (by omega) (by omega)).trans (if_pos rfl)
        have jo : w_oth (g_T g) (a_g A73) a b := fun j j0 j1 na nb => by rw [w74 j j0 (by omega), if_neg nb, w61 j j0 (by omega), if_neg na]; exact e12 j j0 (by omega)
        have qa : w_i (a_g A73 a) = w_lk (g_T g a) b is_ := by rw [ja, ← eTa]; exact hva.symm
        have qb : w_i (a_g A73 b) = w_lk (g_T g b) a is_ := by rw [jb, ← eTb, ← eb2]; exact hvb.symm
        have ivn := to_fin iv z75w (by omega) (fun q n2 => (s71.2.2.2.1 q n2).trans ((s58.2.2.2.1 q n2).trans (rfl))) s71.2.2.1 hA
        have gd : w_tg (g_H g) a b is_ := ⟨by omega, by omega, by omega, by omega, by omega, by omega, by omega⟩
        obtain ⟨g, ivq, chg, qa, qb, jo⟩ : ∃ g2 : w_G, w_Inv g2 o h72 ∧ w_ch [] [0] g g2 ∧ w_i (g_T g2 a) = w_lk (g_T g a) b is_ ∧ w_i (g_T g2 b) = w_lk (g_T g b) a is_ ∧ w_oth (g_T g) (g_T g2) a b := ⟨_, ivn, ch_gto, qa, qb, jo⟩
        have W := iv_wc ivq
        have Fq := fr_rf (o := o) (h := h72) (W := [9])
        refine w_al (fun _ => rfl) ?_
        obtain ⟨_, m76, rfl⟩ := iv_0 ivq
        refine w_getf m76 rfl (fun _ => rfl) ?_
        obtain ⟨_, m77, kpr77, sta77, fnd77, kco77, rfl, l77_kpr, u77_kpr, l77_sta, u77_sta, l77_fnd, u77_fnd, l77_kco, u77_kco, f77_0, f77_1, f77_2, f77_3, f77_4, f77_5, f77_6⟩ := iv_9 ivq
        refine w_this (fun _ => rfl) m77 ?_
        refine w_cv (fun _ => rfl) rfl (c_forget (d := (d + 1)) ivq     (fun h78 iv79 F80 => ⟨rfl, ?_⟩))
        have F81 := fr_ca Fq F80 (fun t ht => by exact ht)
        refine w_il (fun _ => rfl) (w_ri ?_)
        exact k0 _ g o h78 iv79 chg oe_rf (by have := F81.1; omega) (by have := F81.2.1; omega) gd (by omega) (by omega) qx qa qb jo
    · refine w_nezf (by omega) (by omega) (by omega)  (w_icI (x := (-2)) wn_2 (w_ri ?_))
      exact k1 h iv F (by unfold w_tb; omega)
  · refine w_eqzt (by omega) (by omega) (by omega)  (w_run k_368659 (w_icI (x := (-2)) wn_2 (w_ri ?_)))
    exact k1 h iv F (by unfold w_tb; omega)
theorem c_mTouchT {g : w_G} {o : w_O} {h : m_H} {d : Nat} {Q : Option m_V → m_H → Prop} (iv : w_Inv g o h) {a : Int} {b : Int} {is_ : Int} (a_lo : -2147483648 ≤ a) (a_hi : a ≤ 2147483647) (b_lo : -2147483648 ≤ b) (b_hi : b ≤ 2147483647) (is__lo : -2147483648 ≤ is_) (is__hi : is_ ≤ 2147483647) (k0 : ∀ (x : Int) (g2 : w_G) (h2 : m_H), w_Inv g2 o h2 → w_ch [] [3] g g2 → h2.1 = h.1 → h2.2.1 = h.2.1 → w_tg (g_mH g) a b is_ → 0 ≤ x → x ≤ 1 → w_bt (g_mT g a) b = w_i x → x ≠ is_ → w_i (g_mT g2 a) = w_xr (g_mT g a) b → w_i (g_mT g2 b) = w_xr (g_mT g b) a → w_oth (g_mT g) (g_mT g2) a b → Q (some (.inl (w_i x))) h2) (k1 : ∀ h2 : m_H, w_Inv g o h2 → w_fr o [31] h h2 → w_tb (g_mH g) a b is_ → Q (some (.inl (w_i (-2)))) h2) (k2 : ∀ (x : Int), ∀ h2 : m_H, w_Inv g o h2 → w_fr o [31] h h2 → -2147483648 ≤ x → x ≤ 2147483647 → w_tg (g_mH g) a b is_ → 0 ≤ x → x ≤ 1 → w_bt (g_mT g a) b = w_i x → x = is_ → Q (some (.inl (w_i x))) h2) : wp (d + 2) 610304 [.inr (.inl (some 31)), .inl (w_i a), .inl (w_i b), .inl (w_i is_), .inr (.inr (.inl 0))] [] h Q := by
  have F := fr_rf (o := o) (h := h) (W := [31])
  have W := iv_wm iv
  refine w_run k_610304 (w_al (fun _ => rfl) (w_il (fun _ => rfl) (w_il (fun _ => rfl) ?_)))
  obtain ⟨_, m1, spr1, kee1, rul1, tpd1, nxt1, tok1, tka1, val1, opn1, hm1, row1, ksp1, kke1, kru1, rfl, l1_spr, u1_spr, l1_kee, u1_kee, l1_rul, u1_rul, l1_tpd, u1_tpd, l1_nxt, u1_nxt, l1_tok, u1_tok, l1_tka, u1_tka, l1_val, u1_val, l1_opn, u1_opn, l1_hm, u1_hm, l1_row, u1_row, l1_ksp, u1_ksp, l1_kke, u1_kke, l1_kru, u1_kru, f1_0, f1_1, f1_2, f1_3, f1_4, f1_5, f1_6, f1_7, f1_8, f1_9⟩ := iv_31 iv
  refine w_this (fun _ => rfl) m1 ?_
  refine w_ca (fun _ => rfl) rfl (c_mAreTwo (d := d) iv (a := a) (b := b) (by omega) (by omega) (by omega) (by omega)   (fun b2 b3 b4 b5 b6 => ⟨_, rfl, ?_⟩) (fun b7 => ⟨_, rfl, ?_⟩))
  · refine w_eqzf (by omega) (by omega) (by omega)  (w_il (fun _ => rfl) (w_icI (x := 0) rfl (w_icI (x := 1) rfl ?_)))
    refine w_ca (fun _ => rfl) rfl (c_mIsIn (d := (d + 1)) iv (n := is_) (ln := 0) (mn := 1) (by omega) (by omega) (by omega) (by omega) (by omega) (by omega)   (fun b8 b9 => ⟨_, rfl, ?_⟩) (fun b10 => ⟨_, rfl, ?_⟩))
    · refine w_nezt (by omega) (by omega) (by omega)  (w_run k_610325 (w_al (fun _ => rfl) (w_getf m1 rfl (fun _ => rfl) (w_il (fun _ => rfl) ?_))))
      obtain ⟨_, m11, A11, rfl, e11⟩ := iv_32 iv
      refine w_aldI m11 (by omega) (by omega) (by omega) ?_
      obtain ⟨b12, b13⟩ := ag_rg A11 a
      have e14 := e11 a (by omega) (by omega)
      refine w_il (fun _ => rfl) (w_opR shr_lt (fun x15 x150 x151 x15e => ?_))
      refine w_icI (x := 1) rfl ?_
      refine w_op01 and_1 (fun x16 x160 x161 x16e => ?_)
      refine w_is (fun _ => rfl) ?_
      have eTa := e11 a (by omega) (by omega)
      have qx : w_bt (g_mT g a) b = w_i x16 := by rw [← eTa]; exact bt_v rfl x15e x16e
      refine w_il (fun _ => rfl) (w_il (fun _ => rfl) ?_)
      refine w_eq2 (by omega) (by omega) (by omega) (by omega)  (fun c17 => ?_) (fun c17 => ?_)
      · refine w_run k_610367 (w_il (fun _ => rfl) (w_ri ?_))
        exact k2 x16 h iv F (by omega) (by omega) (by unfold w_tg; omega) (by omega) (by omega) qx (by omega)
      · have z18 := iv.2.2.2.2.1
        have z18w := iv.1
        refine w_al (fun _ => rfl) (w_getf m1 rfl (fun _ => rfl) (w_il (fun _ => rfl) (w_dup2 (fun _ => rfl) (fun _ => rfl) (w_aldI m11 (by omega) (by omega) (by decide) ?_))))
        obtain ⟨b19, b20⟩ := ag_rg A11 a
        have e21 := e11 a (by omega) (by omega)
        refine w_icI (x := 1) rfl (w_il (fun _ => rfl) (w_opR shl_lt (fun x22 x220 x221 x22e => ?_)))
        refine w_opR xor_lt (fun x23 x230 x231 x23e => ?_)
        have hTa := wf_mT iv a (by omega) (by omega)
        have hxa := xr_63 (T := (a_g A11 a)) (b := b) (by omega) (by omega) (by omega) (by omega) x22e x23e (by omega) (by omega)
        have hva := xr_v (T := (a_g A11 a)) (b := b) x22e x23e
        refine w_astI m11 (by omega) (by omega) (by decide) (by omega) (by omega) (fun A26 h25 w27 s24 => ?_)
        have z28 := s24.1
        have z28y := s24.2.1
        have z28w := s24.2.2.2.2 z18w
        refine w_al (fun _ => rfl) ?_
        have m29 := st_fr s24 m1 (by decide)
        refine w_getf m29 rfl (fun _ => rfl) (w_il (fun _ => rfl) (w_dup2 (fun _ => rfl) (fun _ => rfl) (w_aldI s24.2.2.1 (by omega) (by omega) (by decide) ?_)))
        obtain ⟨b30, b31⟩ := ag_rg A26 b
        have eb2 : a_g A26 b = a_g A11 b := (w27 b (by omega) (by omega)).trans (if_neg (by omega))
        refine w_icI (x := 1) rfl (w_il (fun _ => rfl) (w_opR shl_lt (fun x32 x320 x321 x32e => ?_)))
        refine w_opR xor_lt (fun x33 x330 x331 x33e => ?_)
        have hTb := wf_mT iv b (by omega) (by omega)
        have eTb := e11 b (by omega) (by omega)
        have hxb := xr_63 (T := (a_g A26 b)) (b := a) (by omega) (by omega) (by omega) (by omega) x32e x33e (by omega) (by omega)
        have hvb := xr_v (T := (a_g A26 b)) (b := a) x32e x33e
        refine w_astI s24.2.2.1 (by omega) (by omega) (by decide) (by omega) (by omega) (fun A36 h35 w37 s34 => ?_)
        have z38 := s34.1
        have z38y := s34.2.1
        have z38w := s34.2.2.2.2 z28w
        refine w_il (fun _ => rfl) (w_ri ?_)
        have F1 := F.1
        have F2 := F.2.1
        have hA : ∀ j : Int, 0 ≤ j → j < 6 → 0 ≤ a_g A36 j ∧ a_g A36 j ≤ 63 := fun j j0 j1 => by
          rw [w37 j j0 (by omega)]
          by_cases hb : j = b
          · rw [if_pos hb]; exact hxb
          · rw [if_neg hb, w27 j j0 (by omega)]
            by_cases ha : j = a
            · rw [if_pos ha]; exact hxa
            · rw [if_neg ha, e11 j j0 (by omega)]; exact wf_mT iv j j0 (by omega)
        have ja : a_g A36 a = x23 := (w37 a (by omega) (by omega)).trans ((if_neg (by omega)).trans ((w27 a (by omega) (by omega)).trans (if_pos rfl)))
        have jb : a_g A36 b = x33 := (w37 b (by omega) (by omega)).trans (if_pos rfl)
        have jo : w_oth (g_mT g) (a_g A36) a b := fun j j0 j1 na nb => by rw [w37 j j0 (by omega), if_neg nb, w27 j j0 (by omega), if_neg na]; exact e11 j j0 (by omega)
        have qa : w_i (a_g A36 a) = w_xr (g_mT g a) b := by rw [ja, ← eTa]; exact hva.symm
        have qb : w_i (a_g A36 b) = w_xr (g_mT g b) a := by rw [jb, ← eTb, ← eb2]; exact hvb.symm
        have ivn := mto_fin iv z38w (by omega) (fun q n32 => (s34.2.2.2.1 q n32).trans ((s24.2.2.2.1 q n32).trans (rfl))) s34.2.2.1 hA
        have gd : w_tg (g_mH g) a b is_ := ⟨by omega, by omega, by omega, by omega, by omega, by omega, by omega⟩
        exact k0 _ (g_mto g A36) h35 ivn ch_gmto (by omega) (by omega) gd (by omega) (by omega) qx (by omega) qa qb jo
    · refine w_nezf (by omega) (by omega) (by omega)  (w_icI (x := (-2)) wn_2 (w_ri ?_))
      exact k1 h iv F (by unfold w_tb; omega)
  · refine w_eqzt (by omega) (by omega) (by omega)  (w_run k_610322 (w_icI (x := (-2)) wn_2 (w_ri ?_)))
    exact k1 h iv F (by unfold w_tb; omega)
set_option maxHeartbeats 40000000 in
theorem c_mBuildT {g : w_G} {o : w_O} {h : m_H} {d : Nat} {Q : Option m_V → m_H → Prop} (iv : w_Inv g o h) {hh : Int} {c : Int} (hh_lo : -2147483648 ≤ hh) (hh_hi : hh ≤ 2147483647) (c_lo : -2147483648 ≤ c) (c_hi : c ≤ 2147483647) (k0 : ∀ (x : Int) (g2 : w_G) (h2 : m_H), w_Inv g2 o h2 → w_ch [6, 7, 8, 11] [3] g g2 → h2.1 = h.1 → h2.2.1 = h.2.1 → x = g_mH g → w_okB hh c → (g_mH g2 = hh ∧ g_mC g2 = c ∧ w_tt hh (g_mT g2)) → Q (some (.inl (w_i x))) h2) (k1 : ∀ h2 : m_H, w_Inv g o h2 → w_fr o [31] h h2 → (hh < 1 ∨ 6 < hh ∨ c < 2 ∨ 5 < c ∨ 4096 < w_pw c hh) → Q (some (.inl (w_i (-2)))) h2) : wp (d + 1) 602112 [.inr (.inl (some 31)), .inl (w_i hh), .inl (w_i c), .inr (.inr (.inl 0))] [] h Q := by
  have F := fr_rf (o := o) (h := h) (W := [31])
  have W := iv_wm iv
  refine w_run k_602112 (w_il (fun _ => rfl) (w_icI (x := 1) rfl (w_icI (x := 6) rfl ?_)))
  refine w_ca (fun _ => rfl) rfl (c_mIsIn (d := d) iv (n := hh) (ln := 1) (mn := 6) (by omega) (by omega) (by omega) (by omega) (by omega) (by omega)   (fun b1 b2 => ⟨_, rfl, ?_⟩) (fun b3 => ⟨_, rfl, ?_⟩))
  · refine w_eqzf (by omega) (by omega) (by omega)  (w_il (fun _ => rfl) (w_icI (x := 2) rfl (w_icI (x := 5) rfl ?_)))
    refine w_ca (fun _ => rfl) rfl (c_mIsIn (d := d) iv (n := c) (ln := 2) (mn := 5) (by omega) (by omega) (by omega) (by omega) (by omega) (by omega)   (fun b4 b5 => ⟨_, rfl, ?_⟩) (fun b6 => ⟨_, rfl, ?_⟩))
    · refine w_eqzf (by omega) (by omega) (by omega)  (w_il (fun _ => rfl) (w_il (fun _ => rfl) ?_))
      refine w_ca (fun _ => rfl) rfl (c_mTowns (d := d) iv (ho := hh) (co := c) (by omega) (by omega) (by omega) (by omega) (by omega) (by omega) (by omega) (by omega)  (fun y7 b8 b9 b10 b11 b12 => ⟨_, rfl, ?_⟩))
      refine w_icI (x := 4096) rfl ?_
      refine w_le2 (by omega) (by omega) (by omega) (by omega)  (fun c13 => ?_) (fun c13 => ?_)
      · refine w_run k_602145 (w_al (fun _ => rfl) ?_)
        obtain ⟨_, m14, spr14, kee14, rul14, tpd14, nxt14, tok14, tka14, val14, opn14, hm14, row14, ksp14, kke14, kru14, rfl, l14_spr, u14_spr, l14_kee, u14_kee, l14_rul, u14_rul, l14_tpd, u14_tpd, l14_nxt, u14_nxt, l14_tok, u14_tok, l14_tka, u14_tka, l14_val, u14_val, l14_opn, u14_opn, l14_hm, u14_hm, l14_row, u14_row, l14_ksp, u14_ksp, l14_kke, u14_kke, l14_kru, u14_kru, f14_0, f14_1, f14_2, f14_3, f14_4, f14_5, f14_6, f14_7, f14_8, f14_9⟩ := iv_31 iv
        refine w_getf m14 rfl (fun _ => rfl) (w_is (fun _ => rfl) ?_)
        obtain ⟨_, m15, A15, rfl, e15⟩ := iv_32 iv
        obtain ⟨_, m16, A16, rfl, e16⟩ := iv_33 iv
        obtain ⟨_, m17, A17, rfl⟩ := iv_34 iv
        have z18 := iv.2.2.2.2.1
        have z18w := iv.1
        rcases (show hh = 1 ∨ hh = 2 ∨ hh = 3 ∨ hh = 4 ∨ hh = 5 ∨ hh = 6 from by omega) with hk | hk | hk | hk | hk | hk
        · refine w_al (fun _ => rfl) (w_il (fun _ => rfl) (w_il (fun _ => rfl) (w_this (fun _ => rfl) m14 (w_cv (fun _ => rfl) rfl (w_run k_577536 (w_al (fun _ => rfl) (w_il (fun _ => rfl) (w_putf [.inr (.inl (some 32)), .inr (.inl (some 33)), .inr (.inl (some 34)), .inr (.inl (some 35)), .inr (.inl (some 36)), .inl (w_i hh), .inl (w_i (g_mC g)), .inl (w_i spr14), .inl (w_i kee14), .inl (w_i (g_mnp g)), .inl (w_i rul14), .inl (w_i (g_mhi g)), .inr (.inl (some 37)), .inr (.inl (some 50)), .inr (.inl (some 51)), .inr (.inl (some 52)), .inr (.inl (some 53)), .inr (.inl (some 54)), .inl (w_i tpd14), .inl (w_i (g_mnt g)), .inl (w_i nxt14), .inl (w_i tok14), .inl (w_i tka14), .inl (w_i val14), .inl (w_i opn14), .inl (w_i hm14), .inl (w_i row14), .inr (.inl (some 55)), .inr (.inl (some 56)), .inr (.inl (some 57)), .inr (.inl (some 58)), .inr (.inl (some 59)), .inr (.inl (some 60)), .inr (.inl (some 61)), .inr (.inl (some 62)), .inl (w_i ksp14), .inl (w_i kke14), .inl (w_i kru14), .inr (.inl (some 63)), .inr (.inl (some 64)), .inr (.inl (some 65)), .inr (.inl (some 66))] m14 rfl rfl rfl (fun _ => rfl) (fun h20 s19 => ?_)))))))))
          have z22 := s19.1
          have z22y := s19.2.1
          have z22w := s19.2.2.2.2 z18w
          refine w_al (fun _ => rfl) (w_il (fun _ => rfl) (w_putf [.inr (.inl (some 32)), .inr (.inl (some 33)), .inr (.inl (some 34)), .inr (.inl (some 35)), .inr (.inl (some 36)), .inl (w_i hh), .inl (w_i c), .inl (w_i spr14), .inl (w_i kee14), .inl (w_i (g_mnp g)), .inl (w_i rul14), .inl (w_i (g_mhi g)), .inr (.inl (some 37)), .inr (.inl (some 50)), .inr (.inl (some 51)), .inr (.inl (some 52)), .inr (.inl (some 53)), .inr (.inl (some 54)), .inl (w_i tpd14), .inl (w_i (g_mnt g)), .inl (w_i nxt14), .inl (w_i tok14), .inl (w_i tka14), .inl (w_i val14), .inl (w_i opn14), .inl (w_i hm14), .inl (w_i row14), .inr (.inl (some 55)), .inr (.inl (some 56)), .inr (.inl (some 57)), .inr (.inl (some 58)), .inr (.inl (some 59)), .inr (.inl (some 60)), .inr (.inl (some 61)), .inr (.inl (some 62)), .inl (w_i ksp14), .inl (w_i kke14), .inl (w_i kru14), .inr (.inl (some 63)), .inr (.inl (some 64)), .inr (.inl (some 65)), .inr (.inl (some 66))] s19.2.2.1 rfl rfl rfl (fun _ => rfl) (fun h24 s23 => ?_)))
          have z26 := s23.1
          have z26y := s23.2.1
          have z26w := s23.2.2.2.2 z22w
          refine w_icI (x := 0) rfl (w_is (fun _ => rfl) (w_il (fun _ => rfl) (w_icI (x := 6) rfl (w_gef (by decide) (by decide) (by decide) (by decide) (by decide)  (w_al (fun _ => rfl) (w_getf s23.2.2.1 rfl (fun _ => rfl) (w_il (fun _ => rfl) (w_icI (x := 0) rfl ?_))))))))
          have m27 := st_fr s19 m15 (by decide)
          have m28 := st_fr s23 m27 (by decide)
          refine w_astI m28 (by decide) (by decide) (by decide) (by decide) (by decide) (fun A31 h30 w32 s29 => ?_)
          have q33 : a_g A31 0 = 0 := (w32 0 (by decide) (by decide)).trans (if_pos rfl)
          have z34 := s29.1
          have z34y := s29.2.1
          have z34w := s29.2.2.2.2 z26w
          refine w_il (fun _ => rfl) (w_lezt (by decide) (by decide) (by decide)  (w_run k_577584 (w_il (fun _ => rfl) (w_icI (x := 1) rfl (w_op (c := w_i 1) (by decide +kernel) (w_il (fun _ => rfl) (w_get (by omega) (by omega) (by omega) (by omega) (by omega)  (w_run k_577605 (w_al (fun _ => rfl) ?_)))))))))
          have m35 := st_fr s29 s23.2.2.1 (by decide)
          refine w_getf m35 rfl (fun _ => rfl) (w_il (fun _ => rfl) (w_il (fun _ => rfl) (w_icI (x := 2) rfl (w_opz (c := w_i 0) (by decide +kernel) (by decide +kernel) ?_))))
          have m36 := st_fr s19 m16 (by decide)
          have m37 := st_fr s23 m36 (by decide)
          have m38 := st_fr s29 m37 (by decide)
          refine w_astI m38 (by decide) (by decide) (by decide) (by decide) (by decide) (fun A41 h40 w42 s39 => ?_)
          have q43 : a_g A41 0 = 0 := (w42 0 (by decide) (by decide)).trans (if_pos rfl)
          have z44 := s39.1
          have z44y := s39.2.1
          have z44w := s39.2.2.2.2 z34w
          refine w_al (fun _ => rfl) ?_
          have m45 := st_fr s39 m35 (by decide)
          refine w_getf m45 rfl (fun _ => rfl) (w_il (fun _ => rfl) (w_icI (x := (-1)) wn_1 ?_))
          have m46 := st_fr s19 m17 (by decide)
          have m47 := st_fr s23 m46 (by decide)
          have m48 := st_fr s29 m47 (by decide)
          have m49 := st_fr s39 m48 (by decide)
          refine w_astI m49 (by decide) (by decide) (by decide) (by decide) (by decide) (fun A52 h51 w53 s50 => ?_)
          have q54 : a_g A52 0 = (-1) := (w53 0 (by decide) (by decide)).trans (if_pos rfl)
          have z55 := s50.1
          have z55y := s50.2.1
          have z55w := s50.2.2.2.2 z44w
          refine w_inc (c := w_i 1) (fun _ => rfl) (by decide +kernel) (fun _ => rfl) (w_go (w_run k_577548 (w_il (fun _ => rfl) (w_icI (x := 6) rfl (w_gef (by decide) (by decide) (by decide) (by decide) (by decide)  (w_al (fun _ => rfl) ?_))))))
          have m56 := st_fr s50 m45 (by decide)
          refine w_getf m56 rfl (fun _ => rfl) (w_il (fun _ => rfl) (w_icI (x := 0) rfl ?_))
          have m57 := st_fr s39 s29.2.2.1 (by decide)
          have m58 := st_fr s50 m57 (by decide)
          refine w_astI m58 (by decide) (by decide) (by decide) (by decide) (by decide) (fun A61 h60 w62 s59 => ?_)
          have q63 : a_g A61 0 = 0 := ((w62 0 (by decide) (by decide)).trans (if_neg (by decide))).trans q33
          have q64 : a_g A61 1 = 0 := (w62 1 (by decide) (by decide)).trans (if_pos rfl)
          have z65 := s59.1
          have z65y := s59.2.1
          have z65w := s59.2.2.2.2 z55w
          refine w_il (fun _ => rfl) (w_lezf (by decide) (by decide) (by decide)  (w_il (fun _ => rfl) (w_il (fun _ => rfl) (w_get (by omega) (by omega) (by omega) (by omega) (by omega)  (w_run k_577584 (w_il (fun _ => rfl) (w_icI (x := 1) rfl (w_op (c := w_i 2) (by decide +kernel) (w_il (fun _ => rfl) (w_get (by omega) (by omega) (by omega) (by omega) (by omega)  (w_run k_577605 (w_al (fun _ => rfl) ?_))))))))))))
          have m66 := st_fr s59 m56 (by decide)
          refine w_getf m66 rfl (fun _ => rfl) (w_il (fun _ => rfl) (w_il (fun _ => rfl) (w_icI (x := 2) rfl (w_opz (c := w_i 1) (by decide +kernel) (by decide +kernel) ?_))))
          have m67 := st_fr s50 s39.2.2.1 (by decide)
          have m68 := st_fr s59 m67 (by decide)
          refine w_astI m68 (by decide) (by decide) (by decide) (by decide) (by decide) (fun A71 h70 w72 s69 => ?_)
          have q73 : a_g A71 0 = 0 := ((w72 0 (by decide) (by decide)).trans (if_neg (by decide))).trans q43
          have q74 : a_g A71 1 = 1 := (w72 1 (by decide) (by decide)).trans (if_pos rfl)
          have z75 := s69.1
          have z75y := s69.2.1
          have z75w := s69.2.2.2.2 z65w
          refine w_al (fun _ => rfl) ?_
          have m76 := st_fr s69 m66 (by decide)
          refine w_getf m76 rfl (fun _ => rfl) (w_il (fun _ => rfl) (w_icI (x := (-1)) wn_1 ?_))
          have m77 := st_fr s59 s50.2.2.1 (by decide)
          have m78 := st_fr s69 m77 (by decide)
          refine w_astI m78 (by decide) (by decide) (by decide) (by decide) (by decide) (fun A81 h80 w82 s79 => ?_)
          have q83 : a_g A81 0 = (-1) := ((w82 0 (by decide) (by decide)).trans (if_neg (by decide))).trans q54
          have q84 : a_g A81 1 = (-1) := (w82 1 (by decide) (by decide)).trans (if_pos rfl)
          have z85 := s79.1
          have z85y := s79.2.1
          have z85w := s79.2.2.2.2 z75w
          refine w_inc (c := w_i 2) (fun _ => rfl) (by decide +kernel) (fun _ => rfl) (w_go (w_run k_577548 (w_il (fun _ => rfl) (w_icI (x := 6) rfl (w_gef (by decide) (by decide) (by decide) (by decide) (by decide)  (w_al (fun _ => rfl) ?_))))))
          have m86 := st_fr s79 m76 (by decide)
          refine w_getf m86 rfl (fun _ => rfl) (w_il (fun _ => rfl) (w_icI (x := 0) rfl ?_))
          have m87 := st_fr s69 s59.2.2.1 (by decide)
          have m88 := st_fr s79 m87 (by decide)
          refine w_astI m88 (by decide) (by decide) (by decide) (by decide) (by decide) (fun A91 h90 w92 s89 => ?_)
          have q93 : a_g A91 0 = 0 := ((w92 0 (by decide) (by decide)).trans (if_neg (by decide))).trans q63
          have q94 : a_g A91 1 = 0 := ((w92 1 (by decide) (by decide)).trans (if_neg (by decide))).trans q64
          have q95 : a_g A91 2 = 0 := (w92 2 (by decide) (by decide)).trans (if_pos rfl)
          have z96 := s89.1
          have z96y := s89.2.1
          have z96w := s89.2.2.2.2 z85w
          refine w_il (fun _ => rfl) (w_lezf (by decide) (by decide) (by decide)  (w_il (fun _ => rfl) (w_il (fun _ => rfl) (w_get (by omega) (by omega) (by omega) (by omega) (by omega)  (w_run k_577584 (w_il (fun _ => rfl) (w_icI (x := 1) rfl (w_op (c := w_i 3) (by decide +kernel) (w_il (fun _ => rfl) (w_get (by omega) (by omega) (by omega) (by omega) (by omega)  (w_run k_577605 (w_al (fun _ => rfl) ?_))))))))))))
          have m97 := st_fr s89 m86 (by decide)
          refine w_getf m97 rfl (fun _ => rfl) (w_il (fun _ => rfl) (w_il (fun _ => rfl) (w_icI (x := 2) rfl (w_opz (c := w_i 0) (by decide +kernel) (by decide +kernel) ?_))))
          have m98 := st_fr s79 s69.2.2.1 (by decide)
          have m99 := st_fr s89 m98 (by decide)
          refine w_astI m99 (by decide) (by decide) (by decide) (by decide) (by decide) (fun A102 h101 w103 s100 => ?_)
          have q104 : a_g A102 0 = 0 := ((w103 0 (by decide) (by decide)).trans (if_neg (by decide))).trans q73
          have q105 : a_g A102 1 = 1 := ((w103 1 (by decide) (by decide)).trans (if_neg (by decide))).trans q74
          have q106 : a_g A102 2 = 0 := (w103 2 (by decide) (by decide)).trans (if_pos rfl)
          have z107 := s100.1
          have z107y := s100.2.1
          have z107w := s100.2.2.2.2 z96w
          refine w_al (fun _ => rfl) ?_
          have m108 := st_fr s100 m97 (by decide)
          refine w_getf m108 rfl (fun _ => rfl) (w_il (fun _ => rfl) (w_icI (x := (-1)) wn_1 ?_))
          have m109 := st_fr s89 s79.2.2.1 (by decide)
          have m110 := st_fr s100 m109 (by decide)
          refine w_astI m110 (by decide) (by decide) (by decide) (by decide) (by decide) (fun A113 h112 w114 s111 => ?_)
          have q115 : a_g A113 0 = (-1) := ((w114 0 (by decide) (by decide)).trans (if_neg (by decide))).trans q83
          have q116 : a_g A113 1 = (-1) := ((w114 1 (by decide) (by decide)).trans (if_neg (by decide))).trans q84
          have q117 : a_g A113 2 = (-1) := (w114 2 (by decide) (by decide)).trans (if_pos rfl)
          have z118 := s111.1
          have z118y := s111.2.1
          have z118w := s111.2.2.2.2 z107w
          refine w_inc (c := w_i 3) (fun _ => rfl) (by decide +kernel) (fun _ => rfl) (w_go (w_run k_577548 (w_il (fun _ => rfl) (w_icI (x := 6) rfl (w_gef (by decide) (by decide) (by decide) (by decide) (by decide)  (w_al (fun _ => rfl) ?_))))))
          have m119 := st_fr s111 m108 (by decide)
          refine w_getf m119 rfl (fun _ => rfl) (w_il (fun _ => rfl) (w_icI (x := 0) rfl ?_))
          have m120 := st_fr s100 s89.2.2.1 (by decide)
          have m121 := st_fr s111 m120 (by decide)
          refine w_astI m121 (by decide) (by decide) (by decide) (by decide) (by decide) (fun A124 h123 w125 s122 => ?_)
          have q126 : a_g A124 0 = 0 := ((w125 0 (by decide) (by decide)).trans (if_neg (by decide))).trans q93
          have q127 : a_g A124 1 = 0 := ((w125 1 (by decide) (by decide)).trans (if_neg (by decide))).trans q94
          have q128 : a_g A124 2 = 0 := ((w125 2 (by decide) (by decide)).trans (if_neg (by decide))).trans q95
          have q129 : a_g A124 3 = 0 := (w125 3 (by decide) (by decide)).trans (if_pos rfl)
          have z130 := s122.1
          have z130y := s122.2.1
          have z130w := s122.2.2.2.2 z118w
          refine w_il (fun _ => rfl) (w_lezf (by decide) (by decide) (by decide)  (w_il (fun _ => rfl) (w_il (fun _ => rfl) (w_get (by omega) (by omega) (by omega) (by omega) (by omega)  (w_run k_577584 (w_il (fun _ => rfl) (w_icI (x := 1) rfl (w_op (c := w_i 4) (by decide +kernel) (w_il (fun _ => rfl) (w_get (by omega) (by omega) (by omega) (by omega) (by omega)  (w_run k_577605 (w_al (fun _ => rfl) ?_))))))))))))
          have m131 := st_fr s122 m119 (by decide)
          refine w_getf m131 rfl (fun _ => rfl) (w_il (fun _ => rfl) (w_il (fun _ => rfl) (w_icI (x := 2) rfl (w_opz (c := w_i 1) (by decide +kernel) (by decide +kernel) ?_))))
          have m132 := st_fr s111 s100.2.2.1 (by decide)
          have m133 := st_fr s122 m132 (by decide)
          refine w_astI m133 (by decide) (by decide) (by decide) (by decide) (by decide) (fun A136 h135 w137 s134 => ?_)
          have q138 : a_g A136 0 = 0 := ((w137 0 (by decide) (by decide)).trans (if_neg (by decide))).trans q104
          have q139 : a_g A136 1 = 1 := ((w137 1 (by decide) (by decide)).trans (if_neg (by decide))).trans q105
          have q140 : a_g A136 2 = 0 := ((w137 2 (by decide) (by decide)).trans (if_neg (by decide))).trans q106
          have q141 : a_g A136 3 = 1 := (w137 3 (by decide) (by decide)).trans (if_pos rfl)
          have z142 := s134.1
          have z142y := s134.2.1
          have z142w := s134.2.2.2.2 z130w
          refine w_al (fun _ => rfl) ?_
          have m143 := st_fr s134 m131 (by decide)
          refine w_getf m143 rfl (fun _ => rfl) (w_il (fun _ => rfl) (w_icI (x := (-1)) wn_1 ?_))
          have m144 := st_fr s122 s111.2.2.1 (by decide)
          have m145 := st_fr s134 m144 (by decide)
          refine w_astI m145 (by decide) (by decide) (by decide) (by decide) (by decide) (fun A148 h147 w149 s146 => ?_)
          have q150 : a_g A148 0 = (-1) := ((w149 0 (by decide) (by decide)).trans (if_neg (by decide))).trans q115
          have q151 : a_g A148 1 = (-1) := ((w149 1 (by decide) (by decide)).trans (if_neg (by decide))).trans q116
          have q152 : a_g A148 2 = (-1) := ((w149 2 (by decide) (by decide)).trans (if_neg (by decide))).trans q117
          have q153 : a_g A148 3 = (-1) := (w149 3 (by decide) (by decide)).trans (if_pos rfl)
          have z154 := s146.1
          have z154y := s146.2.1
          have z154w := s146.2.2.2.2 z142w
          refine w_inc (c := w_i 4) (fun _ => rfl) (by decide +kernel) (fun _ => rfl) (w_go (w_run k_577548 (w_il (fun _ => rfl) (w_icI (x := 6) rfl (w_gef (by decide) (by decide) (by decide) (by decide) (by decide)  (w_al (fun _ => rfl) ?_))))))
          have m155 := st_fr s146 m143 (by decide)
          refine w_getf m155 rfl (fun _ => rfl) (w_il (fun _ => rfl) (w_icI (x := 0) rfl ?_))
          have m156 := st_fr s134 s122.2.2.1 (by decide)
          have m157 := st_fr s146 m156 (by decide)
          refine w_astI m157 (by decide) (by decide) (by decide) (by decide) (by decide) (fun A160 h159 w161 s158 => ?_)
          have q162 : a_g A160 0 = 0 := ((w161 0 (by decide) (by decide)).trans (if_neg (by decide))).trans q126
          have q163 : a_g A160 1 = 0 := ((w161 1 (by decide) (by decide)).trans (if_neg (by decide))).trans q127
          have q164 : a_g A160 2 = 0 := ((w161 2 (by decide) (by decide)).trans (if_neg (by decide))).trans q128
          have q165 : a_g A160 3 = 0 := ((w161 3 (by decide) (by decide)).trans (if_neg (by decide))).trans q129
          have q166 : a_g A160 4 = 0 := (w161 4 (by decide) (by decide)).trans (if_pos rfl)
          have z167 := s158.1
          have z167y := s158.2.1
          have z167w := s158.2.2.2.2 z154w
          refine w_il (fun _ => rfl) (w_lezf (by decide) (by decide) (by decide)  (w_il (fun _ => rfl) (w_il (fun _ => rfl) (w_get (by omega) (by omega) (by omega) (by omega) (by omega)  (w_run k_577584 (w_il (fun _ => rfl) (w_icI (x := 1) rfl (w_op (c := w_i 5) (by decide +kernel) (w_il (fun _ => rfl) (w_get (by omega) (by omega) (by omega) (by omega) (by omega)  (w_run k_577605 (w_al (fun _ => rfl) ?_))))))))))))
          have m168 := st_fr s158 m155 (by decide)
          refine w_getf m168 rfl (fun _ => rfl) (w_il (fun _ => rfl) (w_il (fun _ => rfl) (w_icI (x := 2) rfl (w_opz (c := w_i 0) (by decide +kernel) (by decide +kernel) ?_))))
          have m169 := st_fr s146 s134.2.2.1 (by decide)
          have m170 := st_fr s158 m169 (by decide)
          refine w_astI m170 (by decide) (by decide) (by decide) (by decide) (by decide) (fun A173 h172 w174 s171 => ?_)
          have q175 : a_g A173 0 = 0 := ((w174 0 (by decide) (by decide)).trans (if_neg (by decide))).trans q138
          have q176 : a_g A173 1 = 1 := ((w174 1 (by decide) (by decide)).trans (if_neg (by decide))).trans q139
          have q177 : a_g A173 2 = 0 := ((w174 2 (by decide) (by decide)).trans (if_neg (by decide))).trans q140
          have q178 : a_g A173 3 = 1 := ((w174 3 (by decide) (by decide)).trans (if_neg (by decide))).trans q141
          have q179 : a_g A173 4 = 0 := (w174 4 (by decide) (by decide)).trans (if_pos rfl)
          have z180 := s171.1
          have z180y := s171.2.1
          have z180w := s171.2.2.2.2 z167w
          refine w_al (fun _ => rfl) ?_
          have m181 := st_fr s171 m168 (by decide)
          refine w_getf m181 rfl (fun _ => rfl) (w_il (fun _ => rfl) (w_icI (x := (-1)) wn_1 ?_))
          have m182 := st_fr s158 s146.2.2.1 (by decide)
          have m183 := st_fr s171 m182 (by decide)
          refine w_astI m183 (by decide) (by decide) (by decide) (by decide) (by decide) (fun A186 h185 w187 s184 => ?_)
          have q188 : a_g A186 0 = (-1) := ((w187 0 (by decide) (by decide)).trans (if_neg (by decide))).trans q150
          have q189 : a_g A186 1 = (-1) := ((w187 1 (by decide) (by decide)).trans (if_neg (by decide))).trans q151
          have q190 : a_g A186 2 = (-1) := ((w187 2 (by decide) (by decide)).trans (if_neg (by decide))).trans q152
          have q191 : a_g A186 3 = (-1) := ((w187 3 (by decide) (by decide)).trans (if_neg (by decide))).trans q153
          have q192 : a_g A186 4 = (-1) := (w187 4 (by decide) (by decide)).trans (if_pos rfl)
          have z193 := s184.1
          have z193y := s184.2.1
          have z193w := s184.2.2.2.2 z180w
          refine w_inc (c := w_i 5) (fun _ => rfl) (by decide +kernel) (fun _ => rfl) (w_go (w_run k_577548 (w_il (fun _ => rfl) (w_icI (x := 6) rfl (w_gef (by decide) (by decide) (by decide) (by decide) (by decide)  (w_al (fun _ => rfl) ?_))))))
          have m194 := st_fr s184 m181 (by decide)
          refine w_getf m194 rfl (fun _ => rfl) (w_il (fun _ => rfl) (w_icI (x := 0) rfl ?_))
          have m195 := st_fr s171 s158.2.2.1 (by decide)
          have m196 := st_fr s184 m195 (by decide)
          refine w_astI m196 (by decide) (by decide) (by decide) (by decide) (by decide) (fun A199 h198 w200 s197 => ?_)
          have q201 : a_g A199 0 = 0 := ((w200 0 (by decide) (by decide)).trans (if_neg (by decide))).trans q162
          have q202 : a_g A199 1 = 0 := ((w200 1 (by decide) (by decide)).trans (if_neg (by decide))).trans q163
          have q203 : a_g A199 2 = 0 := ((w200 2 (by decide) (by decide)).trans (if_neg (by decide))).trans q164
          have q204 : a_g A199 3 = 0 := ((w200 3 (by decide) (by decide)).trans (if_neg (by decide))).trans q165
          have q205 : a_g A199 4 = 0 := ((w200 4 (by decide) (by decide)).trans (if_neg (by decide))).trans q166
          have q206 : a_g A199 5 = 0 := (w200 5 (by decide) (by decide)).trans (if_pos rfl)
          have z207 := s197.1
          have z207y := s197.2.1
          have z207w := s197.2.2.2.2 z193w
          refine w_il (fun _ => rfl) (w_lezf (by decide) (by decide) (by decide)  (w_il (fun _ => rfl) (w_il (fun _ => rfl) (w_get (by omega) (by omega) (by omega) (by omega) (by omega)  (w_run k_577584 (w_il (fun _ => rfl) (w_icI (x := 1) rfl (w_op (c := w_i 6) (by decide +kernel) (w_il (fun _ => rfl) (w_get (by omega) (by omega) (by omega) (by omega) (by omega)  (w_run k_577605 (w_al (fun _ => rfl) ?_))))))))))))
          have m208 := st_fr s197 m194 (by decide)
          refine w_getf m208 rfl (fun _ => rfl) (w_il (fun _ => rfl) (w_il (fun _ => rfl) (w_icI (x := 2) rfl (w_opz (c := w_i 1) (by decide +kernel) (by decide +kernel) ?_))))
          have m209 := st_fr s184 s171.2.2.1 (by decide)
          have m210 := st_fr s197 m209 (by decide)
          refine w_astI m210 (by decide) (by decide) (by decide) (by decide) (by decide) (fun A213 h212 w214 s211 => ?_)
          have q215 : a_g A213 0 = 0 := ((w214 0 (by decide) (by decide)).trans (if_neg (by decide))).trans q175
          have q216 : a_g A213 1 = 1 := ((w214 1 (by decide) (by decide)).trans (if_neg (by decide))).trans q176
          have q217 : a_g A213 2 = 0 := ((w214 2 (by decide) (by decide)).trans (if_neg (by decide))).trans q177
          have q218 : a_g A213 3 = 1 := ((w214 3 (by decide) (by decide)).trans (if_neg (by decide))).trans q178
          have q219 : a_g A213 4 = 0 := ((w214 4 (by decide) (by decide)).trans (if_neg (by decide))).trans q179
          have q220 : a_g A213 5 = 1 := (w214 5 (by decide) (by decide)).trans (if_pos rfl)
          have z221 := s211.1
          have z221y := s211.2.1
          have z221w := s211.2.2.2.2 z207w
          refine w_al (fun _ => rfl) ?_
          have m222 := st_fr s211 m208 (by decide)
          refine w_getf m222 rfl (fun _ => rfl) (w_il (fun _ => rfl) (w_icI (x := (-1)) wn_1 ?_))
          have m223 := st_fr s197 s184.2.2.1 (by decide)
          have m224 := st_fr s211 m223 (by decide)
          refine w_astI m224 (by decide) (by decide) (by decide) (by decide) (by decide) (fun A227 h226 w228 s225 => ?_)
          have q229 : a_g A227 0 = (-1) := ((w228 0 (by decide) (by decide)).trans (if_neg (by decide))).trans q188
          have q230 : a_g A227 1 = (-1) := ((w228 1 (by decide) (by decide)).trans (if_neg (by decide))).trans q189
          have q231 : a_g A227 2 = (-1) := ((w228 2 (by decide) (by decide)).trans (if_neg (by decide))).trans q190
          have q232 : a_g A227 3 = (-1) := ((w228 3 (by decide) (by decide)).trans (if_neg (by decide))).trans q191
          have q233 : a_g A227 4 = (-1) := ((w228 4 (by decide) (by decide)).trans (if_neg (by decide))).trans q192
          have q234 : a_g A227 5 = (-1) := (w228 5 (by decide) (by decide)).trans (if_pos rfl)
          have z235 := s225.1
          have z235y := s225.2.1
          have z235w := s225.2.2.2.2 z221w
          refine w_inc (c := w_i 6) (fun _ => rfl) (by decide +kernel) (fun _ => rfl) (w_go (w_run k_577548 (w_il (fun _ => rfl) (w_icI (x := 6) rfl (w_get (by decide) (by decide) (by decide) (by decide) (by decide)  (w_run k_577627 (w_al (fun _ => rfl) (w_icI (x := 0) rfl ?_))))))))
          have m236 := st_fr s225 m222 (by decide)
          refine w_putf [.inr (.inl (some 32)), .inr (.inl (some 33)), .inr (.inl (some 34)), .inr (.inl (some 35)), .inr (.inl (some 36)), .inl (w_i hh), .inl (w_i c), .inl (w_i 0), .inl (w_i kee14), .inl (w_i (g_mnp g)), .inl (w_i rul14), .inl (w_i (g_mhi g)), .inr (.inl (some 37)), .inr (.inl (some 50)), .inr (.inl (some 51)), .inr (.inl (some 52)), .inr (.inl (some 53)), .inr (.inl (some 54)), .inl (w_i tpd14), .inl (w_i (g_mnt g)), .inl (w_i nxt14), .inl (w_i tok14), .inl (w_i tka14), .inl (w_i val14), .inl (w_i opn14), .inl (w_i hm14), .inl (w_i row14), .inr (.inl (some 55)), .inr (.inl (some 56)), .inr (.inl (some 57)), .inr (.inl (some 58)), .inr (.inl (some 59)), .inr (.inl (some 60)), .inr (.inl (some 61)), .inr (.inl (some 62)), .inl (w_i ksp14), .inl (w_i kke14), .inl (w_i kru14), .inr (.inl (some 63)), .inr (.inl (some 64)), .inr (.inl (some 65)), .inr (.inl (some 66))] m236 rfl rfl rfl (fun _ => rfl) (fun h238 s237 => ?_)
          have z240 := s237.1
          have z240y := s237.2.1
          have z240w := s237.2.2.2.2 z235w
          refine w_al (fun _ => rfl) (w_icI (x := 0) rfl (w_putf [.inr (.inl (some 32)), .inr (.inl (some 33)), .inr (.inl (some 34)), .inr (.inl (some 35)), .inr (.inl (some 36)), .inl (w_i hh), .inl (w_i c), .inl (w_i 0), .inl (w_i 0), .inl (w_i (g_mnp g)), .inl (w_i rul14), .inl (w_i (g_mhi g)), .inr (.inl (some 37)), .inr (.inl (some 50)), .inr (.inl (some 51)), .inr (.inl (some 52)), .inr (.inl (some 53)), .inr (.inl (some 54)), .inl (w_i tpd14), .inl (w_i (g_mnt g)), .inl (w_i nxt14), .inl (w_i tok14), .inl (w_i tka14), .inl (w_i val14), .inl (w_i opn14), .inl (w_i hm14), .inl (w_i row14), .inr (.inl (some 55)), .inr (.inl (some 56)), .inr (.inl (some 57)), .inr (.inl (some 58)), .inr (.inl (some 59)), .inr (.inl (some 60)), .inr (.inl (some 61)), .inr (.inl (some 62)), .inl (w_i ksp14), .inl (w_i kke14), .inl (w_i kru14), .inr (.inl (some 63)), .inr (.inl (some 64)), .inr (.inl (some 65)), .inr (.inl (some 66))] s237.2.2.1 rfl rfl rfl (fun _ => rfl) (fun h242 s241 => ?_)))
          have z244 := s241.1
          have z244y := s241.2.1
          have z244w := s241.2.2.2.2 z240w
          refine w_al (fun _ => rfl) (w_icI (x := 0) rfl (w_putf [.inr (.inl (some 32)), .inr (.inl (some 33)), .inr (.inl (some 34)), .inr (.inl (some 35)), .inr (.inl (some 36)), .inl (w_i hh), .inl (w_i c), .inl (w_i 0), .inl (w_i 0), .inl (w_i (g_mnp g)), .inl (w_i rul14), .inl (w_i 0), .inr (.inl (some 37)), .inr (.inl (some 50)), .inr (.inl (some 51)), .inr (.inl (some 52)), .inr (.inl (some 53)), .inr (.inl (some 54)), .inl (w_i tpd14), .inl (w_i (g_mnt g)), .inl (w_i nxt14), .inl (w_i tok14), .inl (w_i tka14), .inl (w_i val14), .inl (w_i opn14), .inl (w_i hm14), .inl (w_i row14), .inr (.inl (some 55)), .inr (.inl (some 56)), .inr (.inl (some 57)), .inr (.inl (some 58)), .inr (.inl (some 59)), .inr (.inl (some 60)), .inr (.inl (some 61)), .inr (.inl (some 62)), .inl (w_i ksp14), .inl (w_i kke14), .inl (w_i kru14), .inr (.inl (some 63)), .inr (.inl (some 64)), .inr (.inl (some 65)), .inr (.inl (some 66))] s241.2.2.1 rfl rfl rfl (fun _ => rfl) (fun h246 s245 => ?_)))
          have z248 := s245.1
          have z248y := s245.2.1
          have z248w := s245.2.2.2.2 z244w
          refine w_rv ⟨rfl, ?_⟩
          refine w_il (fun _ => rfl) (w_ri ?_)
          have F1 := F.1
          have F2 := F.2.1
          have m249 := st_fr s211 s197.2.2.1 (by decide)
          have m250 := st_fr s225 m249 (by decide)
          have m251 := st_fr s237 m250 (by decide)
          have m252 := st_fr s241 m251 (by decide)
          have m253 := st_fr s245 m252 (by decide)
          have gz : g_mnt (g_mbu g hh c A199) = g_mnt g := rfl
          have six254 : ∀ j : Int, 0 ≤ j → j < 6 → 0 ≤ a_g A199 j ∧ a_g A199 j ≤ 63 := fun j j0 j1 => by
            rcases (show j = 0 ∨ j = 1 ∨ j = 2 ∨ j = 3 ∨ j = 4 ∨ j = 5 from by omega) with rfl | rfl | rfl | rfl | rfl | rfl
            · rw [q201]; omega
            · rw [q202]; omega
            · rw [q203]; omega
            · rw [q204]; omega
            · rw [q205]; omega
            · rw [q206]; omega
          have m255 := st_fr s225 s211.2.2.1 (by decide)
          have m256 := st_fr s237 m255 (by decide)
          have m257 := st_fr s241 m256 (by decide)
          have m258 := st_fr s245 m257 (by decide)
          have six259 : ∀ j : Int, 0 ≤ j → j < 6 → 0 ≤ a_g A213 j ∧ a_g A213 j < c := fun j j0 j1 => by
            rcases (show j = 0 ∨ j = 1 ∨ j = 2 ∨ j = 3 ∨ j = 4 ∨ j = 5 from by omega) with rfl | rfl | rfl | rfl | rfl | rfl
            · rw [q215]; omega
            · rw [q216]; omega
            · rw [q217]; omega
            · rw [q218]; omega
            · rw [q219]; omega
            · rw [q220]; omega
          have m260 := st_fr s237 s225.2.2.1 (by decide)
          have m261 := st_fr s241 m260 (by decide)
          have m262 := st_fr s245 m261 (by decide)
          have ivn := mbu_fin (e := _) (hh := hh) (c := c) iv (by omega) (by omega) (by omega) (by omega) (by omega) z248w (by omega) (fun q n31 n32 n33 n34 => (s245.2.2.2.1 q n31).trans ((s241.2.2.2.1 q n31).trans ((s237.2.2.2.1 q n31).trans ((s225.2.2.2.1 q n34).trans ((s211.2.2.2.1 q n33).trans ((s197.2.2.2.1 q n32).trans ((s184.2.2.2.1 q n34).trans ((s171.2.2.2.1 q n33).trans ((s158.2.2.2.1 q n32).trans ((s146.2.2.2.1 q n34).trans ((s134.2.2.2.1 q n33).trans ((s122.2.2.2.1 q n32).trans ((s111.2.2.2.1 q n34).trans ((s100.2.2.2.1 q n33).trans ((s89.2.2.2.1 q n32).trans ((s79.2.2.2.1 q n34).trans ((s69.2.2.2.1 q n33).trans ((s59.2.2.2.1 q n32).trans ((s50.2.2.2.1 q n34).trans ((s39.2.2.2.1 q n33).trans ((s29.2.2.2.1 q n32).trans ((s23.2.2.2.1 q n31).trans ((s19.2.2.2.1 q n31).trans (rfl)))))))))))))))))))))))) s245.2.2.1 ⟨_, _, _, _, _, _, _, _, _, _, _, _, _, _, rfl, by omega, by omega, by omega, by omega, by omega, by omega, by omega, by omega, by omega, by omega, by omega, by omega, by omega, by omega, by omega, by omega, by omega, by omega, by omega, by omega, by omega, by omega, by omega, by omega, by omega, by omega, by omega, by omega, by omega, by omega, by omega, by omega, by omega, by omega, by omega, by omega, by omega, by omega⟩ m253 six254 m258 six259 ⟨_, m262⟩
          have ttA : w_tt 1 (a_g A199) := fun j j0 j1 => by
            rcases (show j = 0 ∨ j = 1 ∨ j = 2 ∨ j = 3 ∨ j = 4 ∨ j = 5 from by omega) with rfl | rfl | rfl | rfl | rfl | rfl
            · rw [q201]; decide +kernel
            · rw [q202]; decide +kernel
            · rw [q203]; decide +kernel
            · rw [q204]; decide +kernel
            · rw [q205]; decide +kernel
            · rw [q206]; decide +kernel
          exact k0 _ (g_mbu g hh c A199) h246 ivn ch_gmbu (by omega) (by omega) rfl ⟨by omega, by omega, by omega, by omega, by omega⟩ ⟨rfl, rfl, by rw [hk]; exact ttA⟩
        · refine w_al (fun _ => rfl) (w_il (fun _ => rfl) (w_il (fun _ => rfl) (w_this (fun _ => rfl) m14 (w_cv (fun _ => rfl) rfl (w_run k_577536 (w_al (fun _ => rfl) (w_il (fun _ => rfl) (w_putf [.inr (.inl (some 32)), .inr (.inl (some 33)), .inr (.inl (some 34)), .inr (.inl (some 35)), .inr (.inl (some 36)), .inl (w_i hh), .inl (w_i (g_mC g)), .inl (w_i spr14), .inl (w_i kee14), .inl (w_i (g_mnp g)), .inl (w_i rul14), .inl (w_i (g_mhi g)), .inr (.inl (some 37)), .inr (.inl (some 50)), .inr (.inl (some 51)), .inr (.inl (some 52)), .inr (.inl (some 53)), .inr (.inl (some 54)), .inl (w_i tpd14), .inl (w_i (g_mnt g)), .inl (w_i nxt14), .inl (w_i tok14), .inl (w_i tka14), .inl (w_i val14), .inl (w_i opn14), .inl (w_i hm14), .inl (w_i row14), .inr (.inl (some 55)), .inr (.inl (some 56)), .inr (.inl (some 57)), .inr (.inl (some 58)), .inr (.inl (some 59)), .inr (.inl (some 60)), .inr (.inl (some 61)), .inr (.inl (some 62)), .inl (w_i ksp14), .inl (w_i kke14), .inl (w_i kru14), .inr (.inl (some 63)), .inr (.inl (some 64)), .inr (.inl (some 65)), .inr (.inl (some 66))] m14 rfl rfl rfl (fun _ => rfl) (fun h264 s263 => ?_)))))))))
          have z266 := s263.1
          have z266y := s263.2.1
          have z266w := s263.2.2.2.2 z18w
          refine w_al (fun _ => rfl) (w_il (fun _ => rfl) (w_putf [.inr (.inl (some 32)), .inr (.inl (some 33)), .inr (.inl (some 34)), .inr (.inl (some 35)), .inr (.inl (some 36)), .inl (w_i hh), .inl (w_i c), .inl (w_i spr14), .inl (w_i kee14), .inl (w_i (g_mnp g)), .inl (w_i rul14), .inl (w_i (g_mhi g)), .inr (.inl (some 37)), .inr (.inl (some 50)), .inr (.inl (some 51)), .inr (.inl (some 52)), .inr (.inl (some 53)), .inr (.inl (some 54)), .inl (w_i tpd14), .inl (w_i (g_mnt g)), .inl (w_i nxt14), .inl (w_i tok14), .inl (w_i tka14), .inl (w_i val14), .inl (w_i opn14), .inl (w_i hm14), .inl (w_i row14), .inr (.inl (some 55)), .inr (.inl (some 56)), .inr (.inl (some 57)), .inr (.inl (some 58)), .inr (.inl (some 59)), .inr (.inl (some 60)), .inr (.inl (some 61)), .inr (.inl (some 62)), .inl (w_i ksp14), .inl (w_i kke14), .inl (w_i kru14), .inr (.inl (some 63)), .inr (.inl (some 64)), .inr (.inl (some 65)), .inr (.inl (some 66))] s263.2.2.1 rfl rfl rfl (fun _ => rfl) (fun h268 s267 => ?_)))
          have z270 := s267.1
          have z270y := s267.2.1
          have z270w := s267.2.2.2.2 z266w
          refine w_icI (x := 0) rfl (w_is (fun _ => rfl) (w_il (fun _ => rfl) (w_icI (x := 6) rfl (w_gef (by decide) (by decide) (by decide) (by decide) (by decide)  (w_al (fun _ => rfl) (w_getf s267.2.2.1 rfl (fun _ => rfl) (w_il (fun _ => rfl) (w_icI (x := 0) rfl ?_))))))))
          have m271 := st_fr s263 m15 (by decide)
          have m272 := st_fr s267 m271 (by decide)
          refine w_astI m272 (by decide) (by decide) (by decide) (by decide) (by decide) (fun A275 h274 w276 s273 => ?_)
          have q277 : a_g A275 0 = 0 := (w276 0 (by decide) (by decide)).trans (if_pos rfl)
          have z278 := s273.1
          have z278y := s273.2.1
          have z278w := s273.2.2.2.2 z270w
          refine w_il (fun _ => rfl) (w_lezt (by decide) (by decide) (by decide)  (w_run k_577584 (w_il (fun _ => rfl) (w_icI (x := 1) rfl (w_op (c := w_i 1) (by decide +kernel) (w_il (fun _ => rfl) (w_gef (by omega) (by omega) (by omega) (by omega) (by omega)  (w_al (fun _ => rfl) ?_))))))))
          have m279 := st_fr s273 s267.2.2.1 (by decide)
          refine w_getf m279 rfl (fun _ => rfl) (w_il (fun _ => rfl) (w_dup2 (fun _ => rfl) (fun _ => rfl) (w_aldI s273.2.2.1 (by decide) (by decide) (by decide) ?_)))
          rw [q277]
          refine w_icI (x := 1) rfl (w_il (fun _ => rfl) (w_icI (x := 1) rfl (w_op (c := w_i 1) (by decide +kernel) (w_op (c := w_i 2) (by decide +kernel) (w_op (c := w_i 2) (by decide +kernel) (w_astI s273.2.2.1 (by decide) (by decide) (by decide) (by decide) (by decide) (fun A282 h281 w283 s280 => ?_)))))))
          have q284 : a_g A282 0 = 2 := (w283 0 (by decide) (by decide)).trans (if_pos rfl)
          have z285 := s280.1
          have z285y := s280.2.1
          have z285w := s280.2.2.2.2 z278w
          refine w_al (fun _ => rfl) ?_
          have m286 := st_fr s280 m279 (by decide)
          refine w_getf m286 rfl (fun _ => rfl) (w_il (fun _ => rfl) (w_il (fun _ => rfl) (w_icI (x := 2) rfl (w_opz (c := w_i 0) (by decide +kernel) (by decide +kernel) ?_))))
          have m287 := st_fr s263 m16 (by decide)
          have m288 := st_fr s267 m287 (by decide)
          have m289 := st_fr s273 m288 (by decide)
          have m290 := st_fr s280 m289 (by decide)
          refine w_astI m290 (by decide) (by decide) (by decide) (by decide) (by decide) (fun A293 h292 w294 s291 => ?_)
          have q295 : a_g A293 0 = 0 := (w294 0 (by decide) (by decide)).trans (if_pos rfl)
          have z296 := s291.1
          have z296y := s291.2.1
          have z296w := s291.2.2.2.2 z285w
          refine w_al (fun _ => rfl) ?_
          have m297 := st_fr s291 m286 (by decide)
          refine w_getf m297 rfl (fun _ => rfl) (w_il (fun _ => rfl) (w_icI (x := (-1)) wn_1 ?_))
          have m298 := st_fr s263 m17 (by decide)
          have m299 := st_fr s267 m298 (by decide)
          have m300 := st_fr s273 m299 (by decide)
          have m301 := st_fr s280 m300 (by decide)
          have m302 := st_fr s291 m301 (by decide)
          refine w_astI m302 (by decide) (by decide) (by decide) (by decide) (by decide) (fun A305 h304 w306 s303 => ?_)
          have q307 : a_g A305 0 = (-1) := (w306 0 (by decide) (by decide)).trans (if_pos rfl)
          have z308 := s303.1
          have z308y := s303.2.1
          have z308w := s303.2.2.2.2 z296w
          refine w_inc (c := w_i 1) (fun _ => rfl) (by decide +kernel) (fun _ => rfl) (w_go (w_run k_577548 (w_il (fun _ => rfl) (w_icI (x := 6) rfl (w_gef (by decide) (by decide) (by decide) (by decide) (by decide)  (w_al (fun _ => rfl) ?_))))))
          have m309 := st_fr s303 m297 (by decide)
          refine w_getf m309 rfl (fun _ => rfl) (w_il (fun _ => rfl) (w_icI (x := 0) rfl ?_))
          have m310 := st_fr s291 s280.2.2.1 (by decide)
          have m311 := st_fr s303 m310 (by decide)
          refine w_astI m311 (by decide) (by decide) (by decide) (by decide) (by decide) (fun A314 h313 w315 s312 => ?_)
          have q316 : a_g A314 0 = 2 := ((w315 0 (by decide) (by decide)).trans (if_neg (by decide))).trans q284
          have q317 : a_g A314 1 = 0 := (w315 1 (by decide) (by decide)).trans (if_pos rfl)
          have z318 := s312.1
          have z318y := s312.2.1
          have z318w := s312.2.2.2.2 z308w
          refine w_il (fun _ => rfl) (w_lezf (by decide) (by decide) (by decide)  (w_il (fun _ => rfl) (w_il (fun _ => rfl) (w_gef (by omega) (by omega) (by omega) (by omega) (by omega)  (w_al (fun _ => rfl) ?_)))))
          have m319 := st_fr s312 m309 (by decide)
          refine w_getf m319 rfl (fun _ => rfl) (w_il (fun _ => rfl) (w_dup2 (fun _ => rfl) (fun _ => rfl) (w_aldI s312.2.2.1 (by decide) (by decide) (by decide) ?_)))
          rw [q317]
          refine w_icI (x := 1) rfl (w_il (fun _ => rfl) (w_icI (x := 1) rfl (w_op (c := w_i 0) (by decide +kernel) (w_op (c := w_i 1) (by decide +kernel) (w_op (c := w_i 1) (by decide +kernel) (w_astI s312.2.2.1 (by decide) (by decide) (by decide) (by decide) (by decide) (fun A322 h321 w323 s320 => ?_)))))))
          have q324 : a_g A322 0 = 2 := ((w323 0 (by decide) (by decide)).trans (if_neg (by decide))).trans q316
          have q325 : a_g A322 1 = 1 := (w323 1 (by decide) (by decide)).trans (if_pos rfl)
          have z326 := s320.1
          have z326y := s320.2.1
          have z326w := s320.2.2.2.2 z318w
          refine w_il (fun _ => rfl) (w_icI (x := 1) rfl (w_op (c := w_i 2) (by decide +kernel) (w_il (fun _ => rfl) (w_get (by omega) (by omega) (by omega) (by omega) (by omega)  (w_run k_577605 (w_al (fun _ => rfl) ?_))))))
          have m327 := st_fr s320 m319 (by decide)
          refine w_getf m327 rfl (fun _ => rfl) (w_il (fun _ => rfl) (w_il (fun _ => rfl) (w_icI (x := 2) rfl (w_opz (c := w_i 1) (by decide +kernel) (by decide +kernel) ?_))))
          have m328 := st_fr s303 s291.2.2.1 (by decide)
          have m329 := st_fr s312 m328 (by decide)
          have m330 := st_fr s320 m329 (by decide)
          refine w_astI m330 (by decide) (by decide) (by decide) (by decide) (by decide) (fun A333 h332 w334 s331 => ?_)
          have q335 : a_g A333 0 = 0 := ((w334 0 (by decide) (by decide)).trans (if_neg (by decide))).trans q295
          have q336 : a_g A333 1 = 1 := (w334 1 (by decide) (by decide)).trans (if_pos rfl)
          have z337 := s331.1
          have z337y := s331.2.1
          have z337w := s331.2.2.2.2 z326w
          refine w_al (fun _ => rfl) ?_
          have m338 := st_fr s331 m327 (by decide)
          refine w_getf m338 rfl (fun _ => rfl) (w_il (fun _ => rfl) (w_icI (x := (-1)) wn_1 ?_))
          have m339 := st_fr s312 s303.2.2.1 (by decide)
          have m340 := st_fr s320 m339 (by decide)
          have m341 := st_fr s331 m340 (by decide)
          refine w_astI m341 (by decide) (by decide) (by decide) (by decide) (by decide) (fun A344 h343 w345 s342 => ?_)
          have q346 : a_g A344 0 = (-1) := ((w345 0 (by decide) (by decide)).trans (if_neg (by decide))).trans q307
          have q347 : a_g A344 1 = (-1) := (w345 1 (by decide) (by decide)).trans (if_pos rfl)
          have z348 := s342.1
          have z348y := s342.2.1
          have z348w := s342.2.2.2.2 z337w
          refine w_inc (c := w_i 2) (fun _ => rfl) (by decide +kernel) (fun _ => rfl) (w_go (w_run k_577548 (w_il (fun _ => rfl) (w_icI (x := 6) rfl (w_gef (by decide) (by decide) (by decide) (by decide) (by decide)  (w_al (fun _ => rfl) ?_))))))
          have m349 := st_fr s342 m338 (by decide)
          refine w_getf m349 rfl (fun _ => rfl) (w_il (fun _ => rfl) (w_icI (x := 0) rfl ?_))
          have m350 := st_fr s331 s320.2.2.1 (by decide)
          have m351 := st_fr s342 m350 (by decide)
          refine w_astI m351 (by decide) (by decide) (by decide) (by decide) (by decide) (fun A354 h353 w355 s352 => ?_)
          have q356 : a_g A354 0 = 2 := ((w355 0 (by decide) (by decide)).trans (if_neg (by decide))).trans q324
          have q357 : a_g A354 1 = 1 := ((w355 1 (by decide) (by decide)).trans (if_neg (by decide))).trans q325
          have q358 : a_g A354 2 = 0 := (w355 2 (by decide) (by decide)).trans (if_pos rfl)
          have z359 := s352.1
          have z359y := s352.2.1
          have z359w := s352.2.2.2.2 z348w
          refine w_il (fun _ => rfl) (w_lezf (by decide) (by decide) (by decide)  (w_il (fun _ => rfl) (w_il (fun _ => rfl) (w_get (by omega) (by omega) (by omega) (by omega) (by omega)  (w_run k_577584 (w_il (fun _ => rfl) (w_icI (x := 1) rfl (w_op (c := w_i 3) (by decide +kernel) (w_il (fun _ => rfl) (w_get (by omega) (by omega) (by omega) (by omega) (by omega)  (w_run k_577605 (w_al (fun _ => rfl) ?_))))))))))))
          have m360 := st_fr s352 m349 (by decide)
          refine w_getf m360 rfl (fun _ => rfl) (w_il (fun _ => rfl) (w_il (fun _ => rfl) (w_icI (x := 2) rfl (w_opz (c := w_i 0) (by decide +kernel) (by decide +kernel) ?_))))
          have m361 := st_fr s342 s331.2.2.1 (by decide)
          have m362 := st_fr s352 m361 (by decide)
          refine w_astI m362 (by decide) (by decide) (by decide) (by decide) (by decide) (fun A365 h364 w366 s363 => ?_)
          have q367 : a_g A365 0 = 0 := ((w366 0 (by decide) (by decide)).trans (if_neg (by decide))).trans q335
          have q368 : a_g A365 1 = 1 := ((w366 1 (by decide) (by decide)).trans (if_neg (by decide))).trans q336
          have q369 : a_g A365 2 = 0 := (w366 2 (by decide) (by decide)).trans (if_pos rfl)
          have z370 := s363.1
          have z370y := s363.2.1
          have z370w := s363.2.2.2.2 z359w
          refine w_al (fun _ => rfl) ?_
          have m371 := st_fr s363 m360 (by decide)
          refine w_getf m371 rfl (fun _ => rfl) (w_il (fun _ => rfl) (w_icI (x := (-1)) wn_1 ?_))
          have m372 := st_fr s352 s342.2.2.1 (by decide)
          have m373 := st_fr s363 m372 (by decide)
          refine w_astI m373 (by decide) (by decide) (by decide) (by decide) (by decide) (fun A376 h375 w377 s374 => ?_)
          have q378 : a_g A376 0 = (-1) := ((w377 0 (by decide) (by decide)).trans (if_neg (by decide))).trans q346
          have q379 : a_g A376 1 = (-1) := ((w377 1 (by decide) (by decide)).trans (if_neg (by decide))).trans q347
          have q380 : a_g A376 2 = (-1) := (w377 2 (by decide) (by decide)).trans (if_pos rfl)
          have z381 := s374.1
          have z381y := s374.2.1
          have z381w := s374.2.2.2.2 z370w
          refine w_inc (c := w_i 3) (fun _ => rfl) (by decide +kernel) (fun _ => rfl) (w_go (w_run k_577548 (w_il (fun _ => rfl) (w_icI (x := 6) rfl (w_gef (by decide) (by decide) (by decide) (by decide) (by decide)  (w_al (fun _ => rfl) ?_))))))
          have m382 := st_fr s374 m371 (by decide)
          refine w_getf m382 rfl (fun _ => rfl) (w_il (fun _ => rfl) (w_icI (x := 0) rfl ?_))
          have m383 := st_fr s363 s352.2.2.1 (by decide)
          have m384 := st_fr s374 m383 (by decide)
          refine w_astI m384 (by decide) (by decide) (by decide) (by decide) (by decide) (fun A387 h386 w388 s385 => ?_)
          have q389 : a_g A387 0 = 2 := ((w388 0 (by decide) (by decide)).trans (if_neg (by decide))).trans q356
          have q390 : a_g A387 1 = 1 := ((w388 1 (by decide) (by decide)).trans (if_neg (by decide))).trans q357
          have q391 : a_g A387 2 = 0 := ((w388 2 (by decide) (by decide)).trans (if_neg (by decide))).trans q358
          have q392 : a_g A387 3 = 0 := (w388 3 (by decide) (by decide)).trans (if_pos rfl)
          have z393 := s385.1
          have z393y := s385.2.1
          have z393w := s385.2.2.2.2 z381w
          refine w_il (fun _ => rfl) (w_lezf (by decide) (by decide) (by decide)  (w_il (fun _ => rfl) (w_il (fun _ => rfl) (w_get (by omega) (by omega) (by omega) (by omega) (by omega)  (w_run k_577584 (w_il (fun _ => rfl) (w_icI (x := 1) rfl (w_op (c := w_i 4) (by decide +kernel) (w_il (fun _ => rfl) (w_get (by omega) (by omega) (by omega) (by omega) (by omega)  (w_run k_577605 (w_al (fun _ => rfl) ?_))))))))))))
          have m394 := st_fr s385 m382 (by decide)
          refine w_getf m394 rfl (fun _ => rfl) (w_il (fun _ => rfl) (w_il (fun _ => rfl) (w_icI (x := 2) rfl (w_opz (c := w_i 1) (by decide +kernel) (by decide +kernel) ?_))))
          have m395 := st_fr s374 s363.2.2.1 (by decide)
          have m396 := st_fr s385 m395 (by decide)
          refine w_astI m396 (by decide) (by decide) (by decide) (by decide) (by decide) (fun A399 h398 w400 s397 => ?_)
          have q401 : a_g A399 0 = 0 := ((w400 0 (by decide) (by decide)).trans (if_neg (by decide))).trans q367
          have q402 : a_g A399 1 = 1 := ((w400 1 (by decide) (by decide)).trans (if_neg (by decide))).trans q368
          have q403 : a_g A399 2 = 0 := ((w400 2 (by decide) (by decide)).trans (if_neg (by decide))).trans q369
          have q404 : a_g A399 3 = 1 := (w400 3 (by decide) (by decide)).trans (if_pos rfl)
          have z405 := s397.1
          have z405y := s397.2.1
          have z405w := s397.2.2.2.2 z393w
          refine w_al (fun _ => rfl) ?_
          have m406 := st_fr s397 m394 (by decide)
          refine w_getf m406 rfl (fun _ => rfl) (w_il (fun _ => rfl) (w_icI (x := (-1)) wn_1 ?_))
          have m407 := st_fr s385 s374.2.2.1 (by decide)
          have m408 := st_fr s397 m407 (by decide)
          refine w_astI m408 (by decide) (by decide) (by decide) (by decide) (by decide) (fun A411 h410 w412 s409 => ?_)
          have q413 : a_g A411 0 = (-1) := ((w412 0 (by decide) (by decide)).trans (if_neg (by decide))).trans q378
          have q414 : a_g A411 1 = (-1) := ((w412 1 (by decide) (by decide)).trans (if_neg (by decide))).trans q379
          have q415 : a_g A411 2 = (-1) := ((w412 2 (by decide) (by decide)).trans (if_neg (by decide))).trans q380
          have q416 : a_g A411 3 = (-1) := (w412 3 (by decide) (by decide)).trans (if_pos rfl)
          have z417 := s409.1
          have z417y := s409.2.1
          have z417w := s409.2.2.2.2 z405w
          refine w_inc (c := w_i 4) (fun _ => rfl) (by decide +kernel) (fun _ => rfl) (w_go (w_run k_577548 (w_il (fun _ => rfl) (w_icI (x := 6) rfl (w_gef (by decide) (by decide) (by decide) (by decide) (by decide)  (w_al (fun _ => rfl) ?_))))))
          have m418 := st_fr s409 m406 (by decide)
          refine w_getf m418 rfl (fun _ => rfl) (w_il (fun _ => rfl) (w_icI (x := 0) rfl ?_))
          have m419 := st_fr s397 s385.2.2.1 (by decide)
          have m420 := st_fr s409 m419 (by decide)
          refine w_astI m420 (by decide) (by decide) (by decide) (by decide) (by decide) (fun A423 h422 w424 s421 => ?_)
          have q425 : a_g A423 0 = 2 := ((w424 0 (by decide) (by decide)).trans (if_neg (by decide))).trans q389
          have q426 : a_g A423 1 = 1 := ((w424 1 (by decide) (by decide)).trans (if_neg (by decide))).trans q390
          have q427 : a_g A423 2 = 0 := ((w424 2 (by decide) (by decide)).trans (if_neg (by decide))).trans q391
          have q428 : a_g A423 3 = 0 := ((w424 3 (by decide) (by decide)).trans (if_neg (by decide))).trans q392
          have q429 : a_g A423 4 = 0 := (w424 4 (by decide) (by decide)).trans (if_pos rfl)
          have z430 := s421.1
          have z430y := s421.2.1
          have z430w := s421.2.2.2.2 z417w
          refine w_il (fun _ => rfl) (w_lezf (by decide) (by decide) (by decide)  (w_il (fun _ => rfl) (w_il (fun _ => rfl) (w_get (by omega) (by omega) (by omega) (by omega) (by omega)  (w_run k_577584 (w_il (fun _ => rfl) (w_icI (x := 1) rfl (w_op (c := w_i 5) (by decide +kernel) (w_il (fun _ => rfl) (w_get (by omega) (by omega) (by omega) (by omega) (by omega)  (w_run k_577605 (w_al (fun _ => rfl) ?_))))))))))))
          have m431 := st_fr s421 m418 (by decide)
          refine w_getf m431 rfl (fun _ => rfl) (w_il (fun _ => rfl) (w_il (fun _ => rfl) (w_icI (x := 2) rfl (w_opz (c := w_i 0) (by decide +kernel) (by decide +kernel) ?_))))
          have m432 := st_fr s409 s397.2.2.1 (by decide)
          have m433 := st_fr s421 m432 (by decide)
          refine w_astI m433 (by decide) (by decide) (by decide) (by decide) (by decide) (fun A436 h435 w437 s434 => ?_)
          have q438 : a_g A436 0 = 0 := ((w437 0 (by decide) (by decide)).trans (if_neg (by decide))).trans q401
          have q439 : a_g A436 1 = 1 := ((w437 1 (by decide) (by decide)).trans (if_neg (by decide))).trans q402
          have q440 : a_g A436 2 = 0 := ((w437 2 (by decide) (by decide)).trans (if_neg (by decide))).trans q403
          have q441 : a_g A436 3 = 1 := ((w437 3 (by decide) (by decide)).trans (if_neg (by decide))).trans q404
          have q442 : a_g A436 4 = 0 := (w437 4 (by decide) (by decide)).trans (if_pos rfl)
          have z443 := s434.1
          have z443y := s434.2.1
          have z443w := s434.2.2.2.2 z430w
          refine w_al (fun _ => rfl) ?_
          have m444 := st_fr s434 m431 (by decide)
          refine w_getf m444 rfl (fun _ => rfl) (w_il (fun _ => rfl) (w_icI (x := (-1)) wn_1 ?_))
          have m445 := st_fr s421 s409.2.2.1 (by decide)
          have m446 := st_fr s434 m445 (by decide)
          refine w_astI m446 (by decide) (by decide) (by decide) (by decide) (by decide) (fun A449 h448 w450 s447 => ?_)
          have q451 : a_g A449 0 = (-1) := ((w450 0 (by decide) (by decide)).trans (if_neg (by decide))).trans q413
          have q452 : a_g A449 1 = (-1) := ((w450 1 (by decide) (by decide)).trans (if_neg (by decide))).trans q414
          have q453 : a_g A449 2 = (-1) := ((w450 2 (by decide) (by decide)).trans (if_neg (by decide))).trans q415
          have q454 : a_g A449 3 = (-1) := ((w450 3 (by decide) (by decide)).trans (if_neg (by decide))).trans q416
          have q455 : a_g A449 4 = (-1) := (w450 4 (by decide) (by decide)).trans (if_pos rfl)
          have z456 := s447.1
          have z456y := s447.2.1
          have z456w := s447.2.2.2.2 z443w
          refine w_inc (c := w_i 5) (fun _ => rfl) (by decide +kernel) (fun _ => rfl) (w_go (w_run k_577548 (w_il (fun _ => rfl) (w_icI (x := 6) rfl (w_gef (by decide) (by decide) (by decide) (by decide) (by decide)  (w_al (fun _ => rfl) ?_))))))
          have m457 := st_fr s447 m444 (by decide)
          refine w_getf m457 rfl (fun _ => rfl) (w_il (fun _ => rfl) (w_icI (x := 0) rfl ?_))
          have m458 := st_fr s434 s421.2.2.1 (by decide)
          have m459 := st_fr s447 m458 (by decide)
          refine w_astI m459 (by decide) (by decide) (by decide) (by decide) (by decide) (fun A462 h461 w463 s460 => ?_)
          have q464 : a_g A462 0 = 2 := ((w463 0 (by decide) (by decide)).trans (if_neg (by decide))).trans q425
          have q465 : a_g A462 1 = 1 := ((w463 1 (by decide) (by decide)).trans (if_neg (by decide))).trans q426
          have q466 : a_g A462 2 = 0 := ((w463 2 (by decide) (by decide)).trans (if_neg (by decide))).trans q427
          have q467 : a_g A462 3 = 0 := ((w463 3 (by decide) (by decide)).trans (if_neg (by decide))).trans q428
          have q468 : a_g A462 4 = 0 := ((w463 4 (by decide) (by decide)).trans (if_neg (by decide))).trans q429
          have q469 : a_g A462 5 = 0 := (w463 5 (by decide) (by decide)).trans (if_pos rfl)
          have z470 := s460.1
          have z470y := s460.2.1
          have z470w := s460.2.2.2.2 z456w
          refine w_il (fun _ => rfl) (w_lezf (by decide) (by decide) (by decide)  (w_il (fun _ => rfl) (w_il (fun _ => rfl) (w_get (by omega) (by omega) (by omega) (by omega) (by omega)  (w_run k_577584 (w_il (fun _ => rfl) (w_icI (x := 1) rfl (w_op (c := w_i 6) (by decide +kernel) (w_il (fun _ => rfl) (w_get (by omega) (by omega) (by omega) (by omega) (by omega)  (w_run k_577605 (w_al (fun _ => rfl) ?_))))))))))))
          have m471 := st_fr s460 m457 (by decide)
          refine w_getf m471 rfl (fun _ => rfl) (w_il (fun _ => rfl) (w_il (fun _ => rfl) (w_icI (x := 2) rfl (w_opz (c := w_i 1) (by decide +kernel) (by decide +kernel) ?_))))
          have m472 := st_fr s447 s434.2.2.1 (by decide)
          have m473 := st_fr s460 m472 (by decide)
          refine w_astI m473 (by decide) (by decide) (by decide) (by decide) (by decide) (fun A476 h475 w477 s474 => ?_)
          have q478 : a_g A476 0 = 0 := ((w477 0 (by decide) (by decide)).trans (if_neg (by decide))).trans q438
          have q479 : a_g A476 1 = 1 := ((w477 1 (by decide) (by decide)).trans (if_neg (by decide))).trans q439
          have q480 : a_g A476 2 = 0 := ((w477 2 (by decide) (by decide)).trans (if_neg (by decide))).trans q440
          have q481 : a_g A476 3 = 1 := ((w477 3 (by decide) (by decide)).trans (if_neg (by decide))).trans q441
          have q482 : a_g A476 4 = 0 := ((w477 4 (by decide) (by decide)).trans (if_neg (by decide))).trans q442
          have q483 : a_g A476 5 = 1 := (w477 5 (by decide) (by decide)).trans (if_pos rfl)
          have z484 := s474.1
          have z484y := s474.2.1
          have z484w := s474.2.2.2.2 z470w
          refine w_al (fun _ => rfl) ?_
          have m485 := st_fr s474 m471 (by decide)
          refine w_getf m485 rfl (fun _ => rfl) (w_il (fun _ => rfl) (w_icI (x := (-1)) wn_1 ?_))
          have m486 := st_fr s460 s447.2.2.1 (by decide)
          have m487 := st_fr s474 m486 (by decide)
          refine w_astI m487 (by decide) (by decide) (by decide) (by decide) (by decide) (fun A490 h489 w491 s488 => ?_)
          have q492 : a_g A490 0 = (-1) := ((w491 0 (by decide) (by decide)).trans (if_neg (by decide))).trans q451
          have q493 : a_g A490 1 = (-1) := ((w491 1 (by decide) (by decide)).trans (if_neg (by decide))).trans q452
          have q494 : a_g A490 2 = (-1) := ((w491 2 (by decide) (by decide)).trans (if_neg (by decide))).trans q453
          have q495 : a_g A490 3 = (-1) := ((w491 3 (by decide) (by decide)).trans (if_neg (by decide))).trans q454
          have q496 : a_g A490 4 = (-1) := ((w491 4 (by decide) (by decide)).trans (if_neg (by decide))).trans q455
          have q497 : a_g A490 5 = (-1) := (w491 5 (by decide) (by decide)).trans (if_pos rfl)
          have z498 := s488.1
          have z498y := s488.2.1
          have z498w := s488.2.2.2.2 z484w
          refine w_inc (c := w_i 6) (fun _ => rfl) (by decide +kernel) (fun _ => rfl) (w_go (w_run k_577548 (w_il (fun _ => rfl) (w_icI (x := 6) rfl (w_get (by decide) (by decide) (by decide) (by decide) (by decide)  (w_run k_577627 (w_al (fun _ => rfl) (w_icI (x := 0) rfl ?_))))))))
          have m499 := st_fr s488 m485 (by decide)
          refine w_putf [.inr (.inl (some 32)), .inr (.inl (some 33)), .inr (.inl (some 34)), .inr (.inl (some 35)), .inr (.inl (some 36)), .inl (w_i hh), .inl (w_i c), .inl (w_i 0), .inl (w_i kee14), .inl (w_i (g_mnp g)), .inl (w_i rul14), .inl (w_i (g_mhi g)), .inr (.inl (some 37)), .inr (.inl (some 50)), .inr (.inl (some 51)), .inr (.inl (some 52)), .inr (.inl (some 53)), .inr (.inl (some 54)), .inl (w_i tpd14), .inl (w_i (g_mnt g)), .inl (w_i nxt14), .inl (w_i tok14), .inl (w_i tka14), .inl (w_i val14), .inl (w_i opn14), .inl (w_i hm14), .inl (w_i row14), .inr (.inl (some 55)), .inr (.inl (some 56)), .inr (.inl (some 57)), .inr (.inl (some 58)), .inr (.inl (some 59)), .inr (.inl (some 60)), .inr (.inl (some 61)), .inr (.inl (some 62)), .inl (w_i ksp14), .inl (w_i kke14), .inl (w_i kru14), .inr (.inl (some 63)), .inr (.inl (some 64)), .inr (.inl (some 65)), .inr (.inl (some 66))] m499 rfl rfl rfl (fun _ => rfl) (fun h501 s500 => ?_)
          have z503 := s500.1
          have z503y := s500.2.1
          have z503w := s500.2.2.2.2 z498w
          refine w_al (fun _ => rfl) (w_icI (x := 0) rfl (w_putf [.inr (.inl (some 32)), .inr (.inl (some 33)), .inr (.inl (some 34)), .inr (.inl (some 35)), .inr (.inl (some 36)), .inl (w_i hh), .inl (w_i c), .inl (w_i 0), .inl (w_i 0), .inl (w_i (g_mnp g)), .inl (w_i rul14), .inl (w_i (g_mhi g)), .inr (.inl (some 37)), .inr (.inl (some 50)), .inr (.inl (some 51)), .inr (.inl (some 52)), .inr (.inl (some 53)), .inr (.inl (some 54)), .inl (w_i tpd14), .inl (w_i (g_mnt g)), .inl (w_i nxt14), .inl (w_i tok14), .inl (w_i tka14), .inl (w_i val14), .inl (w_i opn14), .inl (w_i hm14), .inl (w_i row14), .inr (.inl (some 55)), .inr (.inl (some 56)), .inr (.inl (some 57)), .inr (.inl (some 58)), .inr (.inl (some 59)), .inr (.inl (some 60)), .inr (.inl (some 61)), .inr (.inl (some 62)), .inl (w_i ksp14), .inl (w_i kke14), .inl (w_i kru14), .inr (.inl (some 63)), .inr (.inl (some 64)), .inr (.inl (some 65)), .inr (.inl (some 66))] s500.2.2.1 rfl rfl rfl (fun _ => rfl) (fun h505 s504 => ?_)))
          have z507 := s504.1
          have z507y := s504.2.1
          have z507w := s504.2.2.2.2 z503w
          refine w_al (fun _ => rfl) (w_icI (x := 0) rfl (w_putf [.inr (.inl (some 32)), .inr (.inl (some 33)), .inr (.inl (some 34)), .inr (.inl (some 35)), .inr (.inl (some 36)), .inl (w_i hh), .inl (w_i c), .inl (w_i 0), .inl (w_i 0), .inl (w_i (g_mnp g)), .inl (w_i rul14), .inl (w_i 0), .inr (.inl (some 37)), .inr (.inl (some 50)), .inr (.inl (some 51)), .inr (.inl (some 52)), .inr (.inl (some 53)), .inr (.inl (some 54)), .inl (w_i tpd14), .inl (w_i (g_mnt g)), .inl (w_i nxt14), .inl (w_i tok14), .inl (w_i tka14), .inl (w_i val14), .inl (w_i opn14), .inl (w_i hm14), .inl (w_i row14), .inr (.inl (some 55)), .inr (.inl (some 56)), .inr (.inl (some 57)), .inr (.inl (some 58)), .inr (.inl (some 59)), .inr (.inl (some 60)), .inr (.inl (some 61)), .inr (.inl (some 62)), .inl (w_i ksp14), .inl (w_i kke14), .inl (w_i kru14), .inr (.inl (some 63)), .inr (.inl (some 64)), .inr (.inl (some 65)), .inr (.inl (some 66))] s504.2.2.1 rfl rfl rfl (fun _ => rfl) (fun h509 s508 => ?_)))
          have z511 := s508.1
          have z511y := s508.2.1
          have z511w := s508.2.2.2.2 z507w
          refine w_rv ⟨rfl, ?_⟩
          refine w_il (fun _ => rfl) (w_ri ?_)
          have F1 := F.1
          have F2 := F.2.1
          have m512 := st_fr s474 s460.2.2.1 (by decide)
          have m513 := st_fr s488 m512 (by decide)
          have m514 := st_fr s500 m513 (by decide)
          have m515 := st_fr s504 m514 (by decide)
          have m516 := st_fr s508 m515 (by decide)
          have gz : g_mnt (g_mbu g hh c A462) = g_mnt g := rfl
          have six517 : ∀ j : Int, 0 ≤ j → j < 6 → 0 ≤ a_g A462 j ∧ a_g A462 j ≤ 63 := fun j j0 j1 => by
            rcases (show j = 0 ∨ j = 1 ∨ j = 2 ∨ j = 3 ∨ j = 4 ∨ j = 5 from by omega) with rfl | rfl | rfl | rfl | rfl | rfl
            · rw [q464]; omega
            · rw [q465]; omega
            · rw [q466]; omega
            · rw [q467]; omega
            · rw [q468]; omega
            · rw [q469]; omega
          have m518 := st_fr s488 s474.2.2.1 (by decide)
          have m519 := st_fr s500 m518 (by decide)
          have m520 := st_fr s504 m519 (by decide)
          have m521 := st_fr s508 m520 (by decide)
          have six522 : ∀ j : Int, 0 ≤ j → j < 6 → 0 ≤ a_g A476 j ∧ a_g A476 j < c := fun j j0 j1 => by
            rcases (show j = 0 ∨ j = 1 ∨ j = 2 ∨ j = 3 ∨ j = 4 ∨ j = 5 from by omega) with rfl | rfl | rfl | rfl | rfl | rfl
            · rw [q478]; omega
            · rw [q479]; omega
            · rw [q480]; omega
            · rw [q481]; omega
            · rw [q482]; omega
            · rw [q483]; omega
          have m523 := st_fr s500 s488.2.2.1 (by decide)
          have m524 := st_fr s504 m523 (by decide)
          have m525 := st_fr s508 m524 (by decide)
          have ivn := mbu_fin (e := _) (hh := hh) (c := c) iv (by omega) (by omega) (by omega) (by omega) (by omega) z511w (by omega) (fun q n31 n32 n33 n34 => (s508.2.2.2.1 q n31).trans ((s504.2.2.2.1 q n31).trans ((s500.2.2.2.1 q n31).trans ((s488.2.2.2.1 q n34).trans ((s474.2.2.2.1 q n33).trans ((s460.2.2.2.1 q n32).trans ((s447.2.2.2.1 q n34).trans ((s434.2.2.2.1 q n33).trans ((s421.2.2.2.1 q n32).trans ((s409.2.2.2.1 q n34).trans ((s397.2.2.2.1 q n33).trans ((s385.2.2.2.1 q n32).trans ((s374.2.2.2.1 q n34).trans ((s363.2.2.2.1 q n33).trans ((s352.2.2.2.1 q n32).trans ((s342.2.2.2.1 q n34).trans ((s331.2.2.2.1 q n33).trans ((s320.2.2.2.1 q n32).trans ((s312.2.2.2.1 q n32).trans ((s303.2.2.2.1 q n34).trans ((s291.2.2.2.1 q n33).trans ((s280.2.2.2.1 q n32).trans ((s273.2.2.2.1 q n32).trans ((s267.2.2.2.1 q n31).trans ((s263.2.2.2.1 q n31).trans (rfl)))))))))))))))))))))))))) s508.2.2.1 ⟨_, _, _, _, _, _, _, _, _, _, _, _, _, _, rfl, by omega, by omega, by omega, by omega, by omega, by omega, by omega, by omega, by omega, by omega, by omega, by omega, by omega, by omega, by omega, by omega, by omega, by omega, by omega, by omega, by omega, by omega, by omega, by omega, by omega, by omega, by omega, by omega, by omega, by omega, by omega, by omega, by omega, by omega, by omega, by omega, by omega, by omega⟩ m516 six517 m521 six522 ⟨_, m525⟩
          have ttA : w_tt 2 (a_g A462) := fun j j0 j1 => by
            rcases (show j = 0 ∨ j = 1 ∨ j = 2 ∨ j = 3 ∨ j = 4 ∨ j = 5 from by omega) with rfl | rfl | rfl | rfl | rfl | rfl
            · rw [q464]; decide +kernel
            · rw [q465]; decide +kernel
            · rw [q466]; decide +kernel
            · rw [q467]; decide +kernel
            · rw [q468]; decide +kernel
            · rw [q469]; decide +kernel
          exact k0 _ (g_mbu g hh c A462) h509 ivn ch_gmbu (by omega) (by omega) rfl ⟨by omega, by omega, by omega, by omega, by omega⟩ ⟨rfl, rfl, by rw [hk]; exact ttA⟩
        · refine w_al (fun _ => rfl) (w_il (fun _ => rfl) (w_il (fun _ => rfl) (w_this (fun _ => rfl) m14 (w_cv (fun _ => rfl) rfl (w_run k_577536 (w_al (fun _ => rfl) (w_il (fun _ => rfl) (w_putf [.inr (.inl (some 32)), .inr (.inl (some 33)), .inr (.inl (some 34)), .inr (.inl (some 35)), .inr (.inl (some 36)), .inl (w_i hh), .inl (w_i (g_mC g)), .inl (w_i spr14), .inl (w_i kee14), .inl (w_i (g_mnp g)), .inl (w_i rul14), .inl (w_i (g_mhi g)), .inr (.inl (some 37)), .inr (.inl (some 50)), .inr (.inl (some 51)), .inr (.inl (some 52)), .inr (.inl (some 53)), .inr (.inl (some 54)), .inl (w_i tpd14), .inl (w_i (g_mnt g)), .inl (w_i nxt14), .inl (w_i tok14), .inl (w_i tka14), .inl (w_i val14), .inl (w_i opn14), .inl (w_i hm14), .inl (w_i row14), .inr (.inl (some 55)), .inr (.inl (some 56)), .inr (.inl (some 57)), .inr (.inl (some 58)), .inr (.inl (some 59)), .inr (.inl (some 60)), .inr (.inl (some 61)), .inr (.inl (some 62)), .inl (w_i ksp14), .inl (w_i kke14), .inl (w_i kru14), .inr (.inl (some 63)), .inr (.inl (some 64)), .inr (.inl (some 65)), .inr (.inl (some 66))] m14 rfl rfl rfl (fun _ => rfl) (fun h527 s526 => ?_)))))))))
          have z529 := s526.1
          have z529y := s526.2.1
          have z529w := s526.2.2.2.2 z18w
          refine w_al (fun _ => rfl) (w_il (fun _ => rfl) (w_putf [.inr (.inl (some 32)), .inr (.inl (some 33)), .inr (.inl (some 34)), .inr (.inl (some 35)), .inr (.inl (some 36)), .inl (w_i hh), .inl (w_i c), .inl (w_i spr14), .inl (w_i kee14), .inl (w_i (g_mnp g)), .inl (w_i rul14), .inl (w_i (g_mhi g)), .inr (.inl (some 37)), .inr (.inl (some 50)), .inr (.inl (some 51)), .inr (.inl (some 52)), .inr (.inl (some 53)), .inr (.inl (some 54)), .inl (w_i tpd14), .inl (w_i (g_mnt g)), .inl (w_i nxt14), .inl (w_i tok14), .inl (w_i tka14), .inl (w_i val14), .inl (w_i opn14), .inl (w_i hm14), .inl (w_i row14), .inr (.inl (some 55)), .inr (.inl (some 56)), .inr (.inl (some 57)), .inr (.inl (some 58)), .inr (.inl (some 59)), .inr (.inl (some 60)), .inr (.inl (some 61)), .inr (.inl (some 62)), .inl (w_i ksp14), .inl (w_i kke14), .inl (w_i kru14), .inr (.inl (some 63)), .inr (.inl (some 64)), .inr (.inl (some 65)), .inr (.inl (some 66))] s526.2.2.1 rfl rfl rfl (fun _ => rfl) (fun h531 s530 => ?_)))
          have z533 := s530.1
          have z533y := s530.2.1
          have z533w := s530.2.2.2.2 z529w
          refine w_icI (x := 0) rfl (w_is (fun _ => rfl) (w_il (fun _ => rfl) (w_icI (x := 6) rfl (w_gef (by decide) (by decide) (by decide) (by decide) (by decide)  (w_al (fun _ => rfl) (w_getf s530.2.2.1 rfl (fun _ => rfl) (w_il (fun _ => rfl) (w_icI (x := 0) rfl ?_))))))))
          have m534 := st_fr s526 m15 (by decide)
          have m535 := st_fr s530 m534 (by decide)
          refine w_astI m535 (by decide) (by decide) (by decide) (by decide) (by decide) (fun A538 h537 w539 s536 => ?_)
          have q540 : a_g A538 0 = 0 := (w539 0 (by decide) (by decide)).trans (if_pos rfl)
          have z541 := s536.1
          have z541y := s536.2.1
          have z541w := s536.2.2.2.2 z533w
          refine w_il (fun _ => rfl) (w_lezt (by decide) (by decide) (by decide)  (w_run k_577584 (w_il (fun _ => rfl) (w_icI (x := 1) rfl (w_op (c := w_i 1) (by decide +kernel) (w_il (fun _ => rfl) (w_gef (by omega) (by omega) (by omega) (by omega) (by omega)  (w_al (fun _ => rfl) ?_))))))))
          have m542 := st_fr s536 s530.2.2.1 (by decide)
          refine w_getf m542 rfl (fun _ => rfl) (w_il (fun _ => rfl) (w_dup2 (fun _ => rfl) (fun _ => rfl) (w_aldI s536.2.2.1 (by decide) (by decide) (by decide) ?_)))
          rw [q540]
          refine w_icI (x := 1) rfl (w_il (fun _ => rfl) (w_icI (x := 1) rfl (w_op (c := w_i 1) (by decide +kernel) (w_op (c := w_i 2) (by decide +kernel) (w_op (c := w_i 2) (by decide +kernel) (w_astI s536.2.2.1 (by decide) (by decide) (by decide) (by decide) (by decide) (fun A545 h544 w546 s543 => ?_)))))))
          have q547 : a_g A545 0 = 2 := (w546 0 (by decide) (by decide)).trans (if_pos rfl)
          have z548 := s543.1
          have z548y := s543.2.1
          have z548w := s543.2.2.2.2 z541w
          refine w_al (fun _ => rfl) ?_
          have m549 := st_fr s543 m542 (by decide)
          refine w_getf m549 rfl (fun _ => rfl) (w_il (fun _ => rfl) (w_il (fun _ => rfl) (w_icI (x := 2) rfl (w_opz (c := w_i 0) (by decide +kernel) (by decide +kernel) ?_))))
          have m550 := st_fr s526 m16 (by decide)
          have m551 := st_fr s530 m550 (by decide)
          have m552 := st_fr s536 m551 (by decide)
          have m553 := st_fr s543 m552 (by decide)
          refine w_astI m553 (by decide) (by decide) (by decide) (by decide) (by decide) (fun A556 h555 w557 s554 => ?_)
          have q558 : a_g A556 0 = 0 := (w557 0 (by decide) (by decide)).trans (if_pos rfl)
          have z559 := s554.1
          have z559y := s554.2.1
          have z559w := s554.2.2.2.2 z548w
          refine w_al (fun _ => rfl) ?_
          have m560 := st_fr s554 m549 (by decide)
          refine w_getf m560 rfl (fun _ => rfl) (w_il (fun _ => rfl) (w_icI (x := (-1)) wn_1 ?_))
          have m561 := st_fr s526 m17 (by decide)
          have m562 := st_fr s530 m561 (by decide)
          have m563 := st_fr s536 m562 (by decide)
          have m564 := st_fr s543 m563 (by decide)
          have m565 := st_fr s554 m564 (by decide)
          refine w_astI m565 (by decide) (by decide) (by decide) (by decide) (by decide) (fun A568 h567 w569 s566 => ?_)
          have q570 : a_g A568 0 = (-1) := (w569 0 (by decide) (by decide)).trans (if_pos rfl)
          have z571 := s566.1
          have z571y := s566.2.1
          have z571w := s566.2.2.2.2 z559w
          refine w_inc (c := w_i 1) (fun _ => rfl) (by decide +kernel) (fun _ => rfl) (w_go (w_run k_577548 (w_il (fun _ => rfl) (w_icI (x := 6) rfl (w_gef (by decide) (by decide) (by decide) (by decide) (by decide)  (w_al (fun _ => rfl) ?_))))))
          have m572 := st_fr s566 m560 (by decide)
          refine w_getf m572 rfl (fun _ => rfl) (w_il (fun _ => rfl) (w_icI (x := 0) rfl ?_))
          have m573 := st_fr s554 s543.2.2.1 (by decide)
          have m574 := st_fr s566 m573 (by decide)
          refine w_astI m574 (by decide) (by decide) (by decide) (by decide) (by decide) (fun A577 h576 w578 s575 => ?_)
          have q579 : a_g A577 0 = 2 := ((w578 0 (by decide) (by decide)).trans (if_neg (by decide))).trans q547
          have q580 : a_g A577 1 = 0 := (w578 1 (by decide) (by decide)).trans (if_pos rfl)
          have z581 := s575.1
          have z581y := s575.2.1
          have z581w := s575.2.2.2.2 z571w
          refine w_il (fun _ => rfl) (w_lezf (by decide) (by decide) (by decide)  (w_il (fun _ => rfl) (w_il (fun _ => rfl) (w_gef (by omega) (by omega) (by omega) (by omega) (by omega)  (w_al (fun _ => rfl) ?_)))))
          have m582 := st_fr s575 m572 (by decide)
          refine w_getf m582 rfl (fun _ => rfl) (w_il (fun _ => rfl) (w_dup2 (fun _ => rfl) (fun _ => rfl) (w_aldI s575.2.2.1 (by decide) (by decide) (by decide) ?_)))
          rw [q580]
          refine w_icI (x := 1) rfl (w_il (fun _ => rfl) (w_icI (x := 1) rfl (w_op (c := w_i 0) (by decide +kernel) (w_op (c := w_i 1) (by decide +kernel) (w_op (c := w_i 1) (by decide +kernel) (w_astI s575.2.2.1 (by decide) (by decide) (by decide) (by decide) (by decide) (fun A585 h584 w586 s583 => ?_)))))))
          have q587 : a_g A585 0 = 2 := ((w586 0 (by decide) (by decide)).trans (if_neg (by decide))).trans q579
          have q588 : a_g A585 1 = 1 := (w586 1 (by decide) (by decide)).trans (if_pos rfl)
          have z589 := s583.1
          have z589y := s583.2.1
          have z589w := s583.2.2.2.2 z581w
          refine w_il (fun _ => rfl) (w_icI (x := 1) rfl (w_op (c := w_i 2) (by decide +kernel) (w_il (fun _ => rfl) (w_gef (by omega) (by omega) (by omega) (by omega) (by omega)  (w_al (fun _ => rfl) ?_)))))
          have m590 := st_fr s583 m582 (by decide)
          refine w_getf m590 rfl (fun _ => rfl) (w_il (fun _ => rfl) (w_dup2 (fun _ => rfl) (fun _ => rfl) (w_aldI s583.2.2.1 (by decide) (by decide) (by decide) ?_)))
          rw [q588]
          refine w_icI (x := 1) rfl (w_il (fun _ => rfl) (w_icI (x := 1) rfl (w_op (c := w_i 2) (by decide +kernel) (w_op (c := w_i 4) (by decide +kernel) (w_op (c := w_i 5) (by decide +kernel) (w_astI s583.2.2.1 (by decide) (by decide) (by decide) (by decide) (by decide) (fun A593 h592 w594 s591 => ?_)))))))
          have q595 : a_g A593 0 = 2 := ((w594 0 (by decide) (by decide)).trans (if_neg (by decide))).trans q587
          have q596 : a_g A593 1 = 5 := (w594 1 (by decide) (by decide)).trans (if_pos rfl)
          have z597 := s591.1
          have z597y := s591.2.1
          have z597w := s591.2.2.2.2 z589w
          refine w_al (fun _ => rfl) ?_
          have m598 := st_fr s591 m590 (by decide)
          refine w_getf m598 rfl (fun _ => rfl) (w_il (fun _ => rfl) (w_il (fun _ => rfl) (w_icI (x := 2) rfl (w_opz (c := w_i 1) (by decide +kernel) (by decide +kernel) ?_))))
          have m599 := st_fr s566 s554.2.2.1 (by decide)
          have m600 := st_fr s575 m599 (by decide)
          have m601 := st_fr s583 m600 (by decide)
          have m602 := st_fr s591 m601 (by decide)
          refine w_astI m602 (by decide) (by decide) (by decide) (by decide) (by decide) (fun A605 h604 w606 s603 => ?_)
          have q607 : a_g A605 0 = 0 := ((w606 0 (by decide) (by decide)).trans (if_neg (by decide))).trans q558
          have q608 : a_g A605 1 = 1 := (w606 1 (by decide) (by decide)).trans (if_pos rfl)
          have z609 := s603.1
          have z609y := s603.2.1
          have z609w := s603.2.2.2.2 z597w
          refine w_al (fun _ => rfl) ?_
          have m610 := st_fr s603 m598 (by decide)
          refine w_getf m610 rfl (fun _ => rfl) (w_il (fun _ => rfl) (w_icI (x := (-1)) wn_1 ?_))
          have m611 := st_fr s575 s566.2.2.1 (by decide)
          have m612 := st_fr s583 m611 (by decide)
          have m613 := st_fr s591 m612 (by decide)
          have m614 := st_fr s603 m613 (by decide)
          refine w_astI m614 (by decide) (by decide) (by decide) (by decide) (by decide) (fun A617 h616 w618 s615 => ?_)
          have q619 : a_g A617 0 = (-1) := ((w618 0 (by decide) (by decide)).trans (if_neg (by decide))).trans q570
          have q620 : a_g A617 1 = (-1) := (w618 1 (by decide) (by decide)).trans (if_pos rfl)
          have z621 := s615.1
          have z621y := s615.2.1
          have z621w := s615.2.2.2.2 z609w
          refine w_inc (c := w_i 2) (fun _ => rfl) (by decide +kernel) (fun _ => rfl) (w_go (w_run k_577548 (w_il (fun _ => rfl) (w_icI (x := 6) rfl (w_gef (by decide) (by decide) (by decide) (by decide) (by decide)  (w_al (fun _ => rfl) ?_))))))
          have m622 := st_fr s615 m610 (by decide)
          refine w_getf m622 rfl (fun _ => rfl) (w_il (fun _ => rfl) (w_icI (x := 0) rfl ?_))
          have m623 := st_fr s603 s591.2.2.1 (by decide)
          have m624 := st_fr s615 m623 (by decide)
          refine w_astI m624 (by decide) (by decide) (by decide) (by decide) (by decide) (fun A627 h626 w628 s625 => ?_)
          have q629 : a_g A627 0 = 2 := ((w628 0 (by decide) (by decide)).trans (if_neg (by decide))).trans q595
          have q630 : a_g A627 1 = 5 := ((w628 1 (by decide) (by decide)).trans (if_neg (by decide))).trans q596
          have q631 : a_g A627 2 = 0 := (w628 2 (by decide) (by decide)).trans (if_pos rfl)
          have z632 := s625.1
          have z632y := s625.2.1
          have z632w := s625.2.2.2.2 z621w
          refine w_il (fun _ => rfl) (w_lezf (by decide) (by decide) (by decide)  (w_il (fun _ => rfl) (w_il (fun _ => rfl) (w_gef (by omega) (by omega) (by omega) (by omega) (by omega)  (w_al (fun _ => rfl) ?_)))))
          have m633 := st_fr s625 m622 (by decide)
          refine w_getf m633 rfl (fun _ => rfl) (w_il (fun _ => rfl) (w_dup2 (fun _ => rfl) (fun _ => rfl) (w_aldI s625.2.2.1 (by decide) (by decide) (by decide) ?_)))
          rw [q631]
          refine w_icI (x := 1) rfl (w_il (fun _ => rfl) (w_icI (x := 1) rfl (w_op (c := w_i 1) (by decide +kernel) (w_op (c := w_i 2) (by decide +kernel) (w_op (c := w_i 2) (by decide +kernel) (w_astI s625.2.2.1 (by decide) (by decide) (by decide) (by decide) (by decide) (fun A636 h635 w637 s634 => ?_)))))))
          have q638 : a_g A636 0 = 2 := ((w637 0 (by decide) (by decide)).trans (if_neg (by decide))).trans q629
          have q639 : a_g A636 1 = 5 := ((w637 1 (by decide) (by decide)).trans (if_neg (by decide))).trans q630
          have q640 : a_g A636 2 = 2 := (w637 2 (by decide) (by decide)).trans (if_pos rfl)
          have z641 := s634.1
          have z641y := s634.2.1
          have z641w := s634.2.2.2.2 z632w
          refine w_il (fun _ => rfl) (w_icI (x := 1) rfl (w_op (c := w_i 3) (by decide +kernel) (w_il (fun _ => rfl) (w_get (by omega) (by omega) (by omega) (by omega) (by omega)  (w_run k_577605 (w_al (fun _ => rfl) ?_))))))
          have m642 := st_fr s634 m633 (by decide)
          refine w_getf m642 rfl (fun _ => rfl) (w_il (fun _ => rfl) (w_il (fun _ => rfl) (w_icI (x := 2) rfl (w_opz (c := w_i 0) (by decide +kernel) (by decide +kernel) ?_))))
          have m643 := st_fr s615 s603.2.2.1 (by decide)
          have m644 := st_fr s625 m643 (by decide)
          have m645 := st_fr s634 m644 (by decide)
          refine w_astI m645 (by decide) (by decide) (by decide) (by decide) (by decide) (fun A648 h647 w649 s646 => ?_)
          have q650 : a_g A648 0 = 0 := ((w649 0 (by decide) (by decide)).trans (if_neg (by decide))).trans q607
          have q651 : a_g A648 1 = 1 := ((w649 1 (by decide) (by decide)).trans (if_neg (by decide))).trans q608
          have q652 : a_g A648 2 = 0 := (w649 2 (by decide) (by decide)).trans (if_pos rfl)
          have z653 := s646.1
          have z653y := s646.2.1
          have z653w := s646.2.2.2.2 z641w
          refine w_al (fun _ => rfl) ?_
          have m654 := st_fr s646 m642 (by decide)
          refine w_getf m654 rfl (fun _ => rfl) (w_il (fun _ => rfl) (w_icI (x := (-1)) wn_1 ?_))
          have m655 := st_fr s625 s615.2.2.1 (by decide)
          have m656 := st_fr s634 m655 (by decide)
          have m657 := st_fr s646 m656 (by decide)
          refine w_astI m657 (by decide) (by decide) (by decide) (by decide) (by decide) (fun A660 h659 w661 s658 => ?_)
          have q662 : a_g A660 0 = (-1) := ((w661 0 (by decide) (by decide)).trans (if_neg (by decide))).trans q619
          have q663 : a_g A660 1 = (-1) := ((w661 1 (by decide) (by decide)).trans (if_neg (by decide))).trans q620
          have q664 : a_g A660 2 = (-1) := (w661 2 (by decide) (by decide)).trans (if_pos rfl)
          have z665 := s658.1
          have z665y := s658.2.1
          have z665w := s658.2.2.2.2 z653w
          refine w_inc (c := w_i 3) (fun _ => rfl) (by decide +kernel) (fun _ => rfl) (w_go (w_run k_577548 (w_il (fun _ => rfl) (w_icI (x := 6) rfl (w_gef (by decide) (by decide) (by decide) (by decide) (by decide)  (w_al (fun _ => rfl) ?_))))))
          have m666 := st_fr s658 m654 (by decide)
          refine w_getf m666 rfl (fun _ => rfl) (w_il (fun _ => rfl) (w_icI (x := 0) rfl ?_))
          have m667 := st_fr s646 s634.2.2.1 (by decide)
          have m668 := st_fr s658 m667 (by decide)
          refine w_astI m668 (by decide) (by decide) (by decide) (by decide) (by decide) (fun A671 h670 w672 s669 => ?_)
          have q673 : a_g A671 0 = 2 := ((w672 0 (by decide) (by decide)).trans (if_neg (by decide))).trans q638
          have q674 : a_g A671 1 = 5 := ((w672 1 (by decide) (by decide)).trans (if_neg (by decide))).trans q639
          have q675 : a_g A671 2 = 2 := ((w672 2 (by decide) (by decide)).trans (if_neg (by decide))).trans q640
          have q676 : a_g A671 3 = 0 := (w672 3 (by decide) (by decide)).trans (if_pos rfl)
          have z677 := s669.1
          have z677y := s669.2.1
          have z677w := s669.2.2.2.2 z665w
          refine w_il (fun _ => rfl) (w_lezf (by decide) (by decide) (by decide)  (w_il (fun _ => rfl) (w_il (fun _ => rfl) (w_get (by omega) (by omega) (by omega) (by omega) (by omega)  (w_run k_577584 (w_il (fun _ => rfl) (w_icI (x := 1) rfl (w_op (c := w_i 4) (by decide +kernel) (w_il (fun _ => rfl) (w_get (by omega) (by omega) (by omega) (by omega) (by omega)  (w_run k_577605 (w_al (fun _ => rfl) ?_))))))))))))
          have m678 := st_fr s669 m666 (by decide)
          refine w_getf m678 rfl (fun _ => rfl) (w_il (fun _ => rfl) (w_il (fun _ => rfl) (w_icI (x := 2) rfl (w_opz (c := w_i 1) (by decide +kernel) (by decide +kernel) ?_))))
          have m679 := st_fr s658 s646.2.2.1 (by decide)
          have m680 := st_fr s669 m679 (by decide)
          refine w_astI m680 (by decide) (by decide) (by decide) (by decide) (by decide) (fun A683 h682 w684 s681 => ?_)
          have q685 : a_g A683 0 = 0 := ((w684 0 (by decide) (by decide)).trans (if_neg (by decide))).trans q650
          have q686 : a_g A683 1 = 1 := ((w684 1 (by decide) (by decide)).trans (if_neg (by decide))).trans q651
          have q687 : a_g A683 2 = 0 := ((w684 2 (by decide) (by decide)).trans (if_neg (by decide))).trans q652
          have q688 : a_g A683 3 = 1 := (w684 3 (by decide) (by decide)).trans (if_pos rfl)
          have z689 := s681.1
          have z689y := s681.2.1
          have z689w := s681.2.2.2.2 z677w
          refine w_al (fun _ => rfl) ?_
          have m690 := st_fr s681 m678 (by decide)
          refine w_getf m690 rfl (fun _ => rfl) (w_il (fun _ => rfl) (w_icI (x := (-1)) wn_1 ?_))
          have m691 := st_fr s669 s658.2.2.1 (by decide)
          have m692 := st_fr s681 m691 (by decide)
          refine w_astI m692 (by decide) (by decide) (by decide) (by decide) (by decide) (fun A695 h694 w696 s693 => ?_)
          have q697 : a_g A695 0 = (-1) := ((w696 0 (by decide) (by decide)).trans (if_neg (by decide))).trans q662
          have q698 : a_g A695 1 = (-1) := ((w696 1 (by decide) (by decide)).trans (if_neg (by decide))).trans q663
          have q699 : a_g A695 2 = (-1) := ((w696 2 (by decide) (by decide)).trans (if_neg (by decide))).trans q664
          have q700 : a_g A695 3 = (-1) := (w696 3 (by decide) (by decide)).trans (if_pos rfl)
          have z701 := s693.1
          have z701y := s693.2.1
          have z701w := s693.2.2.2.2 z689w
          refine w_inc (c := w_i 4) (fun _ => rfl) (by decide +kernel) (fun _ => rfl) (w_go (w_run k_577548 (w_il (fun _ => rfl) (w_icI (x := 6) rfl (w_gef (by decide) (by decide) (by decide) (by decide) (by decide)  (w_al (fun _ => rfl) ?_))))))
          have m702 := st_fr s693 m690 (by decide)
          refine w_getf m702 rfl (fun _ => rfl) (w_il (fun _ => rfl) (w_icI (x := 0) rfl ?_))
          have m703 := st_fr s681 s669.2.2.1 (by decide)
          have m704 := st_fr s693 m703 (by decide)
          refine w_astI m704 (by decide) (by decide) (by decide) (by decide) (by decide) (fun A707 h706 w708 s705 => ?_)
          have q709 : a_g A707 0 = 2 := ((w708 0 (by decide) (by decide)).trans (if_neg (by decide))).trans q673
          have q710 : a_g A707 1 = 5 := ((w708 1 (by decide) (by decide)).trans (if_neg (by decide))).trans q674
          have q711 : a_g A707 2 = 2 := ((w708 2 (by decide) (by decide)).trans (if_neg (by decide))).trans q675
          have q712 : a_g A707 3 = 0 := ((w708 3 (by decide) (by decide)).trans (if_neg (by decide))).trans q676
          have q713 : a_g A707 4 = 0 := (w708 4 (by decide) (by decide)).trans (if_pos rfl)
          have z714 := s705.1
          have z714y := s705.2.1
          have z714w := s705.2.2.2.2 z701w
          refine w_il (fun _ => rfl) (w_lezf (by decide) (by decide) (by decide)  (w_il (fun _ => rfl) (w_il (fun _ => rfl) (w_get (by omega) (by omega) (by omega) (by omega) (by omega)  (w_run k_577584 (w_il (fun _ => rfl) (w_icI (x := 1) rfl (w_op (c := w_i 5) (by decide +kernel) (w_il (fun _ => rfl) (w_get (by omega) (by omega) (by omega) (by omega) (by omega)  (w_run k_577605 (w_al (fun _ => rfl) ?_))))))))))))
          have m715 := st_fr s705 m702 (by decide)
          refine w_getf m715 rfl (fun _ => rfl) (w_il (fun _ => rfl) (w_il (fun _ => rfl) (w_icI (x := 2) rfl (w_opz (c := w_i 0) (by decide +kernel) (by decide +kernel) ?_))))
          have m716 := st_fr s693 s681.2.2.1 (by decide)
          have m717 := st_fr s705 m716 (by decide)
          refine w_astI m717 (by decide) (by decide) (by decide) (by decide) (by decide) (fun A720 h719 w721 s718 => ?_)
          have q722 : a_g A720 0 = 0 := ((w721 0 (by decide) (by decide)).trans (if_neg (by decide))).trans q685
          have q723 : a_g A720 1 = 1 := ((w721 1 (by decide) (by decide)).trans (if_neg (by decide))).trans q686
          have q724 : a_g A720 2 = 0 := ((w721 2 (by decide) (by decide)).trans (if_neg (by decide))).trans q687
          have q725 : a_g A720 3 = 1 := ((w721 3 (by decide) (by decide)).trans (if_neg (by decide))).trans q688
          have q726 : a_g A720 4 = 0 := (w721 4 (by decide) (by decide)).trans (if_pos rfl)
          have z727 := s718.1
          have z727y := s718.2.1
          have z727w := s718.2.2.2.2 z714w
          refine w_al (fun _ => rfl) ?_
          have m728 := st_fr s718 m715 (by decide)
          refine w_getf m728 rfl (fun _ => rfl) (w_il (fun _ => rfl) (w_icI (x := (-1)) wn_1 ?_))
          have m729 := st_fr s705 s693.2.2.1 (by decide)
          have m730 := st_fr s718 m729 (by decide)
          refine w_astI m730 (by decide) (by decide) (by decide) (by decide) (by decide) (fun A733 h732 w734 s731 => ?_)
          have q735 : a_g A733 0 = (-1) := ((w734 0 (by decide) (by decide)).trans (if_neg (by decide))).trans q697
          have q736 : a_g A733 1 = (-1) := ((w734 1 (by decide) (by decide)).trans (if_neg (by decide))).trans q698
          have q737 : a_g A733 2 = (-1) := ((w734 2 (by decide) (by decide)).trans (if_neg (by decide))).trans q699
          have q738 : a_g A733 3 = (-1) := ((w734 3 (by decide) (by decide)).trans (if_neg (by decide))).trans q700
          have q739 : a_g A733 4 = (-1) := (w734 4 (by decide) (by decide)).trans (if_pos rfl)
          have z740 := s731.1
          have z740y := s731.2.1
          have z740w := s731.2.2.2.2 z727w
          refine w_inc (c := w_i 5) (fun _ => rfl) (by decide +kernel) (fun _ => rfl) (w_go (w_run k_577548 (w_il (fun _ => rfl) (w_icI (x := 6) rfl (w_gef (by decide) (by decide) (by decide) (by decide) (by decide)  (w_al (fun _ => rfl) ?_))))))
          have m741 := st_fr s731 m728 (by decide)
          refine w_getf m741 rfl (fun _ => rfl) (w_il (fun _ => rfl) (w_icI (x := 0) rfl ?_))
          have m742 := st_fr s718 s705.2.2.1 (by decide)
          have m743 := st_fr s731 m742 (by decide)
          refine w_astI m743 (by decide) (by decide) (by decide) (by decide) (by decide) (fun A746 h745 w747 s744 => ?_)
          have q748 : a_g A746 0 = 2 := ((w747 0 (by decide) (by decide)).trans (if_neg (by decide))).trans q709
          have q749 : a_g A746 1 = 5 := ((w747 1 (by decide) (by decide)).trans (if_neg (by decide))).trans q710
          have q750 : a_g A746 2 = 2 := ((w747 2 (by decide) (by decide)).trans (if_neg (by decide))).trans q711
          have q751 : a_g A746 3 = 0 := ((w747 3 (by decide) (by decide)).trans (if_neg (by decide))).trans q712
          have q752 : a_g A746 4 = 0 := ((w747 4 (by decide) (by decide)).trans (if_neg (by decide))).trans q713
          have q753 : a_g A746 5 = 0 := (w747 5 (by decide) (by decide)).trans (if_pos rfl)
          have z754 := s744.1
          have z754y := s744.2.1
          have z754w := s744.2.2.2.2 z740w
          refine w_il (fun _ => rfl) (w_lezf (by decide) (by decide) (by decide)  (w_il (fun _ => rfl) (w_il (fun _ => rfl) (w_get (by omega) (by omega) (by omega) (by omega) (by omega)  (w_run k_577584 (w_il (fun _ => rfl) (w_icI (x := 1) rfl (w_op (c := w_i 6) (by decide +kernel) (w_il (fun _ => rfl) (w_get (by omega) (by omega) (by omega) (by omega) (by omega)  (w_run k_577605 (w_al (fun _ => rfl) ?_))))))))))))
          have m755 := st_fr s744 m741 (by decide)
          refine w_getf m755 rfl (fun _ => rfl) (w_il (fun _ => rfl) (w_il (fun _ => rfl) (w_icI (x := 2) rfl (w_opz (c := w_i 1) (by decide +kernel) (by decide +kernel) ?_))))
          have m756 := st_fr s731 s718.2.2.1 (by decide)
          have m757 := st_fr s744 m756 (by decide)
          refine w_astI m757 (by decide) (by decide) (by decide) (by decide) (by decide) (fun A760 h759 w761 s758 => ?_)
          have q762 : a_g A760 0 = 0 := ((w761 0 (by decide) (by decide)).trans (if_neg (by decide))).trans q722
          have q763 : a_g A760 1 = 1 := ((w761 1 (by decide) (by decide)).trans (if_neg (by decide))).trans q723
          have q764 : a_g A760 2 = 0 := ((w761 2 (by decide) (by decide)).trans (if_neg (by decide))).trans q724
          have q765 : a_g A760 3 = 1 := ((w761 3 (by decide) (by decide)).trans (if_neg (by decide))).trans q725
          have q766 : a_g A760 4 = 0 := ((w761 4 (by decide) (by decide)).trans (if_neg (by decide))).trans q726
          have q767 : a_g A760 5 = 1 := (w761 5 (by decide) (by decide)).trans (if_pos rfl)
          have z768 := s758.1
          have z768y := s758.2.1
          have z768w := s758.2.2.2.2 z754w
          refine w_al (fun _ => rfl) ?_
          have m769 := st_fr s758 m755 (by decide)
          refine w_getf m769 rfl (fun _ => rfl) (w_il (fun _ => rfl) (w_icI (x := (-1)) wn_1 ?_))
          have m770 := st_fr s744 s731.2.2.1 (by decide)
          have m771 := st_fr s758 m770 (by decide)
          refine w_astI m771 (by decide) (by decide) (by decide) (by decide) (by decide) (fun A774 h773 w775 s772 => ?_)
          have q776 : a_g A774 0 = (-1) := ((w775 0 (by decide) (by decide)).trans (if_neg (by decide))).trans q735
          have q777 : a_g A774 1 = (-1) := ((w775 1 (by decide) (by decide)).trans (if_neg (by decide))).trans q736
          have q778 : a_g A774 2 = (-1) := ((w775 2 (by decide) (by decide)).trans (if_neg (by decide))).trans q737
          have q779 : a_g A774 3 = (-1) := ((w775 3 (by decide) (by decide)).trans (if_neg (by decide))).trans q738
          have q780 : a_g A774 4 = (-1) := ((w775 4 (by decide) (by decide)).trans (if_neg (by decide))).trans q739
          have q781 : a_g A774 5 = (-1) := (w775 5 (by decide) (by decide)).trans (if_pos rfl)
          have z782 := s772.1
          have z782y := s772.2.1
          have z782w := s772.2.2.2.2 z768w
          refine w_inc (c := w_i 6) (fun _ => rfl) (by decide +kernel) (fun _ => rfl) (w_go (w_run k_577548 (w_il (fun _ => rfl) (w_icI (x := 6) rfl (w_get (by decide) (by decide) (by decide) (by decide) (by decide)  (w_run k_577627 (w_al (fun _ => rfl) (w_icI (x := 0) rfl ?_))))))))
          have m783 := st_fr s772 m769 (by decide)
          refine w_putf [.inr (.inl (some 32)), .inr (.inl (some 33)), .inr (.inl (some 34)), .inr (.inl (some 35)), .inr (.inl (some 36)), .inl (w_i hh), .inl (w_i c), .inl (w_i 0), .inl (w_i kee14), .inl (w_i (g_mnp g)), .inl (w_i rul14), .inl (w_i (g_mhi g)), .inr (.inl (some 37)), .inr (.inl (some 50)), .inr (.inl (some 51)), .inr (.inl (some 52)), .inr (.inl (some 53)), .inr (.inl (some 54)), .inl (w_i tpd14), .inl (w_i (g_mnt g)), .inl (w_i nxt14), .inl (w_i tok14), .inl (w_i tka14), .inl (w_i val14), .inl (w_i opn14), .inl (w_i hm14), .inl (w_i row14), .inr (.inl (some 55)), .inr (.inl (some 56)), .inr (.inl (some 57)), .inr (.inl (some 58)), .inr (.inl (some 59)), .inr (.inl (some 60)), .inr (.inl (some 61)), .inr (.inl (some 62)), .inl (w_i ksp14), .inl (w_i kke14), .inl (w_i kru14), .inr (.inl (some 63)), .inr (.inl (some 64)), .inr (.inl (some 65)), .inr (.inl (some 66))] m783 rfl rfl rfl (fun _ => rfl) (fun h785 s784 => ?_)
          have z787 := s784.1
          have z787y := s784.2.1
          have z787w := s784.2.2.2.2 z782w
          refine w_al (fun _ => rfl) (w_icI (x := 0) rfl (w_putf [.inr (.inl (some 32)), .inr (.inl (some 33)), .inr (.inl (some 34)), .inr (.inl (some 35)), .inr (.inl (some 36)), .inl (w_i hh), .inl (w_i c), .inl (w_i 0), .inl (w_i 0), .inl (w_i (g_mnp g)), .inl (w_i rul14), .inl (w_i (g_mhi g)), .inr (.inl (some 37)), .inr (.inl (some 50)), .inr (.inl (some 51)), .inr (.inl (some 52)), .inr (.inl (some 53)), .inr (.inl (some 54)), .inl (w_i tpd14), .inl (w_i (g_mnt g)), .inl (w_i nxt14), .inl (w_i tok14), .inl (w_i tka14), .inl (w_i val14), .inl (w_i opn14), .inl (w_i hm14), .inl (w_i row14), .inr (.inl (some 55)), .inr (.inl (some 56)), .inr (.inl (some 57)), .inr (.inl (some 58)), .inr (.inl (some 59)), .inr (.inl (some 60)), .inr (.inl (some 61)), .inr (.inl (some 62)), .inl (w_i ksp14), .inl (w_i kke14), .inl (w_i kru14), .inr (.inl (some 63)), .inr (.inl (some 64)), .inr (.inl (some 65)), .inr (.inl (some 66))] s784.2.2.1 rfl rfl rfl (fun _ => rfl) (fun h789 s788 => ?_)))
          have z791 := s788.1
          have z791y := s788.2.1
          have z791w := s788.2.2.2.2 z787w
          refine w_al (fun _ => rfl) (w_icI (x := 0) rfl (w_putf [.inr (.inl (some 32)), .inr (.inl (some 33)), .inr (.inl (some 34)), .inr (.inl (some 35)), .inr (.inl (some 36)), .inl (w_i hh), .inl (w_i c), .inl (w_i 0), .inl (w_i 0), .inl (w_i (g_mnp g)), .inl (w_i rul14), .inl (w_i 0), .inr (.inl (some 37)), .inr (.inl (some 50)), .inr (.inl (some 51)), .inr (.inl (some 52)), .inr (.inl (some 53)), .inr (.inl (some 54)), .inl (w_i tpd14), .inl (w_i (g_mnt g)), .inl (w_i nxt14), .inl (w_i tok14), .inl (w_i tka14), .inl (w_i val14), .inl (w_i opn14), .inl (w_i hm14), .inl (w_i row14), .inr (.inl (some 55)), .inr (.inl (some 56)), .inr (.inl (some 57)), .inr (.inl (some 58)), .inr (.inl (some 59)), .inr (.inl (some 60)), .inr (.inl (some 61)), .inr (.inl (some 62)), .inl (w_i ksp14), .inl (w_i kke14), .inl (w_i kru14), .inr (.inl (some 63)), .inr (.inl (some 64)), .inr (.inl (some 65)), .inr (.inl (some 66))] s788.2.2.1 rfl rfl rfl (fun _ => rfl) (fun h793 s792 => ?_)))
          have z795 := s792.1
          have z795y := s792.2.1
          have z795w := s792.2.2.2.2 z791w
          refine w_rv ⟨rfl, ?_⟩
          refine w_il (fun _ => rfl) (w_ri ?_)
          have F1 := F.1
          have F2 := F.2.1
          have m796 := st_fr s758 s744.2.2.1 (by decide)
          have m797 := st_fr s772 m796 (by decide)
          have m798 := st_fr s784 m797 (by decide)
          have m799 := st_fr s788 m798 (by decide)
          have m800 := st_fr s792 m799 (by decide)
          have gz : g_mnt (g_mbu g hh c A746) = g_mnt g := rfl
          have six801 : ∀ j : Int, 0 ≤ j → j < 6 → 0 ≤ a_g A746 j ∧ a_g A746 j ≤ 63 := fun j j0 j1 => by
            rcases (show j = 0 ∨ j = 1 ∨ j = 2 ∨ j = 3 ∨ j = 4 ∨ j = 5 from by omega) with rfl | rfl | rfl | rfl | rfl | rfl
            · rw [q748]; omega
            · rw [q749]; omega
            · rw [q750]; omega
            · rw [q751]; omega
            · rw [q752]; omega
            · rw [q753]; omega
          have m802 := st_fr s772 s758.2.2.1 (by decide)
          have m803 := st_fr s784 m802 (by decide)
          have m804 := st_fr s788 m803 (by decide)
          have m805 := st_fr s792 m804 (by decide)
          have six806 : ∀ j : Int, 0 ≤ j → j < 6 → 0 ≤ a_g A760 j ∧ a_g A760 j < c := fun j j0 j1 => by
            rcases (show j = 0 ∨ j = 1 ∨ j = 2 ∨ j = 3 ∨ j = 4 ∨ j = 5 from by omega) with rfl | rfl | rfl | rfl | rfl | rfl
            · rw [q762]; omega
            · rw [q763]; omega
            · rw [q764]; omega
            · rw [q765]; omega
            · rw [q766]; omega
            · rw [q767]; omega
          have m807 := st_fr s784 s772.2.2.1 (by decide)
          have m808 := st_fr s788 m807 (by decide)
          have m809 := st_fr s792 m808 (by decide)
          have ivn := mbu_fin (e := _) (hh := hh) (c := c) iv (by omega) (by omega) (by omega) (by omega) (by omega) z795w (by omega) (fun q n31 n32 n33 n34 => (s792.2.2.2.1 q n31).trans ((s788.2.2.2.1 q n31).trans ((s784.2.2.2.1 q n31).trans ((s772.2.2.2.1 q n34).trans ((s758.2.2.2.1 q n33).trans ((s744.2.2.2.1 q n32).trans ((s731.2.2.2.1 q n34).trans ((s718.2.2.2.1 q n33).trans ((s705.2.2.2.1 q n32).trans ((s693.2.2.2.1 q n34).trans ((s681.2.2.2.1 q n33).trans ((s669.2.2.2.1 q n32).trans ((s658.2.2.2.1 q n34).trans ((s646.2.2.2.1 q n33).trans ((s634.2.2.2.1 q n32).trans ((s625.2.2.2.1 q n32).trans ((s615.2.2.2.1 q n34).trans ((s603.2.2.2.1 q n33).trans ((s591.2.2.2.1 q n32).trans ((s583.2.2.2.1 q n32).trans ((s575.2.2.2.1 q n32).trans ((s566.2.2.2.1 q n34).trans ((s554.2.2.2.1 q n33).trans ((s543.2.2.2.1 q n32).trans ((s536.2.2.2.1 q n32).trans ((s530.2.2.2.1 q n31).trans ((s526.2.2.2.1 q n31).trans (rfl)))))))))))))))))))))))))))) s792.2.2.1 ⟨_, _, _, _, _, _, _, _, _, _, _, _, _, _, rfl, by omega, by omega, by omega, by omega, by omega, by omega, by omega, by omega, by omega, by omega, by omega, by omega, by omega, by omega, by omega, by omega, by omega, by omega, by omega, by omega, by omega, by omega, by omega, by omega, by omega, by omega, by omega, by omega, by omega, by omega, by omega, by omega, by omega, by omega, by omega, by omega, by omega, by omega⟩ m800 six801 m805 six806 ⟨_, m809⟩
          have ttA : w_tt 3 (a_g A746) := fun j j0 j1 => by
            rcases (show j = 0 ∨ j = 1 ∨ j = 2 ∨ j = 3 ∨ j = 4 ∨ j = 5 from by omega) with rfl | rfl | rfl | rfl | rfl | rfl
            · rw [q748]; decide +kernel
            · rw [q749]; decide +kernel
            · rw [q750]; decide +kernel
            · rw [q751]; decide +kernel
            · rw [q752]; decide +kernel
            · rw [q753]; decide +kernel
          exact k0 _ (g_mbu g hh c A746) h793 ivn ch_gmbu (by omega) (by omega) rfl ⟨by omega, by omega, by omega, by omega, by omega⟩ ⟨rfl, rfl, by rw [hk]; exact ttA⟩
        · refine w_al (fun _ => rfl) (w_il (fun _ => rfl) (w_il (fun _ => rfl) (w_this (fun _ => rfl) m14 (w_cv (fun _ => rfl) rfl (w_run k_577536 (w_al (fun _ => rfl) (w_il (fun _ => rfl) (w_putf [.inr (.inl (some 32)), .inr (.inl (some 33)), .inr (.inl (some 34)), .inr (.inl (some 35)), .inr (.inl (some 36)), .inl (w_i hh), .inl (w_i (g_mC g)), .inl (w_i spr14), .inl (w_i kee14), .inl (w_i (g_mnp g)), .inl (w_i rul14), .inl (w_i (g_mhi g)), .inr (.inl (some 37)), .inr (.inl (some 50)), .inr (.inl (some 51)), .inr (.inl (some 52)), .inr (.inl (some 53)), .inr (.inl (some 54)), .inl (w_i tpd14), .inl (w_i (g_mnt g)), .inl (w_i nxt14), .inl (w_i tok14), .inl (w_i tka14), .inl (w_i val14), .inl (w_i opn14), .inl (w_i hm14), .inl (w_i row14), .inr (.inl (some 55)), .inr (.inl (some 56)), .inr (.inl (some 57)), .inr (.inl (some 58)), .inr (.inl (some 59)), .inr (.inl (some 60)), .inr (.inl (some 61)), .inr (.inl (some 62)), .inl (w_i ksp14), .inl (w_i kke14), .inl (w_i kru14), .inr (.inl (some 63)), .inr (.inl (some 64)), .inr (.inl (some 65)), .inr (.inl (some 66))] m14 rfl rfl rfl (fun _ => rfl) (fun h811 s810 => ?_)))))))))
          have z813 := s810.1
          have z813y := s810.2.1
          have z813w := s810.2.2.2.2 z18w
          refine w_al (fun _ => rfl) (w_il (fun _ => rfl) (w_putf [.inr (.inl (some 32)), .inr (.inl (some 33)), .inr (.inl (some 34)), .inr (.inl (some 35)), .inr (.inl (some 36)), .inl (w_i hh), .inl (w_i c), .inl (w_i spr14), .inl (w_i kee14), .inl (w_i (g_mnp g)), .inl (w_i rul14), .inl (w_i (g_mhi g)), .inr (.inl (some 37)), .inr (.inl (some 50)), .inr (.inl (some 51)), .inr (.inl (some 52)), .inr (.inl (some 53)), .inr (.inl (some 54)), .inl (w_i tpd14), .inl (w_i (g_mnt g)), .inl (w_i nxt14), .inl (w_i tok14), .inl (w_i tka14), .inl (w_i val14), .inl (w_i opn14), .inl (w_i hm14), .inl (w_i row14), .inr (.inl (some 55)), .inr (.inl (some 56)), .inr (.inl (some 57)), .inr (.inl (some 58)), .inr (.inl (some 59)), .inr (.inl (some 60)), .inr (.inl (some 61)), .inr (.inl (some 62)), .inl (w_i ksp14), .inl (w_i kke14), .inl (w_i kru14), .inr (.inl (some 63)), .inr (.inl (some 64)), .inr (.inl (some 65)), .inr (.inl (some 66))] s810.2.2.1 rfl rfl rfl (fun _ => rfl) (fun h815 s814 => ?_)))
          have z817 := s814.1
          have z817y := s814.2.1
          have z817w := s814.2.2.2.2 z813w
          refine w_icI (x := 0) rfl (w_is (fun _ => rfl) (w_il (fun _ => rfl) (w_icI (x := 6) rfl (w_gef (by decide) (by decide) (by decide) (by decide) (by decide)  (w_al (fun _ => rfl) (w_getf s814.2.2.1 rfl (fun _ => rfl) (w_il (fun _ => rfl) (w_icI (x := 0) rfl ?_))))))))
          have m818 := st_fr s810 m15 (by decide)
          have m819 := st_fr s814 m818 (by decide)
          refine w_astI m819 (by decide) (by decide) (by decide) (by decide) (by decide) (fun A822 h821 w823 s820 => ?_)
          have q824 : a_g A822 0 = 0 := (w823 0 (by decide) (by decide)).trans (if_pos rfl)
          have z825 := s820.1
          have z825y := s820.2.1
          have z825w := s820.2.2.2.2 z817w
          refine w_il (fun _ => rfl) (w_lezt (by decide) (by decide) (by decide)  (w_run k_577584 (w_il (fun _ => rfl) (w_icI (x := 1) rfl (w_op (c := w_i 1) (by decide +kernel) (w_il (fun _ => rfl) (w_gef (by omega) (by omega) (by omega) (by omega) (by omega)  (w_al (fun _ => rfl) ?_))))))))
          have m826 := st_fr s820 s814.2.2.1 (by decide)
          refine w_getf m826 rfl (fun _ => rfl) (w_il (fun _ => rfl) (w_dup2 (fun _ => rfl) (fun _ => rfl) (w_aldI s820.2.2.1 (by decide) (by decide) (by decide) ?_)))
          rw [q824]
          refine w_icI (x := 1) rfl (w_il (fun _ => rfl) (w_icI (x := 1) rfl (w_op (c := w_i 1) (by decide +kernel) (w_op (c := w_i 2) (by decide +kernel) (w_op (c := w_i 2) (by decide +kernel) (w_astI s820.2.2.1 (by decide) (by decide) (by decide) (by decide) (by decide) (fun A829 h828 w830 s827 => ?_)))))))
          have q831 : a_g A829 0 = 2 := (w830 0 (by decide) (by decide)).trans (if_pos rfl)
          have z832 := s827.1
          have z832y := s827.2.1
          have z832w := s827.2.2.2.2 z825w
          refine w_al (fun _ => rfl) ?_
          have m833 := st_fr s827 m826 (by decide)
          refine w_getf m833 rfl (fun _ => rfl) (w_il (fun _ => rfl) (w_il (fun _ => rfl) (w_icI (x := 2) rfl (w_opz (c := w_i 0) (by decide +kernel) (by decide +kernel) ?_))))
          have m834 := st_fr s810 m16 (by decide)
          have m835 := st_fr s814 m834 (by decide)
          have m836 := st_fr s820 m835 (by decide)
          have m837 := st_fr s827 m836 (by decide)
          refine w_astI m837 (by decide) (by decide) (by decide) (by decide) (by decide) (fun A840 h839 w841 s838 => ?_)
          have q842 : a_g A840 0 = 0 := (w841 0 (by decide) (by decide)).trans (if_pos rfl)
          have z843 := s838.1
          have z843y := s838.2.1
          have z843w := s838.2.2.2.2 z832w
          refine w_al (fun _ => rfl) ?_
          have m844 := st_fr s838 m833 (by decide)
          refine w_getf m844 rfl (fun _ => rfl) (w_il (fun _ => rfl) (w_icI (x := (-1)) wn_1 ?_))
          have m845 := st_fr s810 m17 (by decide)
          have m846 := st_fr s814 m845 (by decide)
          have m847 := st_fr s820 m846 (by decide)
          have m848 := st_fr s827 m847 (by decide)
          have m849 := st_fr s838 m848 (by decide)
          refine w_astI m849 (by decide) (by decide) (by decide) (by decide) (by decide) (fun A852 h851 w853 s850 => ?_)
          have q854 : a_g A852 0 = (-1) := (w853 0 (by decide) (by decide)).trans (if_pos rfl)
          have z855 := s850.1
          have z855y := s850.2.1
          have z855w := s850.2.2.2.2 z843w
          refine w_inc (c := w_i 1) (fun _ => rfl) (by decide +kernel) (fun _ => rfl) (w_go (w_run k_577548 (w_il (fun _ => rfl) (w_icI (x := 6) rfl (w_gef (by decide) (by decide) (by decide) (by decide) (by decide)  (w_al (fun _ => rfl) ?_))))))
          have m856 := st_fr s850 m844 (by decide)
          refine w_getf m856 rfl (fun _ => rfl) (w_il (fun _ => rfl) (w_icI (x := 0) rfl ?_))
          have m857 := st_fr s838 s827.2.2.1 (by decide)
          have m858 := st_fr s850 m857 (by decide)
          refine w_astI m858 (by decide) (by decide) (by decide) (by decide) (by decide) (fun A861 h860 w862 s859 => ?_)
          have q863 : a_g A861 0 = 2 := ((w862 0 (by decide) (by decide)).trans (if_neg (by decide))).trans q831
          have q864 : a_g A861 1 = 0 := (w862 1 (by decide) (by decide)).trans (if_pos rfl)
          have z865 := s859.1
          have z865y := s859.2.1
          have z865w := s859.2.2.2.2 z855w
          refine w_il (fun _ => rfl) (w_lezf (by decide) (by decide) (by decide)  (w_il (fun _ => rfl) (w_il (fun _ => rfl) (w_gef (by omega) (by omega) (by omega) (by omega) (by omega)  (w_al (fun _ => rfl) ?_)))))
          have m866 := st_fr s859 m856 (by decide)
          refine w_getf m866 rfl (fun _ => rfl) (w_il (fun _ => rfl) (w_dup2 (fun _ => rfl) (fun _ => rfl) (w_aldI s859.2.2.1 (by decide) (by decide) (by decide) ?_)))
          rw [q864]
          refine w_icI (x := 1) rfl (w_il (fun _ => rfl) (w_icI (x := 1) rfl (w_op (c := w_i 0) (by decide +kernel) (w_op (c := w_i 1) (by decide +kernel) (w_op (c := w_i 1) (by decide +kernel) (w_astI s859.2.2.1 (by decide) (by decide) (by decide) (by decide) (by decide) (fun A869 h868 w870 s867 => ?_)))))))
          have q871 : a_g A869 0 = 2 := ((w870 0 (by decide) (by decide)).trans (if_neg (by decide))).trans q863
          have q872 : a_g A869 1 = 1 := (w870 1 (by decide) (by decide)).trans (if_pos rfl)
          have z873 := s867.1
          have z873y := s867.2.1
          have z873w := s867.2.2.2.2 z865w
          refine w_il (fun _ => rfl) (w_icI (x := 1) rfl (w_op (c := w_i 2) (by decide +kernel) (w_il (fun _ => rfl) (w_gef (by omega) (by omega) (by omega) (by omega) (by omega)  (w_al (fun _ => rfl) ?_)))))
          have m874 := st_fr s867 m866 (by decide)
          refine w_getf m874 rfl (fun _ => rfl) (w_il (fun _ => rfl) (w_dup2 (fun _ => rfl) (fun _ => rfl) (w_aldI s867.2.2.1 (by decide) (by decide) (by decide) ?_)))
          rw [q872]
          refine w_icI (x := 1) rfl (w_il (fun _ => rfl) (w_icI (x := 1) rfl (w_op (c := w_i 2) (by decide +kernel) (w_op (c := w_i 4) (by decide +kernel) (w_op (c := w_i 5) (by decide +kernel) (w_astI s867.2.2.1 (by decide) (by decide) (by decide) (by decide) (by decide) (fun A877 h876 w878 s875 => ?_)))))))
          have q879 : a_g A877 0 = 2 := ((w878 0 (by decide) (by decide)).trans (if_neg (by decide))).trans q871
          have q880 : a_g A877 1 = 5 := (w878 1 (by decide) (by decide)).trans (if_pos rfl)
          have z881 := s875.1
          have z881y := s875.2.1
          have z881w := s875.2.2.2.2 z873w
          refine w_al (fun _ => rfl) ?_
          have m882 := st_fr s875 m874 (by decide)
          refine w_getf m882 rfl (fun _ => rfl) (w_il (fun _ => rfl) (w_il (fun _ => rfl) (w_icI (x := 2) rfl (w_opz (c := w_i 1) (by decide +kernel) (by decide +kernel) ?_))))
          have m883 := st_fr s850 s838.2.2.1 (by decide)
          have m884 := st_fr s859 m883 (by decide)
          have m885 := st_fr s867 m884 (by decide)
          have m886 := st_fr s875 m885 (by decide)
          refine w_astI m886 (by decide) (by decide) (by decide) (by decide) (by decide) (fun A889 h888 w890 s887 => ?_)
          have q891 : a_g A889 0 = 0 := ((w890 0 (by decide) (by decide)).trans (if_neg (by decide))).trans q842
          have q892 : a_g A889 1 = 1 := (w890 1 (by decide) (by decide)).trans (if_pos rfl)
          have z893 := s887.1
          have z893y := s887.2.1
          have z893w := s887.2.2.2.2 z881w
          refine w_al (fun _ => rfl) ?_
          have m894 := st_fr s887 m882 (by decide)
          refine w_getf m894 rfl (fun _ => rfl) (w_il (fun _ => rfl) (w_icI (x := (-1)) wn_1 ?_))
          have m895 := st_fr s859 s850.2.2.1 (by decide)
          have m896 := st_fr s867 m895 (by decide)
          have m897 := st_fr s875 m896 (by decide)
          have m898 := st_fr s887 m897 (by decide)
          refine w_astI m898 (by decide) (by decide) (by decide) (by decide) (by decide) (fun A901 h900 w902 s899 => ?_)
          have q903 : a_g A901 0 = (-1) := ((w902 0 (by decide) (by decide)).trans (if_neg (by decide))).trans q854
          have q904 : a_g A901 1 = (-1) := (w902 1 (by decide) (by decide)).trans (if_pos rfl)
          have z905 := s899.1
          have z905y := s899.2.1
          have z905w := s899.2.2.2.2 z893w
          refine w_inc (c := w_i 2) (fun _ => rfl) (by decide +kernel) (fun _ => rfl) (w_go (w_run k_577548 (w_il (fun _ => rfl) (w_icI (x := 6) rfl (w_gef (by decide) (by decide) (by decide) (by decide) (by decide)  (w_al (fun _ => rfl) ?_))))))
          have m906 := st_fr s899 m894 (by decide)
          refine w_getf m906 rfl (fun _ => rfl) (w_il (fun _ => rfl) (w_icI (x := 0) rfl ?_))
          have m907 := st_fr s887 s875.2.2.1 (by decide)
          have m908 := st_fr s899 m907 (by decide)
          refine w_astI m908 (by decide) (by decide) (by decide) (by decide) (by decide) (fun A911 h910 w912 s909 => ?_)
          have q913 : a_g A911 0 = 2 := ((w912 0 (by decide) (by decide)).trans (if_neg (by decide))).trans q879
          have q914 : a_g A911 1 = 5 := ((w912 1 (by decide) (by decide)).trans (if_neg (by decide))).trans q880
          have q915 : a_g A911 2 = 0 := (w912 2 (by decide) (by decide)).trans (if_pos rfl)
          have z916 := s909.1
          have z916y := s909.2.1
          have z916w := s909.2.2.2.2 z905w
          refine w_il (fun _ => rfl) (w_lezf (by decide) (by decide) (by decide)  (w_il (fun _ => rfl) (w_il (fun _ => rfl) (w_gef (by omega) (by omega) (by omega) (by omega) (by omega)  (w_al (fun _ => rfl) ?_)))))
          have m917 := st_fr s909 m906 (by decide)
          refine w_getf m917 rfl (fun _ => rfl) (w_il (fun _ => rfl) (w_dup2 (fun _ => rfl) (fun _ => rfl) (w_aldI s909.2.2.1 (by decide) (by decide) (by decide) ?_)))
          rw [q915]
          refine w_icI (x := 1) rfl (w_il (fun _ => rfl) (w_icI (x := 1) rfl (w_op (c := w_i 1) (by decide +kernel) (w_op (c := w_i 2) (by decide +kernel) (w_op (c := w_i 2) (by decide +kernel) (w_astI s909.2.2.1 (by decide) (by decide) (by decide) (by decide) (by decide) (fun A920 h919 w921 s918 => ?_)))))))
          have q922 : a_g A920 0 = 2 := ((w921 0 (by decide) (by decide)).trans (if_neg (by decide))).trans q913
          have q923 : a_g A920 1 = 5 := ((w921 1 (by decide) (by decide)).trans (if_neg (by decide))).trans q914
          have q924 : a_g A920 2 = 2 := (w921 2 (by decide) (by decide)).trans (if_pos rfl)
          have z925 := s918.1
          have z925y := s918.2.1
          have z925w := s918.2.2.2.2 z916w
          refine w_il (fun _ => rfl) (w_icI (x := 1) rfl (w_op (c := w_i 3) (by decide +kernel) (w_il (fun _ => rfl) (w_gef (by omega) (by omega) (by omega) (by omega) (by omega)  (w_al (fun _ => rfl) ?_)))))
          have m926 := st_fr s918 m917 (by decide)
          refine w_getf m926 rfl (fun _ => rfl) (w_il (fun _ => rfl) (w_dup2 (fun _ => rfl) (fun _ => rfl) (w_aldI s918.2.2.1 (by decide) (by decide) (by decide) ?_)))
          rw [q924]
          refine w_icI (x := 1) rfl (w_il (fun _ => rfl) (w_icI (x := 1) rfl (w_op (c := w_i 3) (by decide +kernel) (w_op (c := w_i 8) (by decide +kernel) (w_op (c := w_i 10) (by decide +kernel) (w_astI s918.2.2.1 (by decide) (by decide) (by decide) (by decide) (by decide) (fun A929 h928 w930 s927 => ?_)))))))
          have q931 : a_g A929 0 = 2 := ((w930 0 (by decide) (by decide)).trans (if_neg (by decide))).trans q922
          have q932 : a_g A929 1 = 5 := ((w930 1 (by decide) (by decide)).trans (if_neg (by decide))).trans q923
          have q933 : a_g A929 2 = 10 := (w930 2 (by decide) (by decide)).trans (if_pos rfl)
          have z934 := s927.1
          have z934y := s927.2.1
          have z934w := s927.2.2.2.2 z925w
          refine w_al (fun _ => rfl) ?_
          have m935 := st_fr s927 m926 (by decide)
          refine w_getf m935 rfl (fun _ => rfl) (w_il (fun _ => rfl) (w_il (fun _ => rfl) (w_icI (x := 2) rfl (w_opz (c := w_i 0) (by decide +kernel) (by decide +kernel) ?_))))
          have m936 := st_fr s899 s887.2.2.1 (by decide)
          have m937 := st_fr s909 m936 (by decide)
          have m938 := st_fr s918 m937 (by decide)
          have m939 := st_fr s927 m938 (by decide)
          refine w_astI m939 (by decide) (by decide) (by decide) (by decide) (by decide) (fun A942 h941 w943 s940 => ?_)
          have q944 : a_g A942 0 = 0 := ((w943 0 (by decide) (by decide)).trans (if_neg (by decide))).trans q891
          have q945 : a_g A942 1 = 1 := ((w943 1 (by decide) (by decide)).trans (if_neg (by decide))).trans q892
          have q946 : a_g A942 2 = 0 := (w943 2 (by decide) (by decide)).trans (if_pos rfl)
          have z947 := s940.1
          have z947y := s940.2.1
          have z947w := s940.2.2.2.2 z934w
          refine w_al (fun _ => rfl) ?_
          have m948 := st_fr s940 m935 (by decide)
          refine w_getf m948 rfl (fun _ => rfl) (w_il (fun _ => rfl) (w_icI (x := (-1)) wn_1 ?_))
          have m949 := st_fr s909 s899.2.2.1 (by decide)
          have m950 := st_fr s918 m949 (by decide)
          have m951 := st_fr s927 m950 (by decide)
          have m952 := st_fr s940 m951 (by decide)
          refine w_astI m952 (by decide) (by decide) (by decide) (by decide) (by decide) (fun A955 h954 w956 s953 => ?_)
          have q957 : a_g A955 0 = (-1) := ((w956 0 (by decide) (by decide)).trans (if_neg (by decide))).trans q903
          have q958 : a_g A955 1 = (-1) := ((w956 1 (by decide) (by decide)).trans (if_neg (by decide))).trans q904
          have q959 : a_g A955 2 = (-1) := (w956 2 (by decide) (by decide)).trans (if_pos rfl)
          have z960 := s953.1
          have z960y := s953.2.1
          have z960w := s953.2.2.2.2 z947w
          refine w_inc (c := w_i 3) (fun _ => rfl) (by decide +kernel) (fun _ => rfl) (w_go (w_run k_577548 (w_il (fun _ => rfl) (w_icI (x := 6) rfl (w_gef (by decide) (by decide) (by decide) (by decide) (by decide)  (w_al (fun _ => rfl) ?_))))))
          have m961 := st_fr s953 m948 (by decide)
          refine w_getf m961 rfl (fun _ => rfl) (w_il (fun _ => rfl) (w_icI (x := 0) rfl ?_))
          have m962 := st_fr s940 s927.2.2.1 (by decide)
          have m963 := st_fr s953 m962 (by decide)
          refine w_astI m963 (by decide) (by decide) (by decide) (by decide) (by decide) (fun A966 h965 w967 s964 => ?_)
          have q968 : a_g A966 0 = 2 := ((w967 0 (by decide) (by decide)).trans (if_neg (by decide))).trans q931
          have q969 : a_g A966 1 = 5 := ((w967 1 (by decide) (by decide)).trans (if_neg (by decide))).trans q932
          have q970 : a_g A966 2 = 10 := ((w967 2 (by decide) (by decide)).trans (if_neg (by decide))).trans q933
          have q971 : a_g A966 3 = 0 := (w967 3 (by decide) (by decide)).trans (if_pos rfl)
          have z972 := s964.1
          have z972y := s964.2.1
          have z972w := s964.2.2.2.2 z960w
          refine w_il (fun _ => rfl) (w_lezf (by decide) (by decide) (by decide)  (w_il (fun _ => rfl) (w_il (fun _ => rfl) (w_gef (by omega) (by omega) (by omega) (by omega) (by omega)  (w_al (fun _ => rfl) ?_)))))
          have m973 := st_fr s964 m961 (by decide)
          refine w_getf m973 rfl (fun _ => rfl) (w_il (fun _ => rfl) (w_dup2 (fun _ => rfl) (fun _ => rfl) (w_aldI s964.2.2.1 (by decide) (by decide) (by decide) ?_)))
          rw [q971]
          refine w_icI (x := 1) rfl (w_il (fun _ => rfl) (w_icI (x := 1) rfl (w_op (c := w_i 2) (by decide +kernel) (w_op (c := w_i 4) (by decide +kernel) (w_op (c := w_i 4) (by decide +kernel) (w_astI s964.2.2.1 (by decide) (by decide) (by decide) (by decide) (by decide) (fun A976 h975 w977 s974 => ?_)))))))
          have q978 : a_g A976 0 = 2 := ((w977 0 (by decide) (by decide)).trans (if_neg (by decide))).trans q968
          have q979 : a_g A976 1 = 5 := ((w977 1 (by decide) (by decide)).trans (if_neg (by decide))).trans q969
          have q980 : a_g A976 2 = 10 := ((w977 2 (by decide) (by decide)).trans (if_neg (by decide))).trans q970
          have q981 : a_g A976 3 = 4 := (w977 3 (by decide) (by decide)).trans (if_pos rfl)
          have z982 := s974.1
          have z982y := s974.2.1
          have z982w := s974.2.2.2.2 z972w
          refine w_il (fun _ => rfl) (w_icI (x := 1) rfl (w_op (c := w_i 4) (by decide +kernel) (w_il (fun _ => rfl) (w_get (by omega) (by omega) (by omega) (by omega) (by omega)  (w_run k_577605 (w_al (fun _ => rfl) ?_))))))
          have m983 := st_fr s974 m973 (by decide)
          refine w_getf m983 rfl (fun _ => rfl) (w_il (fun _ => rfl) (w_il (fun _ => rfl) (w_icI (x := 2) rfl (w_opz (c := w_i 1) (by decide +kernel) (by decide +kernel) ?_))))
          have m984 := st_fr s953 s940.2.2.1 (by decide)
          have m985 := st_fr s964 m984 (by decide)
          have m986 := st_fr s974 m985 (by decide)
          refine w_astI m986 (by decide) (by decide) (by decide) (by decide) (by decide) (fun A989 h988 w990 s987 => ?_)
          have q991 : a_g A989 0 = 0 := ((w990 0 (by decide) (by decide)).trans (if_neg (by decide))).trans q944
          have q992 : a_g A989 1 = 1 := ((w990 1 (by decide) (by decide)).trans (if_neg (by decide))).trans q945
          have q993 : a_g A989 2 = 0 := ((w990 2 (by decide) (by decide)).trans (if_neg (by decide))).trans q946
          have q994 : a_g A989 3 = 1 := (w990 3 (by decide) (by decide)).trans (if_pos rfl)
          have z995 := s987.1
          have z995y := s987.2.1
          have z995w := s987.2.2.2.2 z982w
          refine w_al (fun _ => rfl) ?_
          have m996 := st_fr s987 m983 (by decide)
          refine w_getf m996 rfl (fun _ => rfl) (w_il (fun _ => rfl) (w_icI (x := (-1)) wn_1 ?_))
          have m997 := st_fr s964 s953.2.2.1 (by decide)
          have m998 := st_fr s974 m997 (by decide)
          have m999 := st_fr s987 m998 (by decide)
          refine w_astI m999 (by decide) (by decide) (by decide) (by decide) (by decide) (fun A1002 h1001 w1003 s1000 => ?_)
          have q1004 : a_g A1002 0 = (-1) := ((w1003 0 (by decide) (by decide)).trans (if_neg (by decide))).trans q957
          have q1005 : a_g A1002 1 = (-1) := ((w1003 1 (by decide) (by decide)).trans (if_neg (by decide))).trans q958
          have q1006 : a_g A1002 2 = (-1) := ((w1003 2 (by decide) (by decide)).trans (if_neg (by decide))).trans q959
          have q1007 : a_g A1002 3 = (-1) := (w1003 3 (by decide) (by decide)).trans (if_pos rfl)
          have z1008 := s1000.1
          have z1008y := s1000.2.1
          have z1008w := s1000.2.2.2.2 z995w
          refine w_inc (c := w_i 4) (fun _ => rfl) (by decide +kernel) (fun _ => rfl) (w_go (w_run k_577548 (w_il (fun _ => rfl) (w_icI (x := 6) rfl (w_gef (by decide) (by decide) (by decide) (by decide) (by decide)  (w_al (fun _ => rfl) ?_))))))
          have m1009 := st_fr s1000 m996 (by decide)
          refine w_getf m1009 rfl (fun _ => rfl) (w_il (fun _ => rfl) (w_icI (x := 0) rfl ?_))
          have m1010 := st_fr s987 s974.2.2.1 (by decide)
          have m1011 := st_fr s1000 m1010 (by decide)
          refine w_astI m1011 (by decide) (by decide) (by decide) (by decide) (by decide) (fun A1014 h1013 w1015 s1012 => ?_)
          have q1016 : a_g A1014 0 = 2 := ((w1015 0 (by decide) (by decide)).trans (if_neg (by decide))).trans q978
          have q1017 : a_g A1014 1 = 5 := ((w1015 1 (by decide) (by decide)).trans (if_neg (by decide))).trans q979
          have q1018 : a_g A1014 2 = 10 := ((w1015 2 (by decide) (by decide)).trans (if_neg (by decide))).trans q980
          have q1019 : a_g A1014 3 = 4 := ((w1015 3 (by decide) (by decide)).trans (if_neg (by decide))).trans q981
          have q1020 : a_g A1014 4 = 0 := (w1015 4 (by decide) (by decide)).trans (if_pos rfl)
          have z1021 := s1012.1
          have z1021y := s1012.2.1
          have z1021w := s1012.2.2.2.2 z1008w
          refine w_il (fun _ => rfl) (w_lezf (by decide) (by decide) (by decide)  (w_il (fun _ => rfl) (w_il (fun _ => rfl) (w_get (by omega) (by omega) (by omega) (by omega) (by omega)  (w_run k_577584 (w_il (fun _ => rfl) (w_icI (x := 1) rfl (w_op (c := w_i 5) (by decide +kernel) (w_il (fun _ => rfl) (w_get (by omega) (by omega) (by omega) (by omega) (by omega)  (w_run k_577605 (w_al (fun _ => rfl) ?_))))))))))))
          have m1022 := st_fr s1012 m1009 (by decide)
          refine w_getf m1022 rfl (fun _ => rfl) (w_il (fun _ => rfl) (w_il (fun _ => rfl) (w_icI (x := 2) rfl (w_opz (c := w_i 0) (by decide +kernel) (by decide +kernel) ?_))))
          have m1023 := st_fr s1000 s987.2.2.1 (by decide)
          have m1024 := st_fr s1012 m1023 (by decide)
          refine w_astI m1024 (by decide) (by decide) (by decide) (by decide) (by decide) (fun A1027 h1026 w1028 s1025 => ?_)
          have q1029 : a_g A1027 0 = 0 := ((w1028 0 (by decide) (by decide)).trans (if_neg (by decide))).trans q991
          have q1030 : a_g A1027 1 = 1 := ((w1028 1 (by decide) (by decide)).trans (if_neg (by decide))).trans q992
          have q1031 : a_g A1027 2 = 0 := ((w1028 2 (by decide) (by decide)).trans (if_neg (by decide))).trans q993
          have q1032 : a_g A1027 3 = 1 := ((w1028 3 (by decide) (by decide)).trans (if_neg (by decide))).trans q994
          have q1033 : a_g A1027 4 = 0 := (w1028 4 (by decide) (by decide)).trans (if_pos rfl)
          have z1034 := s1025.1
          have z1034y := s1025.2.1
          have z1034w := s1025.2.2.2.2 z1021w
          refine w_al (fun _ => rfl) ?_
          have m1035 := st_fr s1025 m1022 (by decide)
          refine w_getf m1035 rfl (fun _ => rfl) (w_il (fun _ => rfl) (w_icI (x := (-1)) wn_1 ?_))
          have m1036 := st_fr s1012 s1000.2.2.1 (by decide)
          have m1037 := st_fr s1025 m1036 (by decide)
          refine w_astI m1037 (by decide) (by decide) (by decide) (by decide) (by decide) (fun A1040 h1039 w1041 s1038 => ?_)
          have q1042 : a_g A1040 0 = (-1) := ((w1041 0 (by decide) (by decide)).trans (if_neg (by decide))).trans q1004
          have q1043 : a_g A1040 1 = (-1) := ((w1041 1 (by decide) (by decide)).trans (if_neg (by decide))).trans q1005
          have q1044 : a_g A1040 2 = (-1) := ((w1041 2 (by decide) (by decide)).trans (if_neg (by decide))).trans q1006
          have q1045 : a_g A1040 3 = (-1) := ((w1041 3 (by decide) (by decide)).trans (if_neg (by decide))).trans q1007
          have q1046 : a_g A1040 4 = (-1) := (w1041 4 (by decide) (by decide)).trans (if_pos rfl)
          have z1047 := s1038.1
          have z1047y := s1038.2.1
          have z1047w := s1038.2.2.2.2 z1034w
          refine w_inc (c := w_i 5) (fun _ => rfl) (by decide +kernel) (fun _ => rfl) (w_go (w_run k_577548 (w_il (fun _ => rfl) (w_icI (x := 6) rfl (w_gef (by decide) (by decide) (by decide) (by decide) (by decide)  (w_al (fun _ => rfl) ?_))))))
          have m1048 := st_fr s1038 m1035 (by decide)
          refine w_getf m1048 rfl (fun _ => rfl) (w_il (fun _ => rfl) (w_icI (x := 0) rfl ?_))
          have m1049 := st_fr s1025 s1012.2.2.1 (by decide)
          have m1050 := st_fr s1038 m1049 (by decide)
          refine w_astI m1050 (by decide) (by decide) (by decide) (by decide) (by decide) (fun A1053 h1052 w1054 s1051 => ?_)
          have q1055 : a_g A1053 0 = 2 := ((w1054 0 (by decide) (by decide)).trans (if_neg (by decide))).trans q1016
          have q1056 : a_g A1053 1 = 5 := ((w1054 1 (by decide) (by decide)).trans (if_neg (by decide))).trans q1017
          have q1057 : a_g A1053 2 = 10 := ((w1054 2 (by decide) (by decide)).trans (if_neg (by decide))).trans q1018
          have q1058 : a_g A1053 3 = 4 := ((w1054 3 (by decide) (by decide)).trans (if_neg (by decide))).trans q1019
          have q1059 : a_g A1053 4 = 0 := ((w1054 4 (by decide) (by decide)).trans (if_neg (by decide))).trans q1020
          have q1060 : a_g A1053 5 = 0 := (w1054 5 (by decide) (by decide)).trans (if_pos rfl)
          have z1061 := s1051.1
          have z1061y := s1051.2.1
          have z1061w := s1051.2.2.2.2 z1047w
          refine w_il (fun _ => rfl) (w_lezf (by decide) (by decide) (by decide)  (w_il (fun _ => rfl) (w_il (fun _ => rfl) (w_get (by omega) (by omega) (by omega) (by omega) (by omega)  (w_run k_577584 (w_il (fun _ => rfl) (w_icI (x := 1) rfl (w_op (c := w_i 6) (by decide +kernel) (w_il (fun _ => rfl) (w_get (by omega) (by omega) (by omega) (by omega) (by omega)  (w_run k_577605 (w_al (fun _ => rfl) ?_))))))))))))
          have m1062 := st_fr s1051 m1048 (by decide)
          refine w_getf m1062 rfl (fun _ => rfl) (w_il (fun _ => rfl) (w_il (fun _ => rfl) (w_icI (x := 2) rfl (w_opz (c := w_i 1) (by decide +kernel) (by decide +kernel) ?_))))
          have m1063 := st_fr s1038 s1025.2.2.1 (by decide)
          have m1064 := st_fr s1051 m1063 (by decide)
          refine w_astI m1064 (by decide) (by decide) (by decide) (by decide) (by decide) (fun A1067 h1066 w1068 s1065 => ?_)
          have q1069 : a_g A1067 0 = 0 := ((w1068 0 (by decide) (by decide)).trans (if_neg (by decide))).trans q1029
          have q1070 : a_g A1067 1 = 1 := ((w1068 1 (by decide) (by decide)).trans (if_neg (by decide))).trans q1030
          have q1071 : a_g A1067 2 = 0 := ((w1068 2 (by decide) (by decide)).trans (if_neg (by decide))).trans q1031
          have q1072 : a_g A1067 3 = 1 := ((w1068 3 (by decide) (by decide)).trans (if_neg (by decide))).trans q1032
          have q1073 : a_g A1067 4 = 0 := ((w1068 4 (by decide) (by decide)).trans (if_neg (by decide))).trans q1033
          have q1074 : a_g A1067 5 = 1 := (w1068 5 (by decide) (by decide)).trans (if_pos rfl)
          have z1075 := s1065.1
          have z1075y := s1065.2.1
          have z1075w := s1065.2.2.2.2 z1061w
          refine w_al (fun _ => rfl) ?_
          have m1076 := st_fr s1065 m1062 (by decide)
          refine w_getf m1076 rfl (fun _ => rfl) (w_il (fun _ => rfl) (w_icI (x := (-1)) wn_1 ?_))
          have m1077 := st_fr s1051 s1038.2.2.1 (by decide)
          have m1078 := st_fr s1065 m1077 (by decide)
          refine w_astI m1078 (by decide) (by decide) (by decide) (by decide) (by decide) (fun A1081 h1080 w1082 s1079 => ?_)
          have q1083 : a_g A1081 0 = (-1) := ((w1082 0 (by decide) (by decide)).trans (if_neg (by decide))).trans q1042
          have q1084 : a_g A1081 1 = (-1) := ((w1082 1 (by decide) (by decide)).trans (if_neg (by decide))).trans q1043
          have q1085 : a_g A1081 2 = (-1) := ((w1082 2 (by decide) (by decide)).trans (if_neg (by decide))).trans q1044
          have q1086 : a_g A1081 3 = (-1) := ((w1082 3 (by decide) (by decide)).trans (if_neg (by decide))).trans q1045
          have q1087 : a_g A1081 4 = (-1) := ((w1082 4 (by decide) (by decide)).trans (if_neg (by decide))).trans q1046
          have q1088 : a_g A1081 5 = (-1) := (w1082 5 (by decide) (by decide)).trans (if_pos rfl)
          have z1089 := s1079.1
          have z1089y := s1079.2.1
          have z1089w := s1079.2.2.2.2 z1075w
          refine w_inc (c := w_i 6) (fun _ => rfl) (by decide +kernel) (fun _ => rfl) (w_go (w_run k_577548 (w_il (fun _ => rfl) (w_icI (x := 6) rfl (w_get (by decide) (by decide) (by decide) (by decide) (by decide)  (w_run k_577627 (w_al (fun _ => rfl) (w_icI (x := 0) rfl ?_))))))))
          have m1090 := st_fr s1079 m1076 (by decide)
          refine w_putf [.inr (.inl (some 32)), .inr (.inl (some 33)), .inr (.inl (some 34)), .inr (.inl (some 35)), .inr (.inl (some 36)), .inl (w_i hh), .inl (w_i c), .inl (w_i 0), .inl (w_i kee14), .inl (w_i (g_mnp g)), .inl (w_i rul14), .inl (w_i (g_mhi g)), .inr (.inl (some 37)), .inr (.inl (some 50)), .inr (.inl (some 51)), .inr (.inl (some 52)), .inr (.inl (some 53)), .inr (.inl (some 54)), .inl (w_i tpd14), .inl (w_i (g_mnt g)), .inl (w_i nxt14), .inl (w_i tok14), .inl (w_i tka14), .inl (w_i val14), .inl (w_i opn14), .inl (w_i hm14), .inl (w_i row14), .inr (.inl (some 55)), .inr (.inl (some 56)), .inr (.inl (some 57)), .inr (.inl (some 58)), .inr (.inl (some 59)), .inr (.inl (some 60)), .inr (.inl (some 61)), .inr (.inl (some 62)), .inl (w_i ksp14), .inl (w_i kke14), .inl (w_i kru14), .inr (.inl (some 63)), .inr (.inl (some 64)), .inr (.inl (some 65)), .inr (.inl (some 66))] m1090 rfl rfl rfl (fun _ => rfl) (fun h1092 s1091 => ?_)
          have z1094 := s1091.1
          have z1094y := s1091.2.1
          have z1094w := s1091.2.2.2.2 z1089w
          refine w_al (fun _ => rfl) (w_icI (x := 0) rfl (w_putf [.inr (.inl (some 32)), .inr (.inl (some 33)), .inr (.inl (some 34)), .inr (.inl (some 35)), .inr (.inl (some 36)), .inl (w_i hh), .inl (w_i c), .inl (w_i 0), .inl (w_i 0), .inl (w_i (g_mnp g)), .inl (w_i rul14), .inl (w_i (g_mhi g)), .inr (.inl (some 37)), .inr (.inl (some 50)), .inr (.inl (some 51)), .inr (.inl (some 52)), .inr (.inl (some 53)), .inr (.inl (some 54)), .inl (w_i tpd14), .inl (w_i (g_mnt g)), .inl (w_i nxt14), .inl (w_i tok14), .inl (w_i tka14), .inl (w_i val14), .inl (w_i opn14), .inl (w_i hm14), .inl (w_i row14), .inr (.inl (some 55)), .inr (.inl (some 56)), .inr (.inl (some 57)), .inr (.inl (some 58)), .inr (.inl (some 59)), .inr (.inl (some 60)), .inr (.inl (some 61)), .inr (.inl (some 62)), .inl (w_i ksp14), .inl (w_i kke14), .inl (w_i kru14), .inr (.inl (some 63)), .inr (.inl (some 64)), .inr (.inl (some 65)), .inr (.inl (some 66))] s1091.2.2.1 rfl rfl rfl (fun _ => rfl) (fun h1096 s1095 => ?_)))
          have z1098 := s1095.1
          have z1098y := s1095.2.1
          have z1098w := s1095.2.2.2.2 z1094w
          refine w_al (fun _ => rfl) (w_icI (x := 0) rfl (w_putf [.inr (.inl (some 32)), .inr (.inl (some 33)), .inr (.inl (some 34)), .inr (.inl (some 35)), .inr (.inl (some 36)), .inl (w_i hh), .inl (w_i c), .inl (w_i 0), .inl (w_i 0), .inl (w_i (g_mnp g)), .inl (w_i rul14), .inl (w_i 0), .inr (.inl (some 37)), .inr (.inl (some 50)), .inr (.inl (some 51)), .inr (.inl (some 52)), .inr (.inl (some 53)), .inr (.inl (some 54)), .inl (w_i tpd14), .inl (w_i (g_mnt g)), .inl (w_i nxt14), .inl (w_i tok14), .inl (w_i tka14), .inl (w_i val14), .inl (w_i opn14), .inl (w_i hm14), .inl (w_i row14), .inr (.inl (some 55)), .inr (.inl (some 56)), .inr (.inl (some 57)), .inr (.inl (some 58)), .inr (.inl (some 59)), .inr (.inl (some 60)), .inr (.inl (some 61)), .inr (.inl (some 62)), .inl (w_i ksp14), .inl (w_i kke14), .inl (w_i kru14), .inr (.inl (some 63)), .inr (.inl (some 64)), .inr (.inl (some 65)), .inr (.inl (some 66))] s1095.2.2.1 rfl rfl rfl (fun _ => rfl) (fun h1100 s1099 => ?_)))
          have z1102 := s1099.1
          have z1102y := s1099.2.1
          have z1102w := s1099.2.2.2.2 z1098w
          refine w_rv ⟨rfl, ?_⟩
          refine w_il (fun _ => rfl) (w_ri ?_)
          have F1 := F.1
          have F2 := F.2.1
          have m1103 := st_fr s1065 s1051.2.2.1 (by decide)
          have m1104 := st_fr s1079 m1103 (by decide)
          have m1105 := st_fr s1091 m1104 (by decide)
          have m1106 := st_fr s1095 m1105 (by decide)
          have m1107 := st_fr s1099 m1106 (by decide)
          have gz : g_mnt (g_mbu g hh c A1053) = g_mnt g := rfl
          have six1108 : ∀ j : Int, 0 ≤ j → j < 6 → 0 ≤ a_g A1053 j ∧ a_g A1053 j ≤ 63 := fun j j0 j1 => by
            rcases (show j = 0 ∨ j = 1 ∨ j = 2 ∨ j = 3 ∨ j = 4 ∨ j = 5 from by omega) with rfl | rfl | rfl | rfl | rfl | rfl
            · rw [q1055]; omega
            · rw [q1056]; omega
            · rw [q1057]; omega
            · rw [q1058]; omega
            · rw [q1059]; omega
            · rw [q1060]; omega
          have m1109 := st_fr s1079 s1065.2.2.1 (by decide)
          have m1110 := st_fr s1091 m1109 (by decide)
          have m1111 := st_fr s1095 m1110 (by decide)
          have m1112 := st_fr s1099 m1111 (by decide)
          have six1113 : ∀ j : Int, 0 ≤ j → j < 6 → 0 ≤ a_g A1067 j ∧ a_g A1067 j < c := fun j j0 j1 => by
            rcases (show j = 0 ∨ j = 1 ∨ j = 2 ∨ j = 3 ∨ j = 4 ∨ j = 5 from by omega) with rfl | rfl | rfl | rfl | rfl | rfl
            · rw [q1069]; omega
            · rw [q1070]; omega
            · rw [q1071]; omega
            · rw [q1072]; omega
            · rw [q1073]; omega
            · rw [q1074]; omega
          have m1114 := st_fr s1091 s1079.2.2.1 (by decide)
          have m1115 := st_fr s1095 m1114 (by decide)
          have m1116 := st_fr s1099 m1115 (by decide)
          have ivn := mbu_fin (e := _) (hh := hh) (c := c) iv (by omega) (by omega) (by omega) (by omega) (by omega) z1102w (by omega) (fun q n31 n32 n33 n34 => (s1099.2.2.2.1 q n31).trans ((s1095.2.2.2.1 q n31).trans ((s1091.2.2.2.1 q n31).trans ((s1079.2.2.2.1 q n34).trans ((s1065.2.2.2.1 q n33).trans ((s1051.2.2.2.1 q n32).trans ((s1038.2.2.2.1 q n34).trans ((s1025.2.2.2.1 q n33).trans ((s1012.2.2.2.1 q n32).trans ((s1000.2.2.2.1 q n34).trans ((s987.2.2.2.1 q n33).trans ((s974.2.2.2.1 q n32).trans ((s964.2.2.2.1 q n32).trans ((s953.2.2.2.1 q n34).trans ((s940.2.2.2.1 q n33).trans ((s927.2.2.2.1 q n32).trans ((s918.2.2.2.1 q n32).trans ((s909.2.2.2.1 q n32).trans ((s899.2.2.2.1 q n34).trans ((s887.2.2.2.1 q n33).trans ((s875.2.2.2.1 q n32).trans ((s867.2.2.2.1 q n32).trans ((s859.2.2.2.1 q n32).trans ((s850.2.2.2.1 q n34).trans ((s838.2.2.2.1 q n33).trans ((s827.2.2.2.1 q n32).trans ((s820.2.2.2.1 q n32).trans ((s814.2.2.2.1 q n31).trans ((s810.2.2.2.1 q n31).trans (rfl)))))))))))))))))))))))))))))) s1099.2.2.1 ⟨_, _, _, _, _, _, _, _, _, _, _, _, _, _, rfl, by omega, by omega, by omega, by omega, by omega, by omega, by omega, by omega, by omega, by omega, by omega, by omega, by omega, by omega, by omega, by omega, by omega, by omega, by omega, by omega, by omega, by omega, by omega, by omega, by omega, by omega, by omega, by omega, by omega, by omega, by omega, by omega, by omega, by omega, by omega, by omega, by omega, by omega⟩ m1107 six1108 m1112 six1113 ⟨_, m1116⟩
          have ttA : w_tt 4 (a_g A1053) := fun j j0 j1 => by
            rcases (show j = 0 ∨ j = 1 ∨ j = 2 ∨ j = 3 ∨ j = 4 ∨ j = 5 from by omega) with rfl | rfl | rfl | rfl | rfl | rfl
            · rw [q1055]; decide +kernel
            · rw [q1056]; decide +kernel
            · rw [q1057]; decide +kernel
            · rw [q1058]; decide +kernel
            · rw [q1059]; decide +kernel
            · rw [q1060]; decide +kernel
          exact k0 _ (g_mbu g hh c A1053) h1100 ivn ch_gmbu (by omega) (by omega) rfl ⟨by omega, by omega, by omega, by omega, by omega⟩ ⟨rfl, rfl, by rw [hk]; exact ttA⟩
        · refine w_al (fun _ => rfl) (w_il (fun _ => rfl) (w_il (fun _ => rfl) (w_this (fun _ => rfl) m14 (w_cv (fun _ => rfl) rfl (w_run k_577536 (w_al (fun _ => rfl) (w_il (fun _ => rfl) (w_putf [.inr (.inl (some 32)), .inr (.inl (some 33)), .inr (.inl (some 34)), .inr (.inl (some 35)), .inr (.inl (some 36)), .inl (w_i hh), .inl (w_i (g_mC g)), .inl (w_i spr14), .inl (w_i kee14), .inl (w_i (g_mnp g)), .inl (w_i rul14), .inl (w_i (g_mhi g)), .inr (.inl (some 37)), .inr (.inl (some 50)), .inr (.inl (some 51)), .inr (.inl (some 52)), .inr (.inl (some 53)), .inr (.inl (some 54)), .inl (w_i tpd14), .inl (w_i (g_mnt g)), .inl (w_i nxt14), .inl (w_i tok14), .inl (w_i tka14), .inl (w_i val14), .inl (w_i opn14), .inl (w_i hm14), .inl (w_i row14), .inr (.inl (some 55)), .inr (.inl (some 56)), .inr (.inl (some 57)), .inr (.inl (some 58)), .inr (.inl (some 59)), .inr (.inl (some 60)), .inr (.inl (some 61)), .inr (.inl (some 62)), .inl (w_i ksp14), .inl (w_i kke14), .inl (w_i kru14), .inr (.inl (some 63)), .inr (.inl (some 64)), .inr (.inl (some 65)), .inr (.inl (some 66))] m14 rfl rfl rfl (fun _ => rfl) (fun h1118 s1117 => ?_)))))))))
          have z1120 := s1117.1
          have z1120y := s1117.2.1
          have z1120w := s1117.2.2.2.2 z18w
          refine w_al (fun _ => rfl) (w_il (fun _ => rfl) (w_putf [.inr (.inl (some 32)), .inr (.inl (some 33)), .inr (.inl (some 34)), .inr (.inl (some 35)), .inr (.inl (some 36)), .inl (w_i hh), .inl (w_i c), .inl (w_i spr14), .inl (w_i kee14), .inl (w_i (g_mnp g)), .inl (w_i rul14), .inl (w_i (g_mhi g)), .inr (.inl (some 37)), .inr (.inl (some 50)), .inr (.inl (some 51)), .inr (.inl (some 52)), .inr (.inl (some 53)), .inr (.inl (some 54)), .inl (w_i tpd14), .inl (w_i (g_mnt g)), .inl (w_i nxt14), .inl (w_i tok14), .inl (w_i tka14), .inl (w_i val14), .inl (w_i opn14), .inl (w_i hm14), .inl (w_i row14), .inr (.inl (some 55)), .inr (.inl (some 56)), .inr (.inl (some 57)), .inr (.inl (some 58)), .inr (.inl (some 59)), .inr (.inl (some 60)), .inr (.inl (some 61)), .inr (.inl (some 62)), .inl (w_i ksp14), .inl (w_i kke14), .inl (w_i kru14), .inr (.inl (some 63)), .inr (.inl (some 64)), .inr (.inl (some 65)), .inr (.inl (some 66))] s1117.2.2.1 rfl rfl rfl (fun _ => rfl) (fun h1122 s1121 => ?_)))
          have z1124 := s1121.1
          have z1124y := s1121.2.1
          have z1124w := s1121.2.2.2.2 z1120w
          refine w_icI (x := 0) rfl (w_is (fun _ => rfl) (w_il (fun _ => rfl) (w_icI (x := 6) rfl (w_gef (by decide) (by decide) (by decide) (by decide) (by decide)  (w_al (fun _ => rfl) (w_getf s1121.2.2.1 rfl (fun _ => rfl) (w_il (fun _ => rfl) (w_icI (x := 0) rfl ?_))))))))
          have m1125 := st_fr s1117 m15 (by decide)
          have m1126 := st_fr s1121 m1125 (by decide)
          refine w_astI m1126 (by decide) (by decide) (by decide) (by decide) (by decide) (fun A1129 h1128 w1130 s1127 => ?_)
          have q1131 : a_g A1129 0 = 0 := (w1130 0 (by decide) (by decide)).trans (if_pos rfl)
          have z1132 := s1127.1
          have z1132y := s1127.2.1
          have z1132w := s1127.2.2.2.2 z1124w
          refine w_il (fun _ => rfl) (w_lezt (by decide) (by decide) (by decide)  (w_run k_577584 (w_il (fun _ => rfl) (w_icI (x := 1) rfl (w_op (c := w_i 1) (by decide +kernel) (w_il (fun _ => rfl) (w_gef (by omega) (by omega) (by omega) (by omega) (by omega)  (w_al (fun _ => rfl) ?_))))))))
          have m1133 := st_fr s1127 s1121.2.2.1 (by decide)
          refine w_getf m1133 rfl (fun _ => rfl) (w_il (fun _ => rfl) (w_dup2 (fun _ => rfl) (fun _ => rfl) (w_aldI s1127.2.2.1 (by decide) (by decide) (by decide) ?_)))
          rw [q1131]
          refine w_icI (x := 1) rfl (w_il (fun _ => rfl) (w_icI (x := 1) rfl (w_op (c := w_i 1) (by decide +kernel) (w_op (c := w_i 2) (by decide +kernel) (w_op (c := w_i 2) (by decide +kernel) (w_astI s1127.2.2.1 (by decide) (by decide) (by decide) (by decide) (by decide) (fun A1136 h1135 w1137 s1134 => ?_)))))))
          have q1138 : a_g A1136 0 = 2 := (w1137 0 (by decide) (by decide)).trans (if_pos rfl)
          have z1139 := s1134.1
          have z1139y := s1134.2.1
          have z1139w := s1134.2.2.2.2 z1132w
          refine w_al (fun _ => rfl) ?_
          have m1140 := st_fr s1134 m1133 (by decide)
          refine w_getf m1140 rfl (fun _ => rfl) (w_il (fun _ => rfl) (w_il (fun _ => rfl) (w_icI (x := 2) rfl (w_opz (c := w_i 0) (by decide +kernel) (by decide +kernel) ?_))))
          have m1141 := st_fr s1117 m16 (by decide)
          have m1142 := st_fr s1121 m1141 (by decide)
          have m1143 := st_fr s1127 m1142 (by decide)
          have m1144 := st_fr s1134 m1143 (by decide)
          refine w_astI m1144 (by decide) (by decide) (by decide) (by decide) (by decide) (fun A1147 h1146 w1148 s1145 => ?_)
          have q1149 : a_g A1147 0 = 0 := (w1148 0 (by decide) (by decide)).trans (if_pos rfl)
          have z1150 := s1145.1
          have z1150y := s1145.2.1
          have z1150w := s1145.2.2.2.2 z1139w
          refine w_al (fun _ => rfl) ?_
          have m1151 := st_fr s1145 m1140 (by decide)
          refine w_getf m1151 rfl (fun _ => rfl) (w_il (fun _ => rfl) (w_icI (x := (-1)) wn_1 ?_))
          have m1152 := st_fr s1117 m17 (by decide)
          have m1153 := st_fr s1121 m1152 (by decide)
          have m1154 := st_fr s1127 m1153 (by decide)
          have m1155 := st_fr s1134 m1154 (by decide)
          have m1156 := st_fr s1145 m1155 (by decide)
          refine w_astI m1156 (by decide) (by decide) (by decide) (by decide) (by decide) (fun A1159 h1158 w1160 s1157 => ?_)
          have q1161 : a_g A1159 0 = (-1) := (w1160 0 (by decide) (by decide)).trans (if_pos rfl)
          have z1162 := s1157.1
          have z1162y := s1157.2.1
          have z1162w := s1157.2.2.2.2 z1150w
          refine w_inc (c := w_i 1) (fun _ => rfl) (by decide +kernel) (fun _ => rfl) (w_go (w_run k_577548 (w_il (fun _ => rfl) (w_icI (x := 6) rfl (w_gef (by decide) (by decide) (by decide) (by decide) (by decide)  (w_al (fun _ => rfl) ?_))))))
          have m1163 := st_fr s1157 m1151 (by decide)
          refine w_getf m1163 rfl (fun _ => rfl) (w_il (fun _ => rfl) (w_icI (x := 0) rfl ?_))
          have m1164 := st_fr s1145 s1134.2.2.1 (by decide)
          have m1165 := st_fr s1157 m1164 (by decide)
          refine w_astI m1165 (by decide) (by decide) (by decide) (by decide) (by decide) (fun A1168 h1167 w1169 s1166 => ?_)
          have q1170 : a_g A1168 0 = 2 := ((w1169 0 (by decide) (by decide)).trans (if_neg (by decide))).trans q1138
          have q1171 : a_g A1168 1 = 0 := (w1169 1 (by decide) (by decide)).trans (if_pos rfl)
          have z1172 := s1166.1
          have z1172y := s1166.2.1
          have z1172w := s1166.2.2.2.2 z1162w
          refine w_il (fun _ => rfl) (w_lezf (by decide) (by decide) (by decide)  (w_il (fun _ => rfl) (w_il (fun _ => rfl) (w_gef (by omega) (by omega) (by omega) (by omega) (by omega)  (w_al (fun _ => rfl) ?_)))))
          have m1173 := st_fr s1166 m1163 (by decide)
          refine w_getf m1173 rfl (fun _ => rfl) (w_il (fun _ => rfl) (w_dup2 (fun _ => rfl) (fun _ => rfl) (w_aldI s1166.2.2.1 (by decide) (by decide) (by decide) ?_)))
          rw [q1171]
          refine w_icI (x := 1) rfl (w_il (fun _ => rfl) (w_icI (x := 1) rfl (w_op (c := w_i 0) (by decide +kernel) (w_op (c := w_i 1) (by decide +kernel) (w_op (c := w_i 1) (by decide +kernel) (w_astI s1166.2.2.1 (by decide) (by decide) (by decide) (by decide) (by decide) (fun A1176 h1175 w1177 s1174 => ?_)))))))
          have q1178 : a_g A1176 0 = 2 := ((w1177 0 (by decide) (by decide)).trans (if_neg (by decide))).trans q1170
          have q1179 : a_g A1176 1 = 1 := (w1177 1 (by decide) (by decide)).trans (if_pos rfl)
          have z1180 := s1174.1
          have z1180y := s1174.2.1
          have z1180w := s1174.2.2.2.2 z1172w
          refine w_il (fun _ => rfl) (w_icI (x := 1) rfl (w_op (c := w_i 2) (by decide +kernel) (w_il (fun _ => rfl) (w_gef (by omega) (by omega) (by omega) (by omega) (by omega)  (w_al (fun _ => rfl) ?_)))))
          have m1181 := st_fr s1174 m1173 (by decide)
          refine w_getf m1181 rfl (fun _ => rfl) (w_il (fun _ => rfl) (w_dup2 (fun _ => rfl) (fun _ => rfl) (w_aldI s1174.2.2.1 (by decide) (by decide) (by decide) ?_)))
          rw [q1179]
          refine w_icI (x := 1) rfl (w_il (fun _ => rfl) (w_icI (x := 1) rfl (w_op (c := w_i 2) (by decide +kernel) (w_op (c := w_i 4) (by decide +kernel) (w_op (c := w_i 5) (by decide +kernel) (w_astI s1174.2.2.1 (by decide) (by decide) (by decide) (by decide) (by decide) (fun A1184 h1183 w1185 s1182 => ?_)))))))
          have q1186 : a_g A1184 0 = 2 := ((w1185 0 (by decide) (by decide)).trans (if_neg (by decide))).trans q1178
          have q1187 : a_g A1184 1 = 5 := (w1185 1 (by decide) (by decide)).trans (if_pos rfl)
          have z1188 := s1182.1
          have z1188y := s1182.2.1
          have z1188w := s1182.2.2.2.2 z1180w
          refine w_al (fun _ => rfl) ?_
          have m1189 := st_fr s1182 m1181 (by decide)
          refine w_getf m1189 rfl (fun _ => rfl) (w_il (fun _ => rfl) (w_il (fun _ => rfl) (w_icI (x := 2) rfl (w_opz (c := w_i 1) (by decide +kernel) (by decide +kernel) ?_))))
          have m1190 := st_fr s1157 s1145.2.2.1 (by decide)
          have m1191 := st_fr s1166 m1190 (by decide)
          have m1192 := st_fr s1174 m1191 (by decide)
          have m1193 := st_fr s1182 m1192 (by decide)
          refine w_astI m1193 (by decide) (by decide) (by decide) (by decide) (by decide) (fun A1196 h1195 w1197 s1194 => ?_)
          have q1198 : a_g A1196 0 = 0 := ((w1197 0 (by decide) (by decide)).trans (if_neg (by decide))).trans q1149
          have q1199 : a_g A1196 1 = 1 := (w1197 1 (by decide) (by decide)).trans (if_pos rfl)
          have z1200 := s1194.1
          have z1200y := s1194.2.1
          have z1200w := s1194.2.2.2.2 z1188w
          refine w_al (fun _ => rfl) ?_
          have m1201 := st_fr s1194 m1189 (by decide)
          refine w_getf m1201 rfl (fun _ => rfl) (w_il (fun _ => rfl) (w_icI (x := (-1)) wn_1 ?_))
          have m1202 := st_fr s1166 s1157.2.2.1 (by decide)
          have m1203 := st_fr s1174 m1202 (by decide)
          have m1204 := st_fr s1182 m1203 (by decide)
          have m1205 := st_fr s1194 m1204 (by decide)
          refine w_astI m1205 (by decide) (by decide) (by decide) (by decide) (by decide) (fun A1208 h1207 w1209 s1206 => ?_)
          have q1210 : a_g A1208 0 = (-1) := ((w1209 0 (by decide) (by decide)).trans (if_neg (by decide))).trans q1161
          have q1211 : a_g A1208 1 = (-1) := (w1209 1 (by decide) (by decide)).trans (if_pos rfl)
          have z1212 := s1206.1
          have z1212y := s1206.2.1
          have z1212w := s1206.2.2.2.2 z1200w
          refine w_inc (c := w_i 2) (fun _ => rfl) (by decide +kernel) (fun _ => rfl) (w_go (w_run k_577548 (w_il (fun _ => rfl) (w_icI (x := 6) rfl (w_gef (by decide) (by decide) (by decide) (by decide) (by decide)  (w_al (fun _ => rfl) ?_))))))
          have m1213 := st_fr s1206 m1201 (by decide)
          refine w_getf m1213 rfl (fun _ => rfl) (w_il (fun _ => rfl) (w_icI (x := 0) rfl ?_))
          have m1214 := st_fr s1194 s1182.2.2.1 (by decide)
          have m1215 := st_fr s1206 m1214 (by decide)
          refine w_astI m1215 (by decide) (by decide) (by decide) (by decide) (by decide) (fun A1218 h1217 w1219 s1216 => ?_)
          have q1220 : a_g A1218 0 = 2 := ((w1219 0 (by decide) (by decide)).trans (if_neg (by decide))).trans q1186
          have q1221 : a_g A1218 1 = 5 := ((w1219 1 (by decide) (by decide)).trans (if_neg (by decide))).trans q1187
          have q1222 : a_g A1218 2 = 0 := (w1219 2 (by decide) (by decide)).trans (if_pos rfl)
          have z1223 := s1216.1
          have z1223y := s1216.2.1
          have z1223w := s1216.2.2.2.2 z1212w
          refine w_il (fun _ => rfl) (w_lezf (by decide) (by decide) (by decide)  (w_il (fun _ => rfl) (w_il (fun _ => rfl) (w_gef (by omega) (by omega) (by omega) (by omega) (by omega)  (w_al (fun _ => rfl) ?_)))))
          have m1224 := st_fr s1216 m1213 (by decide)
          refine w_getf m1224 rfl (fun _ => rfl) (w_il (fun _ => rfl) (w_dup2 (fun _ => rfl) (fun _ => rfl) (w_aldI s1216.2.2.1 (by decide) (by decide) (by decide) ?_)))
          rw [q1222]
          refine w_icI (x := 1) rfl (w_il (fun _ => rfl) (w_icI (x := 1) rfl (w_op (c := w_i 1) (by decide +kernel) (w_op (c := w_i 2) (by decide +kernel) (w_op (c := w_i 2) (by decide +kernel) (w_astI s1216.2.2.1 (by decide) (by decide) (by decide) (by decide) (by decide) (fun A1227 h1226 w1228 s1225 => ?_)))))))
          have q1229 : a_g A1227 0 = 2 := ((w1228 0 (by decide) (by decide)).trans (if_neg (by decide))).trans q1220
          have q1230 : a_g A1227 1 = 5 := ((w1228 1 (by decide) (by decide)).trans (if_neg (by decide))).trans q1221
          have q1231 : a_g A1227 2 = 2 := (w1228 2 (by decide) (by decide)).trans (if_pos rfl)
          have z1232 := s1225.1
          have z1232y := s1225.2.1
          have z1232w := s1225.2.2.2.2 z1223w
          refine w_il (fun _ => rfl) (w_icI (x := 1) rfl (w_op (c := w_i 3) (by decide +kernel) (w_il (fun _ => rfl) (w_gef (by omega) (by omega) (by omega) (by omega) (by omega)  (w_al (fun _ => rfl) ?_)))))
          have m1233 := st_fr s1225 m1224 (by decide)
          refine w_getf m1233 rfl (fun _ => rfl) (w_il (fun _ => rfl) (w_dup2 (fun _ => rfl) (fun _ => rfl) (w_aldI s1225.2.2.1 (by decide) (by decide) (by decide) ?_)))
          rw [q1231]
          refine w_icI (x := 1) rfl (w_il (fun _ => rfl) (w_icI (x := 1) rfl (w_op (c := w_i 3) (by decide +kernel) (w_op (c := w_i 8) (by decide +kernel) (w_op (c := w_i 10) (by decide +kernel) (w_astI s1225.2.2.1 (by decide) (by decide) (by decide) (by decide) (by decide) (fun A1236 h1235 w1237 s1234 => ?_)))))))
          have q1238 : a_g A1236 0 = 2 := ((w1237 0 (by decide) (by decide)).trans (if_neg (by decide))).trans q1229
          have q1239 : a_g A1236 1 = 5 := ((w1237 1 (by decide) (by decide)).trans (if_neg (by decide))).trans q1230
          have q1240 : a_g A1236 2 = 10 := (w1237 2 (by decide) (by decide)).trans (if_pos rfl)
          have z1241 := s1234.1
          have z1241y := s1234.2.1
          have z1241w := s1234.2.2.2.2 z1232w
          refine w_al (fun _ => rfl) ?_
          have m1242 := st_fr s1234 m1233 (by decide)
          refine w_getf m1242 rfl (fun _ => rfl) (w_il (fun _ => rfl) (w_il (fun _ => rfl) (w_icI (x := 2) rfl (w_opz (c := w_i 0) (by decide +kernel) (by decide +kernel) ?_))))
          have m1243 := st_fr s1206 s1194.2.2.1 (by decide)
          have m1244 := st_fr s1216 m1243 (by decide)
          have m1245 := st_fr s1225 m1244 (by decide)
          have m1246 := st_fr s1234 m1245 (by decide)
          refine w_astI m1246 (by decide) (by decide) (by decide) (by decide) (by decide) (fun A1249 h1248 w1250 s1247 => ?_)
          have q1251 : a_g A1249 0 = 0 := ((w1250 0 (by decide) (by decide)).trans (if_neg (by decide))).trans q1198
          have q1252 : a_g A1249 1 = 1 := ((w1250 1 (by decide) (by decide)).trans (if_neg (by decide))).trans q1199
          have q1253 : a_g A1249 2 = 0 := (w1250 2 (by decide) (by decide)).trans (if_pos rfl)
          have z1254 := s1247.1
          have z1254y := s1247.2.1
          have z1254w := s1247.2.2.2.2 z1241w
          refine w_al (fun _ => rfl) ?_
          have m1255 := st_fr s1247 m1242 (by decide)
          refine w_getf m1255 rfl (fun _ => rfl) (w_il (fun _ => rfl) (w_icI (x := (-1)) wn_1 ?_))
          have m1256 := st_fr s1216 s1206.2.2.1 (by decide)
          have m1257 := st_fr s1225 m1256 (by decide)
          have m1258 := st_fr s1234 m1257 (by decide)
          have m1259 := st_fr s1247 m1258 (by decide)
          refine w_astI m1259 (by decide) (by decide) (by decide) (by decide) (by decide) (fun A1262 h1261 w1263 s1260 => ?_)
          have q1264 : a_g A1262 0 = (-1) := ((w1263 0 (by decide) (by decide)).trans (if_neg (by decide))).trans q1210
          have q1265 : a_g A1262 1 = (-1) := ((w1263 1 (by decide) (by decide)).trans (if_neg (by decide))).trans q1211
          have q1266 : a_g A1262 2 = (-1) := (w1263 2 (by decide) (by decide)).trans (if_pos rfl)
          have z1267 := s1260.1
          have z1267y := s1260.2.1
          have z1267w := s1260.2.2.2.2 z1254w
          refine w_inc (c := w_i 3) (fun _ => rfl) (by decide +kernel) (fun _ => rfl) (w_go (w_run k_577548 (w_il (fun _ => rfl) (w_icI (x := 6) rfl (w_gef (by decide) (by decide) (by decide) (by decide) (by decide)  (w_al (fun _ => rfl) ?_))))))
          have m1268 := st_fr s1260 m1255 (by decide)
          refine w_getf m1268 rfl (fun _ => rfl) (w_il (fun _ => rfl) (w_icI (x := 0) rfl ?_))
          have m1269 := st_fr s1247 s1234.2.2.1 (by decide)
          have m1270 := st_fr s1260 m1269 (by decide)
          refine w_astI m1270 (by decide) (by decide) (by decide) (by decide) (by decide) (fun A1273 h1272 w1274 s1271 => ?_)
          have q1275 : a_g A1273 0 = 2 := ((w1274 0 (by decide) (by decide)).trans (if_neg (by decide))).trans q1238
          have q1276 : a_g A1273 1 = 5 := ((w1274 1 (by decide) (by decide)).trans (if_neg (by decide))).trans q1239
          have q1277 : a_g A1273 2 = 10 := ((w1274 2 (by decide) (by decide)).trans (if_neg (by decide))).trans q1240
          have q1278 : a_g A1273 3 = 0 := (w1274 3 (by decide) (by decide)).trans (if_pos rfl)
          have z1279 := s1271.1
          have z1279y := s1271.2.1
          have z1279w := s1271.2.2.2.2 z1267w
          refine w_il (fun _ => rfl) (w_lezf (by decide) (by decide) (by decide)  (w_il (fun _ => rfl) (w_il (fun _ => rfl) (w_gef (by omega) (by omega) (by omega) (by omega) (by omega)  (w_al (fun _ => rfl) ?_)))))
          have m1280 := st_fr s1271 m1268 (by decide)
          refine w_getf m1280 rfl (fun _ => rfl) (w_il (fun _ => rfl) (w_dup2 (fun _ => rfl) (fun _ => rfl) (w_aldI s1271.2.2.1 (by decide) (by decide) (by decide) ?_)))
          rw [q1278]
          refine w_icI (x := 1) rfl (w_il (fun _ => rfl) (w_icI (x := 1) rfl (w_op (c := w_i 2) (by decide +kernel) (w_op (c := w_i 4) (by decide +kernel) (w_op (c := w_i 4) (by decide +kernel) (w_astI s1271.2.2.1 (by decide) (by decide) (by decide) (by decide) (by decide) (fun A1283 h1282 w1284 s1281 => ?_)))))))
          have q1285 : a_g A1283 0 = 2 := ((w1284 0 (by decide) (by decide)).trans (if_neg (by decide))).trans q1275
          have q1286 : a_g A1283 1 = 5 := ((w1284 1 (by decide) (by decide)).trans (if_neg (by decide))).trans q1276
          have q1287 : a_g A1283 2 = 10 := ((w1284 2 (by decide) (by decide)).trans (if_neg (by decide))).trans q1277
          have q1288 : a_g A1283 3 = 4 := (w1284 3 (by decide) (by decide)).trans (if_pos rfl)
          have z1289 := s1281.1
          have z1289y := s1281.2.1
          have z1289w := s1281.2.2.2.2 z1279w
          refine w_il (fun _ => rfl) (w_icI (x := 1) rfl (w_op (c := w_i 4) (by decide +kernel) (w_il (fun _ => rfl) (w_gef (by omega) (by omega) (by omega) (by omega) (by omega)  (w_al (fun _ => rfl) ?_)))))
          have m1290 := st_fr s1281 m1280 (by decide)
          refine w_getf m1290 rfl (fun _ => rfl) (w_il (fun _ => rfl) (w_dup2 (fun _ => rfl) (fun _ => rfl) (w_aldI s1281.2.2.1 (by decide) (by decide) (by decide) ?_)))
          rw [q1288]
          refine w_icI (x := 1) rfl (w_il (fun _ => rfl) (w_icI (x := 1) rfl (w_op (c := w_i 4) (by decide +kernel) (w_op (c := w_i 16) (by decide +kernel) (w_op (c := w_i 20) (by decide +kernel) (w_astI s1281.2.2.1 (by decide) (by decide) (by decide) (by decide) (by decide) (fun A1293 h1292 w1294 s1291 => ?_)))))))
          have q1295 : a_g A1293 0 = 2 := ((w1294 0 (by decide) (by decide)).trans (if_neg (by decide))).trans q1285
          have q1296 : a_g A1293 1 = 5 := ((w1294 1 (by decide) (by decide)).trans (if_neg (by decide))).trans q1286
          have q1297 : a_g A1293 2 = 10 := ((w1294 2 (by decide) (by decide)).trans (if_neg (by decide))).trans q1287
          have q1298 : a_g A1293 3 = 20 := (w1294 3 (by decide) (by decide)).trans (if_pos rfl)
          have z1299 := s1291.1
          have z1299y := s1291.2.1
          have z1299w := s1291.2.2.2.2 z1289w
          refine w_al (fun _ => rfl) ?_
          have m1300 := st_fr s1291 m1290 (by decide)
          refine w_getf m1300 rfl (fun _ => rfl) (w_il (fun _ => rfl) (w_il (fun _ => rfl) (w_icI (x := 2) rfl (w_opz (c := w_i 1) (by decide +kernel) (by decide +kernel) ?_))))
          have m1301 := st_fr s1260 s1247.2.2.1 (by decide)
          have m1302 := st_fr s1271 m1301 (by decide)
          have m1303 := st_fr s1281 m1302 (by decide)
          have m1304 := st_fr s1291 m1303 (by decide)
          refine w_astI m1304 (by decide) (by decide) (by decide) (by decide) (by decide) (fun A1307 h1306 w1308 s1305 => ?_)
          have q1309 : a_g A1307 0 = 0 := ((w1308 0 (by decide) (by decide)).trans (if_neg (by decide))).trans q1251
          have q1310 : a_g A1307 1 = 1 := ((w1308 1 (by decide) (by decide)).trans (if_neg (by decide))).trans q1252
          have q1311 : a_g A1307 2 = 0 := ((w1308 2 (by decide) (by decide)).trans (if_neg (by decide))).trans q1253
          have q1312 : a_g A1307 3 = 1 := (w1308 3 (by decide) (by decide)).trans (if_pos rfl)
          have z1313 := s1305.1
          have z1313y := s1305.2.1
          have z1313w := s1305.2.2.2.2 z1299w
          refine w_al (fun _ => rfl) ?_
          have m1314 := st_fr s1305 m1300 (by decide)
          refine w_getf m1314 rfl (fun _ => rfl) (w_il (fun _ => rfl) (w_icI (x := (-1)) wn_1 ?_))
          have m1315 := st_fr s1271 s1260.2.2.1 (by decide)
          have m1316 := st_fr s1281 m1315 (by decide)
          have m1317 := st_fr s1291 m1316 (by decide)
          have m1318 := st_fr s1305 m1317 (by decide)
          refine w_astI m1318 (by decide) (by decide) (by decide) (by decide) (by decide) (fun A1321 h1320 w1322 s1319 => ?_)
          have q1323 : a_g A1321 0 = (-1) := ((w1322 0 (by decide) (by decide)).trans (if_neg (by decide))).trans q1264
          have q1324 : a_g A1321 1 = (-1) := ((w1322 1 (by decide) (by decide)).trans (if_neg (by decide))).trans q1265
          have q1325 : a_g A1321 2 = (-1) := ((w1322 2 (by decide) (by decide)).trans (if_neg (by decide))).trans q1266
          have q1326 : a_g A1321 3 = (-1) := (w1322 3 (by decide) (by decide)).trans (if_pos rfl)
          have z1327 := s1319.1
          have z1327y := s1319.2.1
          have z1327w := s1319.2.2.2.2 z1313w
          refine w_inc (c := w_i 4) (fun _ => rfl) (by decide +kernel) (fun _ => rfl) (w_go (w_run k_577548 (w_il (fun _ => rfl) (w_icI (x := 6) rfl (w_gef (by decide) (by decide) (by decide) (by decide) (by decide)  (w_al (fun _ => rfl) ?_))))))
          have m1328 := st_fr s1319 m1314 (by decide)
          refine w_getf m1328 rfl (fun _ => rfl) (w_il (fun _ => rfl) (w_icI (x := 0) rfl ?_))
          have m1329 := st_fr s1305 s1291.2.2.1 (by decide)
          have m1330 := st_fr s1319 m1329 (by decide)
          refine w_astI m1330 (by decide) (by decide) (by decide) (by decide) (by decide) (fun A1333 h1332 w1334 s1331 => ?_)
          have q1335 : a_g A1333 0 = 2 := ((w1334 0 (by decide) (by decide)).trans (if_neg (by decide))).trans q1295
          have q1336 : a_g A1333 1 = 5 := ((w1334 1 (by decide) (by decide)).trans (if_neg (by decide))).trans q1296
          have q1337 : a_g A1333 2 = 10 := ((w1334 2 (by decide) (by decide)).trans (if_neg (by decide))).trans q1297
          have q1338 : a_g A1333 3 = 20 := ((w1334 3 (by decide) (by decide)).trans (if_neg (by decide))).trans q1298
          have q1339 : a_g A1333 4 = 0 := (w1334 4 (by decide) (by decide)).trans (if_pos rfl)
          have z1340 := s1331.1
          have z1340y := s1331.2.1
          have z1340w := s1331.2.2.2.2 z1327w
          refine w_il (fun _ => rfl) (w_lezf (by decide) (by decide) (by decide)  (w_il (fun _ => rfl) (w_il (fun _ => rfl) (w_gef (by omega) (by omega) (by omega) (by omega) (by omega)  (w_al (fun _ => rfl) ?_)))))
          have m1341 := st_fr s1331 m1328 (by decide)
          refine w_getf m1341 rfl (fun _ => rfl) (w_il (fun _ => rfl) (w_dup2 (fun _ => rfl) (fun _ => rfl) (w_aldI s1331.2.2.1 (by decide) (by decide) (by decide) ?_)))
          rw [q1339]
          refine w_icI (x := 1) rfl (w_il (fun _ => rfl) (w_icI (x := 1) rfl (w_op (c := w_i 3) (by decide +kernel) (w_op (c := w_i 8) (by decide +kernel) (w_op (c := w_i 8) (by decide +kernel) (w_astI s1331.2.2.1 (by decide) (by decide) (by decide) (by decide) (by decide) (fun A1344 h1343 w1345 s1342 => ?_)))))))
          have q1346 : a_g A1344 0 = 2 := ((w1345 0 (by decide) (by decide)).trans (if_neg (by decide))).trans q1335
          have q1347 : a_g A1344 1 = 5 := ((w1345 1 (by decide) (by decide)).trans (if_neg (by decide))).trans q1336
          have q1348 : a_g A1344 2 = 10 := ((w1345 2 (by decide) (by decide)).trans (if_neg (by decide))).trans q1337
          have q1349 : a_g A1344 3 = 20 := ((w1345 3 (by decide) (by decide)).trans (if_neg (by decide))).trans q1338
          have q1350 : a_g A1344 4 = 8 := (w1345 4 (by decide) (by decide)).trans (if_pos rfl)
          have z1351 := s1342.1
          have z1351y := s1342.2.1
          have z1351w := s1342.2.2.2.2 z1340w
          refine w_il (fun _ => rfl) (w_icI (x := 1) rfl (w_op (c := w_i 5) (by decide +kernel) (w_il (fun _ => rfl) (w_get (by omega) (by omega) (by omega) (by omega) (by omega)  (w_run k_577605 (w_al (fun _ => rfl) ?_))))))
          have m1352 := st_fr s1342 m1341 (by decide)
          refine w_getf m1352 rfl (fun _ => rfl) (w_il (fun _ => rfl) (w_il (fun _ => rfl) (w_icI (x := 2) rfl (w_opz (c := w_i 0) (by decide +kernel) (by decide +kernel) ?_))))
          have m1353 := st_fr s1319 s1305.2.2.1 (by decide)
          have m1354 := st_fr s1331 m1353 (by decide)
          have m1355 := st_fr s1342 m1354 (by decide)
          refine w_astI m1355 (by decide) (by decide) (by decide) (by decide) (by decide) (fun A1358 h1357 w1359 s1356 => ?_)
          have q1360 : a_g A1358 0 = 0 := ((w1359 0 (by decide) (by decide)).trans (if_neg (by decide))).trans q1309
          have q1361 : a_g A1358 1 = 1 := ((w1359 1 (by decide) (by decide)).trans (if_neg (by decide))).trans q1310
          have q1362 : a_g A1358 2 = 0 := ((w1359 2 (by decide) (by decide)).trans (if_neg (by decide))).trans q1311
          have q1363 : a_g A1358 3 = 1 := ((w1359 3 (by decide) (by decide)).trans (if_neg (by decide))).trans q1312
          have q1364 : a_g A1358 4 = 0 := (w1359 4 (by decide) (by decide)).trans (if_pos rfl)
          have z1365 := s1356.1
          have z1365y := s1356.2.1
          have z1365w := s1356.2.2.2.2 z1351w
          refine w_al (fun _ => rfl) ?_
          have m1366 := st_fr s1356 m1352 (by decide)
          refine w_getf m1366 rfl (fun _ => rfl) (w_il (fun _ => rfl) (w_icI (x := (-1)) wn_1 ?_))
          have m1367 := st_fr s1331 s1319.2.2.1 (by decide)
          have m1368 := st_fr s1342 m1367 (by decide)
          have m1369 := st_fr s1356 m1368 (by decide)
          refine w_astI m1369 (by decide) (by decide) (by decide) (by decide) (by decide) (fun A1372 h1371 w1373 s1370 => ?_)
          have q1374 : a_g A1372 0 = (-1) := ((w1373 0 (by decide) (by decide)).trans (if_neg (by decide))).trans q1323
          have q1375 : a_g A1372 1 = (-1) := ((w1373 1 (by decide) (by decide)).trans (if_neg (by decide))).trans q1324
          have q1376 : a_g A1372 2 = (-1) := ((w1373 2 (by decide) (by decide)).trans (if_neg (by decide))).trans q1325
          have q1377 : a_g A1372 3 = (-1) := ((w1373 3 (by decide) (by decide)).trans (if_neg (by decide))).trans q1326
          have q1378 : a_g A1372 4 = (-1) := (w1373 4 (by decide) (by decide)).trans (if_pos rfl)
          have z1379 := s1370.1
          have z1379y := s1370.2.1
          have z1379w := s1370.2.2.2.2 z1365w
          refine w_inc (c := w_i 5) (fun _ => rfl) (by decide +kernel) (fun _ => rfl) (w_go (w_run k_577548 (w_il (fun _ => rfl) (w_icI (x := 6) rfl (w_gef (by decide) (by decide) (by decide) (by decide) (by decide)  (w_al (fun _ => rfl) ?_))))))
          have m1380 := st_fr s1370 m1366 (by decide)
          refine w_getf m1380 rfl (fun _ => rfl) (w_il (fun _ => rfl) (w_icI (x := 0) rfl ?_))
          have m1381 := st_fr s1356 s1342.2.2.1 (by decide)
          have m1382 := st_fr s1370 m1381 (by decide)
          refine w_astI m1382 (by decide) (by decide) (by decide) (by decide) (by decide) (fun A1385 h1384 w1386 s1383 => ?_)
          have q1387 : a_g A1385 0 = 2 := ((w1386 0 (by decide) (by decide)).trans (if_neg (by decide))).trans q1346
          have q1388 : a_g A1385 1 = 5 := ((w1386 1 (by decide) (by decide)).trans (if_neg (by decide))).trans q1347
          have q1389 : a_g A1385 2 = 10 := ((w1386 2 (by decide) (by decide)).trans (if_neg (by decide))).trans q1348
          have q1390 : a_g A1385 3 = 20 := ((w1386 3 (by decide) (by decide)).trans (if_neg (by decide))).trans q1349
          have q1391 : a_g A1385 4 = 8 := ((w1386 4 (by decide) (by decide)).trans (if_neg (by decide))).trans q1350
          have q1392 : a_g A1385 5 = 0 := (w1386 5 (by decide) (by decide)).trans (if_pos rfl)
          have z1393 := s1383.1
          have z1393y := s1383.2.1
          have z1393w := s1383.2.2.2.2 z1379w
          refine w_il (fun _ => rfl) (w_lezf (by decide) (by decide) (by decide)  (w_il (fun _ => rfl) (w_il (fun _ => rfl) (w_get (by omega) (by omega) (by omega) (by omega) (by omega)  (w_run k_577584 (w_il (fun _ => rfl) (w_icI (x := 1) rfl (w_op (c := w_i 6) (by decide +kernel) (w_il (fun _ => rfl) (w_get (by omega) (by omega) (by omega) (by omega) (by omega)  (w_run k_577605 (w_al (fun _ => rfl) ?_))))))))))))
          have m1394 := st_fr s1383 m1380 (by decide)
          refine w_getf m1394 rfl (fun _ => rfl) (w_il (fun _ => rfl) (w_il (fun _ => rfl) (w_icI (x := 2) rfl (w_opz (c := w_i 1) (by decide +kernel) (by decide +kernel) ?_))))
          have m1395 := st_fr s1370 s1356.2.2.1 (by decide)
          have m1396 := st_fr s1383 m1395 (by decide)
          refine w_astI m1396 (by decide) (by decide) (by decide) (by decide) (by decide) (fun A1399 h1398 w1400 s1397 => ?_)
          have q1401 : a_g A1399 0 = 0 := ((w1400 0 (by decide) (by decide)).trans (if_neg (by decide))).trans q1360
          have q1402 : a_g A1399 1 = 1 := ((w1400 1 (by decide) (by decide)).trans (if_neg (by decide))).trans q1361
          have q1403 : a_g A1399 2 = 0 := ((w1400 2 (by decide) (by decide)).trans (if_neg (by decide))).trans q1362
          have q1404 : a_g A1399 3 = 1 := ((w1400 3 (by decide) (by decide)).trans (if_neg (by decide))).trans q1363
          have q1405 : a_g A1399 4 = 0 := ((w1400 4 (by decide) (by decide)).trans (if_neg (by decide))).trans q1364
          have q1406 : a_g A1399 5 = 1 := (w1400 5 (by decide) (by decide)).trans (if_pos rfl)
          have z1407 := s1397.1
          have z1407y := s1397.2.1
          have z1407w := s1397.2.2.2.2 z1393w
          refine w_al (fun _ => rfl) ?_
          have m1408 := st_fr s1397 m1394 (by decide)
          refine w_getf m1408 rfl (fun _ => rfl) (w_il (fun _ => rfl) (w_icI (x := (-1)) wn_1 ?_))
          have m1409 := st_fr s1383 s1370.2.2.1 (by decide)
          have m1410 := st_fr s1397 m1409 (by decide)
          refine w_astI m1410 (by decide) (by decide) (by decide) (by decide) (by decide) (fun A1413 h1412 w1414 s1411 => ?_)
          have q1415 : a_g A1413 0 = (-1) := ((w1414 0 (by decide) (by decide)).trans (if_neg (by decide))).trans q1374
          have q1416 : a_g A1413 1 = (-1) := ((w1414 1 (by decide) (by decide)).trans (if_neg (by decide))).trans q1375
          have q1417 : a_g A1413 2 = (-1) := ((w1414 2 (by decide) (by decide)).trans (if_neg (by decide))).trans q1376
          have q1418 : a_g A1413 3 = (-1) := ((w1414 3 (by decide) (by decide)).trans (if_neg (by decide))).trans q1377
          have q1419 : a_g A1413 4 = (-1) := ((w1414 4 (by decide) (by decide)).trans (if_neg (by decide))).trans q1378
          have q1420 : a_g A1413 5 = (-1) := (w1414 5 (by decide) (by decide)).trans (if_pos rfl)
          have z1421 := s1411.1
          have z1421y := s1411.2.1
          have z1421w := s1411.2.2.2.2 z1407w
          refine w_inc (c := w_i 6) (fun _ => rfl) (by decide +kernel) (fun _ => rfl) (w_go (w_run k_577548 (w_il (fun _ => rfl) (w_icI (x := 6) rfl (w_get (by decide) (by decide) (by decide) (by decide) (by decide)  (w_run k_577627 (w_al (fun _ => rfl) (w_icI (x := 0) rfl ?_))))))))
          have m1422 := st_fr s1411 m1408 (by decide)
          refine w_putf [.inr (.inl (some 32)), .inr (.inl (some 33)), .inr (.inl (some 34)), .inr (.inl (some 35)), .inr (.inl (some 36)), .inl (w_i hh), .inl (w_i c), .inl (w_i 0), .inl (w_i kee14), .inl (w_i (g_mnp g)), .inl (w_i rul14), .inl (w_i (g_mhi g)), .inr (.inl (some 37)), .inr (.inl (some 50)), .inr (.inl (some 51)), .inr (.inl (some 52)), .inr (.inl (some 53)), .inr (.inl (some 54)), .inl (w_i tpd14), .inl (w_i (g_mnt g)), .inl (w_i nxt14), .inl (w_i tok14), .inl (w_i tka14), .inl (w_i val14), .inl (w_i opn14), .inl (w_i hm14), .inl (w_i row14), .inr (.inl (some 55)), .inr (.inl (some 56)), .inr (.inl (some 57)), .inr (.inl (some 58)), .inr (.inl (some 59)), .inr (.inl (some 60)), .inr (.inl (some 61)), .inr (.inl (some 62)), .inl (w_i ksp14), .inl (w_i kke14), .inl (w_i kru14), .inr (.inl (some 63)), .inr (.inl (some 64)), .inr (.inl (some 65)), .inr (.inl (some 66))] m1422 rfl rfl rfl (fun _ => rfl) (fun h1424 s1423 => ?_)
          have z1426 := s1423.1
          have z1426y := s1423.2.1
          have z1426w := s1423.2.2.2.2 z1421w
          refine w_al (fun _ => rfl) (w_icI (x := 0) rfl (w_putf [.inr (.inl (some 32)), .inr (.inl (some 33)), .inr (.inl (some 34)), .inr (.inl (some 35)), .inr (.inl (some 36)), .inl (w_i hh), .inl (w_i c), .inl (w_i 0), .inl (w_i 0), .inl (w_i (g_mnp g)), .inl (w_i rul14), .inl (w_i (g_mhi g)), .inr (.inl (some 37)), .inr (.inl (some 50)), .inr (.inl (some 51)), .inr (.inl (some 52)), .inr (.inl (some 53)), .inr (.inl (some 54)), .inl (w_i tpd14), .inl (w_i (g_mnt g)), .inl (w_i nxt14), .inl (w_i tok14), .inl (w_i tka14), .inl (w_i val14), .inl (w_i opn14), .inl (w_i hm14), .inl (w_i row14), .inr (.inl (some 55)), .inr (.inl (some 56)), .inr (.inl (some 57)), .inr (.inl (some 58)), .inr (.inl (some 59)), .inr (.inl (some 60)), .inr (.inl (some 61)), .inr (.inl (some 62)), .inl (w_i ksp14), .inl (w_i kke14), .inl (w_i kru14), .inr (.inl (some 63)), .inr (.inl (some 64)), .inr (.inl (some 65)), .inr (.inl (some 66))] s1423.2.2.1 rfl rfl rfl (fun _ => rfl) (fun h1428 s1427 => ?_)))
          have z1430 := s1427.1
          have z1430y := s1427.2.1
          have z1430w := s1427.2.2.2.2 z1426w
          refine w_al (fun _ => rfl) (w_icI (x := 0) rfl (w_putf [.inr (.inl (some 32)), .inr (.inl (some 33)), .inr (.inl (some 34)), .inr (.inl (some 35)), .inr (.inl (some 36)), .inl (w_i hh), .inl (w_i c), .inl (w_i 0), .inl (w_i 0), .inl (w_i (g_mnp g)), .inl (w_i rul14), .inl (w_i 0), .inr (.inl (some 37)), .inr (.inl (some 50)), .inr (.inl (some 51)), .inr (.inl (some 52)), .inr (.inl (some 53)), .inr (.inl (some 54)), .inl (w_i tpd14), .inl (w_i (g_mnt g)), .inl (w_i nxt14), .inl (w_i tok14), .inl (w_i tka14), .inl (w_i val14), .inl (w_i opn14), .inl (w_i hm14), .inl (w_i row14), .inr (.inl (some 55)), .inr (.inl (some 56)), .inr (.inl (some 57)), .inr (.inl (some 58)), .inr (.inl (some 59)), .inr (.inl (some 60)), .inr (.inl (some 61)), .inr (.inl (some 62)), .inl (w_i ksp14), .inl (w_i kke14), .inl (w_i kru14), .inr (.inl (some 63)), .inr (.inl (some 64)), .inr (.inl (some 65)), .inr (.inl (some 66))] s1427.2.2.1 rfl rfl rfl (fun _ => rfl) (fun h1432 s1431 => ?_)))
          have z1434 := s1431.1
          have z1434y := s1431.2.1
          have z1434w := s1431.2.2.2.2 z1430w
          refine w_rv ⟨rfl, ?_⟩
          refine w_il (fun _ => rfl) (w_ri ?_)
          have F1 := F.1
          have F2 := F.2.1
          have m1435 := st_fr s1397 s1383.2.2.1 (by decide)
          have m1436 := st_fr s1411 m1435 (by decide)
          have m1437 := st_fr s1423 m1436 (by decide)
          have m1438 := st_fr s1427 m1437 (by decide)
          have m1439 := st_fr s1431 m1438 (by decide)
          have gz : g_mnt (g_mbu g hh c A1385) = g_mnt g := rfl
          have six1440 : ∀ j : Int, 0 ≤ j → j < 6 → 0 ≤ a_g A1385 j ∧ a_g A1385 j ≤ 63 := fun j j0 j1 => by
            rcases (show j = 0 ∨ j = 1 ∨ j = 2 ∨ j = 3 ∨ j = 4 ∨ j = 5 from by omega) with rfl | rfl | rfl | rfl | rfl | rfl
            · rw [q1387]; omega
            · rw [q1388]; omega
            · rw [q1389]; omega
            · rw [q1390]; omega
            · rw [q1391]; omega
            · rw [q1392]; omega
          have m1441 := st_fr s1411 s1397.2.2.1 (by decide)
          have m1442 := st_fr s1423 m1441 (by decide)
          have m1443 := st_fr s1427 m1442 (by decide)
          have m1444 := st_fr s1431 m1443 (by decide)
          have six1445 : ∀ j : Int, 0 ≤ j → j < 6 → 0 ≤ a_g A1399 j ∧ a_g A1399 j < c := fun j j0 j1 => by
            rcases (show j = 0 ∨ j = 1 ∨ j = 2 ∨ j = 3 ∨ j = 4 ∨ j = 5 from by omega) with rfl | rfl | rfl | rfl | rfl | rfl
            · rw [q1401]; omega
            · rw [q1402]; omega
            · rw [q1403]; omega
            · rw [q1404]; omega
            · rw [q1405]; omega
            · rw [q1406]; omega
          have m1446 := st_fr s1423 s1411.2.2.1 (by decide)
          have m1447 := st_fr s1427 m1446 (by decide)
          have m1448 := st_fr s1431 m1447 (by decide)
          have ivn := mbu_fin (e := _) (hh := hh) (c := c) iv (by omega) (by omega) (by omega) (by omega) (by omega) z1434w (by omega) (fun q n31 n32 n33 n34 => (s1431.2.2.2.1 q n31).trans ((s1427.2.2.2.1 q n31).trans ((s1423.2.2.2.1 q n31).trans ((s1411.2.2.2.1 q n34).trans ((s1397.2.2.2.1 q n33).trans ((s1383.2.2.2.1 q n32).trans ((s1370.2.2.2.1 q n34).trans ((s1356.2.2.2.1 q n33).trans ((s1342.2.2.2.1 q n32).trans ((s1331.2.2.2.1 q n32).trans ((s1319.2.2.2.1 q n34).trans ((s1305.2.2.2.1 q n33).trans ((s1291.2.2.2.1 q n32).trans ((s1281.2.2.2.1 q n32).trans ((s1271.2.2.2.1 q n32).trans ((s1260.2.2.2.1 q n34).trans ((s1247.2.2.2.1 q n33).trans ((s1234.2.2.2.1 q n32).trans ((s1225.2.2.2.1 q n32).trans ((s1216.2.2.2.1 q n32).trans ((s1206.2.2.2.1 q n34).trans ((s1194.2.2.2.1 q n33).trans ((s1182.2.2.2.1 q n32).trans ((s1174.2.2.2.1 q n32).trans ((s1166.2.2.2.1 q n32).trans ((s1157.2.2.2.1 q n34).trans ((s1145.2.2.2.1 q n33).trans ((s1134.2.2.2.1 q n32).trans ((s1127.2.2.2.1 q n32).trans ((s1121.2.2.2.1 q n31).trans ((s1117.2.2.2.1 q n31).trans (rfl)))))))))))))))))))))))))))))))) s1431.2.2.1 ⟨_, _, _, _, _, _, _, _, _, _, _, _, _, _, rfl, by omega, by omega, by omega, by omega, by omega, by omega, by omega, by omega, by omega, by omega, by omega, by omega, by omega, by omega, by omega, by omega, by omega, by omega, by omega, by omega, by omega, by omega, by omega, by omega, by omega, by omega, by omega, by omega, by omega, by omega, by omega, by omega, by omega, by omega, by omega, by omega, by omega, by omega⟩ m1439 six1440 m1444 six1445 ⟨_, m1448⟩
          have ttA : w_tt 5 (a_g A1385) := fun j j0 j1 => by
            rcases (show j = 0 ∨ j = 1 ∨ j = 2 ∨ j = 3 ∨ j = 4 ∨ j = 5 from by omega) with rfl | rfl | rfl | rfl | rfl | rfl
            · rw [q1387]; decide +kernel
            · rw [q1388]; decide +kernel
            · rw [q1389]; decide +kernel
            · rw [q1390]; decide +kernel
            · rw [q1391]; decide +kernel
            · rw [q1392]; decide +kernel
          exact k0 _ (g_mbu g hh c A1385) h1432 ivn ch_gmbu (by omega) (by omega) rfl ⟨by omega, by omega, by omega, by omega, by omega⟩ ⟨rfl, rfl, by rw [hk]; exact ttA⟩
        · refine w_al (fun _ => rfl) (w_il (fun _ => rfl) (w_il (fun _ => rfl) (w_this (fun _ => rfl) m14 (w_cv (fun _ => rfl) rfl (w_run k_577536 (w_al (fun _ => rfl) (w_il (fun _ => rfl) (w_putf [.inr (.inl (some 32)), .inr (.inl (some 33)), .inr (.inl (some 34)), .inr (.inl (some 35)), .inr (.inl (some 36)), .inl (w_i hh), .inl (w_i (g_mC g)), .inl (w_i spr14), .inl (w_i kee14), .inl (w_i (g_mnp g)), .inl (w_i rul14), .inl (w_i (g_mhi g)), .inr (.inl (some 37)), .inr (.inl (some 50)), .inr (.inl (some 51)), .inr (.inl (some 52)), .inr (.inl (some 53)), .inr (.inl (some 54)), .inl (w_i tpd14), .inl (w_i (g_mnt g)), .inl (w_i nxt14), .inl (w_i tok14), .inl (w_i tka14), .inl (w_i val14), .inl (w_i opn14), .inl (w_i hm14), .inl (w_i row14), .inr (.inl (some 55)), .inr (.inl (some 56)), .inr (.inl (some 57)), .inr (.inl (some 58)), .inr (.inl (some 59)), .inr (.inl (some 60)), .inr (.inl (some 61)), .inr (.inl (some 62)), .inl (w_i ksp14), .inl (w_i kke14), .inl (w_i kru14), .inr (.inl (some 63)), .inr (.inl (some 64)), .inr (.inl (some 65)), .inr (.inl (some 66))] m14 rfl rfl rfl (fun _ => rfl) (fun h1450 s1449 => ?_)))))))))
          have z1452 := s1449.1
          have z1452y := s1449.2.1
          have z1452w := s1449.2.2.2.2 z18w
          refine w_al (fun _ => rfl) (w_il (fun _ => rfl) (w_putf [.inr (.inl (some 32)), .inr (.inl (some 33)), .inr (.inl (some 34)), .inr (.inl (some 35)), .inr (.inl (some 36)), .inl (w_i hh), .inl (w_i c), .inl (w_i spr14), .inl (w_i kee14), .inl (w_i (g_mnp g)), .inl (w_i rul14), .inl (w_i (g_mhi g)), .inr (.inl (some 37)), .inr (.inl (some 50)), .inr (.inl (some 51)), .inr (.inl (some 52)), .inr (.inl (some 53)), .inr (.inl (some 54)), .inl (w_i tpd14), .inl (w_i (g_mnt g)), .inl (w_i nxt14), .inl (w_i tok14), .inl (w_i tka14), .inl (w_i val14), .inl (w_i opn14), .inl (w_i hm14), .inl (w_i row14), .inr (.inl (some 55)), .inr (.inl (some 56)), .inr (.inl (some 57)), .inr (.inl (some 58)), .inr (.inl (some 59)), .inr (.inl (some 60)), .inr (.inl (some 61)), .inr (.inl (some 62)), .inl (w_i ksp14), .inl (w_i kke14), .inl (w_i kru14), .inr (.inl (some 63)), .inr (.inl (some 64)), .inr (.inl (some 65)), .inr (.inl (some 66))] s1449.2.2.1 rfl rfl rfl (fun _ => rfl) (fun h1454 s1453 => ?_)))
          have z1456 := s1453.1
          have z1456y := s1453.2.1
          have z1456w := s1453.2.2.2.2 z1452w
          refine w_icI (x := 0) rfl (w_is (fun _ => rfl) (w_il (fun _ => rfl) (w_icI (x := 6) rfl (w_gef (by decide) (by decide) (by decide) (by decide) (by decide)  (w_al (fun _ => rfl) (w_getf s1453.2.2.1 rfl (fun _ => rfl) (w_il (fun _ => rfl) (w_icI (x := 0) rfl ?_))))))))
          have m1457 := st_fr s1449 m15 (by decide)
          have m1458 := st_fr s1453 m1457 (by decide)
          refine w_astI m1458 (by decide) (by decide) (by decide) (by decide) (by decide) (fun A1461 h1460 w1462 s1459 => ?_)
          have q1463 : a_g A1461 0 = 0 := (w1462 0 (by decide) (by decide)).trans (if_pos rfl)
          have z1464 := s1459.1
          have z1464y := s1459.2.1
          have z1464w := s1459.2.2.2.2 z1456w
          refine w_il (fun _ => rfl) (w_lezt (by decide) (by decide) (by decide)  (w_run k_577584 (w_il (fun _ => rfl) (w_icI (x := 1) rfl (w_op (c := w_i 1) (by decide +kernel) (w_il (fun _ => rfl) (w_gef (by omega) (by omega) (by omega) (by omega) (by omega)  (w_al (fun _ => rfl) ?_))))))))
          have m1465 := st_fr s1459 s1453.2.2.1 (by decide)
          refine w_getf m1465 rfl (fun _ => rfl) (w_il (fun _ => rfl) (w_dup2 (fun _ => rfl) (fun _ => rfl) (w_aldI s1459.2.2.1 (by decide) (by decide) (by decide) ?_)))
          rw [q1463]
          refine w_icI (x := 1) rfl (w_il (fun _ => rfl) (w_icI (x := 1) rfl (w_op (c := w_i 1) (by decide +kernel) (w_op (c := w_i 2) (by decide +kernel) (w_op (c := w_i 2) (by decide +kernel) (w_astI s1459.2.2.1 (by decide) (by decide) (by decide) (by decide) (by decide) (fun A1468 h1467 w1469 s1466 => ?_)))))))
          have q1470 : a_g A1468 0 = 2 := (w1469 0 (by decide) (by decide)).trans (if_pos rfl)
          have z1471 := s1466.1
          have z1471y := s1466.2.1
          have z1471w := s1466.2.2.2.2 z1464w
          refine w_al (fun _ => rfl) ?_
          have m1472 := st_fr s1466 m1465 (by decide)
          refine w_getf m1472 rfl (fun _ => rfl) (w_il (fun _ => rfl) (w_il (fun _ => rfl) (w_icI (x := 2) rfl (w_opz (c := w_i 0) (by decide +kernel) (by decide +kernel) ?_))))
          have m1473 := st_fr s1449 m16 (by decide)
          have m1474 := st_fr s1453 m1473 (by decide)
          have m1475 := st_fr s1459 m1474 (by decide)
          have m1476 := st_fr s1466 m1475 (by decide)
          refine w_astI m1476 (by decide) (by decide) (by decide) (by decide) (by decide) (fun A1479 h1478 w1480 s1477 => ?_)
          have q1481 : a_g A1479 0 = 0 := (w1480 0 (by decide) (by decide)).trans (if_pos rfl)
          have z1482 := s1477.1
          have z1482y := s1477.2.1
          have z1482w := s1477.2.2.2.2 z1471w
          refine w_al (fun _ => rfl) ?_
          have m1483 := st_fr s1477 m1472 (by decide)
          refine w_getf m1483 rfl (fun _ => rfl) (w_il (fun _ => rfl) (w_icI (x := (-1)) wn_1 ?_))
          have m1484 := st_fr s1449 m17 (by decide)
          have m1485 := st_fr s1453 m1484 (by decide)
          have m1486 := st_fr s1459 m1485 (by decide)
          have m1487 := st_fr s1466 m1486 (by decide)
          have m1488 := st_fr s1477 m1487 (by decide)
          refine w_astI m1488 (by decide) (by decide) (by decide) (by decide) (by decide) (fun A1491 h1490 w1492 s1489 => ?_)
          have q1493 : a_g A1491 0 = (-1) := (w1492 0 (by decide) (by decide)).trans (if_pos rfl)
          have z1494 := s1489.1
          have z1494y := s1489.2.1
          have z1494w := s1489.2.2.2.2 z1482w
          refine w_inc (c := w_i 1) (fun _ => rfl) (by decide +kernel) (fun _ => rfl) (w_go (w_run k_577548 (w_il (fun _ => rfl) (w_icI (x := 6) rfl (w_gef (by decide) (by decide) (by decide) (by decide) (by decide)  (w_al (fun _ => rfl) ?_))))))
          have m1495 := st_fr s1489 m1483 (by decide)
          refine w_getf m1495 rfl (fun _ => rfl) (w_il (fun _ => rfl) (w_icI (x := 0) rfl ?_))
          have m1496 := st_fr s1477 s1466.2.2.1 (by decide)
          have m1497 := st_fr s1489 m1496 (by decide)
          refine w_astI m1497 (by decide) (by decide) (by decide) (by decide) (by decide) (fun A1500 h1499 w1501 s1498 => ?_)
          have q1502 : a_g A1500 0 = 2 := ((w1501 0 (by decide) (by decide)).trans (if_neg (by decide))).trans q1470
          have q1503 : a_g A1500 1 = 0 := (w1501 1 (by decide) (by decide)).trans (if_pos rfl)
          have z1504 := s1498.1
          have z1504y := s1498.2.1
          have z1504w := s1498.2.2.2.2 z1494w
          refine w_il (fun _ => rfl) (w_lezf (by decide) (by decide) (by decide)  (w_il (fun _ => rfl) (w_il (fun _ => rfl) (w_gef (by omega) (by omega) (by omega) (by omega) (by omega)  (w_al (fun _ => rfl) ?_)))))
          have m1505 := st_fr s1498 m1495 (by decide)
          refine w_getf m1505 rfl (fun _ => rfl) (w_il (fun _ => rfl) (w_dup2 (fun _ => rfl) (fun _ => rfl) (w_aldI s1498.2.2.1 (by decide) (by decide) (by decide) ?_)))
          rw [q1503]
          refine w_icI (x := 1) rfl (w_il (fun _ => rfl) (w_icI (x := 1) rfl (w_op (c := w_i 0) (by decide +kernel) (w_op (c := w_i 1) (by decide +kernel) (w_op (c := w_i 1) (by decide +kernel) (w_astI s1498.2.2.1 (by decide) (by decide) (by decide) (by decide) (by decide) (fun A1508 h1507 w1509 s1506 => ?_)))))))
          have q1510 : a_g A1508 0 = 2 := ((w1509 0 (by decide) (by decide)).trans (if_neg (by decide))).trans q1502
          have q1511 : a_g A1508 1 = 1 := (w1509 1 (by decide) (by decide)).trans (if_pos rfl)
          have z1512 := s1506.1
          have z1512y := s1506.2.1
          have z1512w := s1506.2.2.2.2 z1504w
          refine w_il (fun _ => rfl) (w_icI (x := 1) rfl (w_op (c := w_i 2) (by decide +kernel) (w_il (fun _ => rfl) (w_gef (by omega) (by omega) (by omega) (by omega) (by omega)  (w_al (fun _ => rfl) ?_)))))
          have m1513 := st_fr s1506 m1505 (by decide)
          refine w_getf m1513 rfl (fun _ => rfl) (w_il (fun _ => rfl) (w_dup2 (fun _ => rfl) (fun _ => rfl) (w_aldI s1506.2.2.1 (by decide) (by decide) (by decide) ?_)))
          rw [q1511]
          refine w_icI (x := 1) rfl (w_il (fun _ => rfl) (w_icI (x := 1) rfl (w_op (c := w_i 2) (by decide +kernel) (w_op (c := w_i 4) (by decide +kernel) (w_op (c := w_i 5) (by decide +kernel) (w_astI s1506.2.2.1 (by decide) (by decide) (by decide) (by decide) (by decide) (fun A1516 h1515 w1517 s1514 => ?_)))))))
          have q1518 : a_g A1516 0 = 2 := ((w1517 0 (by decide) (by decide)).trans (if_neg (by decide))).trans q1510
          have q1519 : a_g A1516 1 = 5 := (w1517 1 (by decide) (by decide)).trans (if_pos rfl)
          have z1520 := s1514.1
          have z1520y := s1514.2.1
          have z1520w := s1514.2.2.2.2 z1512w
          refine w_al (fun _ => rfl) ?_
          have m1521 := st_fr s1514 m1513 (by decide)
          refine w_getf m1521 rfl (fun _ => rfl) (w_il (fun _ => rfl) (w_il (fun _ => rfl) (w_icI (x := 2) rfl (w_opz (c := w_i 1) (by decide +kernel) (by decide +kernel) ?_))))
          have m1522 := st_fr s1489 s1477.2.2.1 (by decide)
          have m1523 := st_fr s1498 m1522 (by decide)
          have m1524 := st_fr s1506 m1523 (by decide)
          have m1525 := st_fr s1514 m1524 (by decide)
          refine w_astI m1525 (by decide) (by decide) (by decide) (by decide) (by decide) (fun A1528 h1527 w1529 s1526 => ?_)
          have q1530 : a_g A1528 0 = 0 := ((w1529 0 (by decide) (by decide)).trans (if_neg (by decide))).trans q1481
          have q1531 : a_g A1528 1 = 1 := (w1529 1 (by decide) (by decide)).trans (if_pos rfl)
          have z1532 := s1526.1
          have z1532y := s1526.2.1
          have z1532w := s1526.2.2.2.2 z1520w
          refine w_al (fun _ => rfl) ?_
          have m1533 := st_fr s1526 m1521 (by decide)
          refine w_getf m1533 rfl (fun _ => rfl) (w_il (fun _ => rfl) (w_icI (x := (-1)) wn_1 ?_))
          have m1534 := st_fr s1498 s1489.2.2.1 (by decide)
          have m1535 := st_fr s1506 m1534 (by decide)
          have m1536 := st_fr s1514 m1535 (by decide)
          have m1537 := st_fr s1526 m1536 (by decide)
          refine w_astI m1537 (by decide) (by decide) (by decide) (by decide) (by decide) (fun A1540 h1539 w1541 s1538 => ?_)
          have q1542 : a_g A1540 0 = (-1) := ((w1541 0 (by decide) (by decide)).trans (if_neg (by decide))).trans q1493
          have q1543 : a_g A1540 1 = (-1) := (w1541 1 (by decide) (by decide)).trans (if_pos rfl)
          have z1544 := s1538.1
          have z1544y := s1538.2.1
          have z1544w := s1538.2.2.2.2 z1532w
          refine w_inc (c := w_i 2) (fun _ => rfl) (by decide +kernel) (fun _ => rfl) (w_go (w_run k_577548 (w_il (fun _ => rfl) (w_icI (x := 6) rfl (w_gef (by decide) (by decide) (by decide) (by decide) (by decide)  (w_al (fun _ => rfl) ?_))))))
          have m1545 := st_fr s1538 m1533 (by decide)
          refine w_getf m1545 rfl (fun _ => rfl) (w_il (fun _ => rfl) (w_icI (x := 0) rfl ?_))
          have m1546 := st_fr s1526 s1514.2.2.1 (by decide)
          have m1547 := st_fr s1538 m1546 (by decide)
          refine w_astI m1547 (by decide) (by decide) (by decide) (by decide) (by decide) (fun A1550 h1549 w1551 s1548 => ?_)
          have q1552 : a_g A1550 0 = 2 := ((w1551 0 (by decide) (by decide)).trans (if_neg (by decide))).trans q1518
          have q1553 : a_g A1550 1 = 5 := ((w1551 1 (by decide) (by decide)).trans (if_neg (by decide))).trans q1519
          have q1554 : a_g A1550 2 = 0 := (w1551 2 (by decide) (by decide)).trans (if_pos rfl)
          have z1555 := s1548.1
          have z1555y := s1548.2.1
          have z1555w := s1548.2.2.2.2 z1544w
          refine w_il (fun _ => rfl) (w_lezf (by decide) (by decide) (by decide)  (w_il (fun _ => rfl) (w_il (fun _ => rfl) (w_gef (by omega) (by omega) (by omega) (by omega) (by omega)  (w_al (fun _ => rfl) ?_)))))
          have m1556 := st_fr s1548 m1545 (by decide)
          refine w_getf m1556 rfl (fun _ => rfl) (w_il (fun _ => rfl) (w_dup2 (fun _ => rfl) (fun _ => rfl) (w_aldI s1548.2.2.1 (by decide) (by decide) (by decide) ?_)))
          rw [q1554]
          refine w_icI (x := 1) rfl (w_il (fun _ => rfl) (w_icI (x := 1) rfl (w_op (c := w_i 1) (by decide +kernel) (w_op (c := w_i 2) (by decide +kernel) (w_op (c := w_i 2) (by decide +kernel) (w_astI s1548.2.2.1 (by decide) (by decide) (by decide) (by decide) (by decide) (fun A1559 h1558 w1560 s1557 => ?_)))))))
          have q1561 : a_g A1559 0 = 2 := ((w1560 0 (by decide) (by decide)).trans (if_neg (by decide))).trans q1552
          have q1562 : a_g A1559 1 = 5 := ((w1560 1 (by decide) (by decide)).trans (if_neg (by decide))).trans q1553
          have q1563 : a_g A1559 2 = 2 := (w1560 2 (by decide) (by decide)).trans (if_pos rfl)
          have z1564 := s1557.1
          have z1564y := s1557.2.1
          have z1564w := s1557.2.2.2.2 z1555w
          refine w_il (fun _ => rfl) (w_icI (x := 1) rfl (w_op (c := w_i 3) (by decide +kernel) (w_il (fun _ => rfl) (w_gef (by omega) (by omega) (by omega) (by omega) (by omega)  (w_al (fun _ => rfl) ?_)))))
          have m1565 := st_fr s1557 m1556 (by decide)
          refine w_getf m1565 rfl (fun _ => rfl) (w_il (fun _ => rfl) (w_dup2 (fun _ => rfl) (fun _ => rfl) (w_aldI s1557.2.2.1 (by decide) (by decide) (by decide) ?_)))
          rw [q1563]
          refine w_icI (x := 1) rfl (w_il (fun _ => rfl) (w_icI (x := 1) rfl (w_op (c := w_i 3) (by decide +kernel) (w_op (c := w_i 8) (by decide +kernel) (w_op (c := w_i 10) (by decide +kernel) (w_astI s1557.2.2.1 (by decide) (by decide) (by decide) (by decide) (by decide) (fun A1568 h1567 w1569 s1566 => ?_)))))))
          have q1570 : a_g A1568 0 = 2 := ((w1569 0 (by decide) (by decide)).trans (if_neg (by decide))).trans q1561
          have q1571 : a_g A1568 1 = 5 := ((w1569 1 (by decide) (by decide)).trans (if_neg (by decide))).trans q1562
          have q1572 : a_g A1568 2 = 10 := (w1569 2 (by decide) (by decide)).trans (if_pos rfl)
          have z1573 := s1566.1
          have z1573y := s1566.2.1
          have z1573w := s1566.2.2.2.2 z1564w
          refine w_al (fun _ => rfl) ?_
          have m1574 := st_fr s1566 m1565 (by decide)
          refine w_getf m1574 rfl (fun _ => rfl) (w_il (fun _ => rfl) (w_il (fun _ => rfl) (w_icI (x := 2) rfl (w_opz (c := w_i 0) (by decide +kernel) (by decide +kernel) ?_))))
          have m1575 := st_fr s1538 s1526.2.2.1 (by decide)
          have m1576 := st_fr s1548 m1575 (by decide)
          have m1577 := st_fr s1557 m1576 (by decide)
          have m1578 := st_fr s1566 m1577 (by decide)
          refine w_astI m1578 (by decide) (by decide) (by decide) (by decide) (by decide) (fun A1581 h1580 w1582 s1579 => ?_)
          have q1583 : a_g A1581 0 = 0 := ((w1582 0 (by decide) (by decide)).trans (if_neg (by decide))).trans q1530
          have q1584 : a_g A1581 1 = 1 := ((w1582 1 (by decide) (by decide)).trans (if_neg (by decide))).trans q1531
          have q1585 : a_g A1581 2 = 0 := (w1582 2 (by decide) (by decide)).trans (if_pos rfl)
          have z1586 := s1579.1
          have z1586y := s1579.2.1
          have z1586w := s1579.2.2.2.2 z1573w
          refine w_al (fun _ => rfl) ?_
          have m1587 := st_fr s1579 m1574 (by decide)
          refine w_getf m1587 rfl (fun _ => rfl) (w_il (fun _ => rfl) (w_icI (x := (-1)) wn_1 ?_))
          have m1588 := st_fr s1548 s1538.2.2.1 (by decide)
          have m1589 := st_fr s1557 m1588 (by decide)
          have m1590 := st_fr s1566 m1589 (by decide)
          have m1591 := st_fr s1579 m1590 (by decide)
          refine w_astI m1591 (by decide) (by decide) (by decide) (by decide) (by decide) (fun A1594 h1593 w1595 s1592 => ?_)
          have q1596 : a_g A1594 0 = (-1) := ((w1595 0 (by decide) (by decide)).trans (if_neg (by decide))).trans q1542
          have q1597 : a_g A1594 1 = (-1) := ((w1595 1 (by decide) (by decide)).trans (if_neg (by decide))).trans q1543
          have q1598 : a_g A1594 2 = (-1) := (w1595 2 (by decide) (by decide)).trans (if_pos rfl)
          have z1599 := s1592.1
          have z1599y := s1592.2.1
          have z1599w := s1592.2.2.2.2 z1586w
          refine w_inc (c := w_i 3) (fun _ => rfl) (by decide +kernel) (fun _ => rfl) (w_go (w_run k_577548 (w_il (fun _ => rfl) (w_icI (x := 6) rfl (w_gef (by decide) (by decide) (by decide) (by decide) (by decide)  (w_al (fun _ => rfl) ?_))))))
          have m1600 := st_fr s1592 m1587 (by decide)
          refine w_getf m1600 rfl (fun _ => rfl) (w_il (fun _ => rfl) (w_icI (x := 0) rfl ?_))
          have m1601 := st_fr s1579 s1566.2.2.1 (by decide)
          have m1602 := st_fr s1592 m1601 (by decide)
          refine w_astI m1602 (by decide) (by decide) (by decide) (by decide) (by decide) (fun A1605 h1604 w1606 s1603 => ?_)
          have q1607 : a_g A1605 0 = 2 := ((w1606 0 (by decide) (by decide)).trans (if_neg (by decide))).trans q1570
          have q1608 : a_g A1605 1 = 5 := ((w1606 1 (by decide) (by decide)).trans (if_neg (by decide))).trans q1571
          have q1609 : a_g A1605 2 = 10 := ((w1606 2 (by decide) (by decide)).trans (if_neg (by decide))).trans q1572
          have q1610 : a_g A1605 3 = 0 := (w1606 3 (by decide) (by decide)).trans (if_pos rfl)
          have z1611 := s1603.1
          have z1611y := s1603.2.1
          have z1611w := s1603.2.2.2.2 z1599w
          refine w_il (fun _ => rfl) (w_lezf (by decide) (by decide) (by decide)  (w_il (fun _ => rfl) (w_il (fun _ => rfl) (w_gef (by omega) (by omega) (by omega) (by omega) (by omega)  (w_al (fun _ => rfl) ?_)))))
          have m1612 := st_fr s1603 m1600 (by decide)
          refine w_getf m1612 rfl (fun _ => rfl) (w_il (fun _ => rfl) (w_dup2 (fun _ => rfl) (fun _ => rfl) (w_aldI s1603.2.2.1 (by decide) (by decide) (by decide) ?_)))
          rw [q1610]
          refine w_icI (x := 1) rfl (w_il (fun _ => rfl) (w_icI (x := 1) rfl (w_op (c := w_i 2) (by decide +kernel) (w_op (c := w_i 4) (by decide +kernel) (w_op (c := w_i 4) (by decide +kernel) (w_astI s1603.2.2.1 (by decide) (by decide) (by decide) (by decide) (by decide) (fun A1615 h1614 w1616 s1613 => ?_)))))))
          have q1617 : a_g A1615 0 = 2 := ((w1616 0 (by decide) (by decide)).trans (if_neg (by decide))).trans q1607
          have q1618 : a_g A1615 1 = 5 := ((w1616 1 (by decide) (by decide)).trans (if_neg (by decide))).trans q1608
          have q1619 : a_g A1615 2 = 10 := ((w1616 2 (by decide) (by decide)).trans (if_neg (by decide))).trans q1609
          have q1620 : a_g A1615 3 = 4 := (w1616 3 (by decide) (by decide)).trans (if_pos rfl)
          have z1621 := s1613.1
          have z1621y := s1613.2.1
          have z1621w := s1613.2.2.2.2 z1611w
          refine w_il (fun _ => rfl) (w_icI (x := 1) rfl (w_op (c := w_i 4) (by decide +kernel) (w_il (fun _ => rfl) (w_gef (by omega) (by omega) (by omega) (by omega) (by omega)  (w_al (fun _ => rfl) ?_)))))
          have m1622 := st_fr s1613 m1612 (by decide)
          refine w_getf m1622 rfl (fun _ => rfl) (w_il (fun _ => rfl) (w_dup2 (fun _ => rfl) (fun _ => rfl) (w_aldI s1613.2.2.1 (by decide) (by decide) (by decide) ?_)))
          rw [q1620]
          refine w_icI (x := 1) rfl (w_il (fun _ => rfl) (w_icI (x := 1) rfl (w_op (c := w_i 4) (by decide +kernel) (w_op (c := w_i 16) (by decide +kernel) (w_op (c := w_i 20) (by decide +kernel) (w_astI s1613.2.2.1 (by decide) (by decide) (by decide) (by decide) (by decide) (fun A1625 h1624 w1626 s1623 => ?_)))))))
          have q1627 : a_g A1625 0 = 2 := ((w1626 0 (by decide) (by decide)).trans (if_neg (by decide))).trans q1617
          have q1628 : a_g A1625 1 = 5 := ((w1626 1 (by decide) (by decide)).trans (if_neg (by decide))).trans q1618
          have q1629 : a_g A1625 2 = 10 := ((w1626 2 (by decide) (by decide)).trans (if_neg (by decide))).trans q1619
          have q1630 : a_g A1625 3 = 20 := (w1626 3 (by decide) (by decide)).trans (if_pos rfl)
          have z1631 := s1623.1
          have z1631y := s1623.2.1
          have z1631w := s1623.2.2.2.2 z1621w
          refine w_al (fun _ => rfl) ?_
          have m1632 := st_fr s1623 m1622 (by decide)
          refine w_getf m1632 rfl (fun _ => rfl) (w_il (fun _ => rfl) (w_il (fun _ => rfl) (w_icI (x := 2) rfl (w_opz (c := w_i 1) (by decide +kernel) (by decide +kernel) ?_))))
          have m1633 := st_fr s1592 s1579.2.2.1 (by decide)
          have m1634 := st_fr s1603 m1633 (by decide)
          have m1635 := st_fr s1613 m1634 (by decide)
          have m1636 := st_fr s1623 m1635 (by decide)
          refine w_astI m1636 (by decide) (by decide) (by decide) (by decide) (by decide) (fun A1639 h1638 w1640 s1637 => ?_)
          have q1641 : a_g A1639 0 = 0 := ((w1640 0 (by decide) (by decide)).trans (if_neg (by decide))).trans q1583
          have q1642 : a_g A1639 1 = 1 := ((w1640 1 (by decide) (by decide)).trans (if_neg (by decide))).trans q1584
          have q1643 : a_g A1639 2 = 0 := ((w1640 2 (by decide) (by decide)).trans (if_neg (by decide))).trans q1585
          have q1644 : a_g A1639 3 = 1 := (w1640 3 (by decide) (by decide)).trans (if_pos rfl)
          have z1645 := s1637.1
          have z1645y := s1637.2.1
          have z1645w := s1637.2.2.2.2 z1631w
          refine w_al (fun _ => rfl) ?_
          have m1646 := st_fr s1637 m1632 (by decide)
          refine w_getf m1646 rfl (fun _ => rfl) (w_il (fun _ => rfl) (w_icI (x := (-1)) wn_1 ?_))
          have m1647 := st_fr s1603 s1592.2.2.1 (by decide)
          have m1648 := st_fr s1613 m1647 (by decide)
          have m1649 := st_fr s1623 m1648 (by decide)
          have m1650 := st_fr s1637 m1649 (by decide)
          refine w_astI m1650 (by decide) (by decide) (by decide) (by decide) (by decide) (fun A1653 h1652 w1654 s1651 => ?_)
          have q1655 : a_g A1653 0 = (-1) := ((w1654 0 (by decide) (by decide)).trans (if_neg (by decide))).trans q1596
          have q1656 : a_g A1653 1 = (-1) := ((w1654 1 (by decide) (by decide)).trans (if_neg (by decide))).trans q1597
          have q1657 : a_g A1653 2 = (-1) := ((w1654 2 (by decide) (by decide)).trans (if_neg (by decide))).trans q1598
          have q1658 : a_g A1653 3 = (-1) := (w1654 3 (by decide) (by decide)).trans (if_pos rfl)
          have z1659 := s1651.1
          have z1659y := s1651.2.1
          have z1659w := s1651.2.2.2.2 z1645w
          refine w_inc (c := w_i 4) (fun _ => rfl) (by decide +kernel) (fun _ => rfl) (w_go (w_run k_577548 (w_il (fun _ => rfl) (w_icI (x := 6) rfl (w_gef (by decide) (by decide) (by decide) (by decide) (by decide)  (w_al (fun _ => rfl) ?_))))))
          have m1660 := st_fr s1651 m1646 (by decide)
          refine w_getf m1660 rfl (fun _ => rfl) (w_il (fun _ => rfl) (w_icI (x := 0) rfl ?_))
          have m1661 := st_fr s1637 s1623.2.2.1 (by decide)
          have m1662 := st_fr s1651 m1661 (by decide)
          refine w_astI m1662 (by decide) (by decide) (by decide) (by decide) (by decide) (fun A1665 h1664 w1666 s1663 => ?_)
          have q1667 : a_g A1665 0 = 2 := ((w1666 0 (by decide) (by decide)).trans (if_neg (by decide))).trans q1627
          have q1668 : a_g A1665 1 = 5 := ((w1666 1 (by decide) (by decide)).trans (if_neg (by decide))).trans q1628
          have q1669 : a_g A1665 2 = 10 := ((w1666 2 (by decide) (by decide)).trans (if_neg (by decide))).trans q1629
          have q1670 : a_g A1665 3 = 20 := ((w1666 3 (by decide) (by decide)).trans (if_neg (by decide))).trans q1630
          have q1671 : a_g A1665 4 = 0 := (w1666 4 (by decide) (by decide)).trans (if_pos rfl)
          have z1672 := s1663.1
          have z1672y := s1663.2.1
          have z1672w := s1663.2.2.2.2 z1659w
          refine w_il (fun _ => rfl) (w_lezf (by decide) (by decide) (by decide)  (w_il (fun _ => rfl) (w_il (fun _ => rfl) (w_gef (by omega) (by omega) (by omega) (by omega) (by omega)  (w_al (fun _ => rfl) ?_)))))
          have m1673 := st_fr s1663 m1660 (by decide)
          refine w_getf m1673 rfl (fun _ => rfl) (w_il (fun _ => rfl) (w_dup2 (fun _ => rfl) (fun _ => rfl) (w_aldI s1663.2.2.1 (by decide) (by decide) (by decide) ?_)))
          rw [q1671]
          refine w_icI (x := 1) rfl (w_il (fun _ => rfl) (w_icI (x := 1) rfl (w_op (c := w_i 3) (by decide +kernel) (w_op (c := w_i 8) (by decide +kernel) (w_op (c := w_i 8) (by decide +kernel) (w_astI s1663.2.2.1 (by decide) (by decide) (by decide) (by decide) (by decide) (fun A1676 h1675 w1677 s1674 => ?_)))))))
          have q1678 : a_g A1676 0 = 2 := ((w1677 0 (by decide) (by decide)).trans (if_neg (by decide))).trans q1667
          have q1679 : a_g A1676 1 = 5 := ((w1677 1 (by decide) (by decide)).trans (if_neg (by decide))).trans q1668
          have q1680 : a_g A1676 2 = 10 := ((w1677 2 (by decide) (by decide)).trans (if_neg (by decide))).trans q1669
          have q1681 : a_g A1676 3 = 20 := ((w1677 3 (by decide) (by decide)).trans (if_neg (by decide))).trans q1670
          have q1682 : a_g A1676 4 = 8 := (w1677 4 (by decide) (by decide)).trans (if_pos rfl)
          have z1683 := s1674.1
          have z1683y := s1674.2.1
          have z1683w := s1674.2.2.2.2 z1672w
          refine w_il (fun _ => rfl) (w_icI (x := 1) rfl (w_op (c := w_i 5) (by decide +kernel) (w_il (fun _ => rfl) (w_gef (by omega) (by omega) (by omega) (by omega) (by omega)  (w_al (fun _ => rfl) ?_)))))
          have m1684 := st_fr s1674 m1673 (by decide)
          refine w_getf m1684 rfl (fun _ => rfl) (w_il (fun _ => rfl) (w_dup2 (fun _ => rfl) (fun _ => rfl) (w_aldI s1674.2.2.1 (by decide) (by decide) (by decide) ?_)))
          rw [q1682]
          refine w_icI (x := 1) rfl (w_il (fun _ => rfl) (w_icI (x := 1) rfl (w_op (c := w_i 5) (by decide +kernel) (w_op (c := w_i 32) (by decide +kernel) (w_op (c := w_i 40) (by decide +kernel) (w_astI s1674.2.2.1 (by decide) (by decide) (by decide) (by decide) (by decide) (fun A1687 h1686 w1688 s1685 => ?_)))))))
          have q1689 : a_g A1687 0 = 2 := ((w1688 0 (by decide) (by decide)).trans (if_neg (by decide))).trans q1678
          have q1690 : a_g A1687 1 = 5 := ((w1688 1 (by decide) (by decide)).trans (if_neg (by decide))).trans q1679
          have q1691 : a_g A1687 2 = 10 := ((w1688 2 (by decide) (by decide)).trans (if_neg (by decide))).trans q1680
          have q1692 : a_g A1687 3 = 20 := ((w1688 3 (by decide) (by decide)).trans (if_neg (by decide))).trans q1681
          have q1693 : a_g A1687 4 = 40 := (w1688 4 (by decide) (by decide)).trans (if_pos rfl)
          have z1694 := s1685.1
          have z1694y := s1685.2.1
          have z1694w := s1685.2.2.2.2 z1683w
          refine w_al (fun _ => rfl) ?_
          have m1695 := st_fr s1685 m1684 (by decide)
          refine w_getf m1695 rfl (fun _ => rfl) (w_il (fun _ => rfl) (w_il (fun _ => rfl) (w_icI (x := 2) rfl (w_opz (c := w_i 0) (by decide +kernel) (by decide +kernel) ?_))))
          have m1696 := st_fr s1651 s1637.2.2.1 (by decide)
          have m1697 := st_fr s1663 m1696 (by decide)
          have m1698 := st_fr s1674 m1697 (by decide)
          have m1699 := st_fr s1685 m1698 (by decide)
          refine w_astI m1699 (by decide) (by decide) (by decide) (by decide) (by decide) (fun A1702 h1701 w1703 s1700 => ?_)
          have q1704 : a_g A1702 0 = 0 := ((w1703 0 (by decide) (by decide)).trans (if_neg (by decide))).trans q1641
          have q1705 : a_g A1702 1 = 1 := ((w1703 1 (by decide) (by decide)).trans (if_neg (by decide))).trans q1642
          have q1706 : a_g A1702 2 = 0 := ((w1703 2 (by decide) (by decide)).trans (if_neg (by decide))).trans q1643
          have q1707 : a_g A1702 3 = 1 := ((w1703 3 (by decide) (by decide)).trans (if_neg (by decide))).trans q1644
          have q1708 : a_g A1702 4 = 0 := (w1703 4 (by decide) (by decide)).trans (if_pos rfl)
          have z1709 := s1700.1
          have z1709y := s1700.2.1
          have z1709w := s1700.2.2.2.2 z1694w
          refine w_al (fun _ => rfl) ?_
          have m1710 := st_fr s1700 m1695 (by decide)
          refine w_getf m1710 rfl (fun _ => rfl) (w_il (fun _ => rfl) (w_icI (x := (-1)) wn_1 ?_))
          have m1711 := st_fr s1663 s1651.2.2.1 (by decide)
          have m1712 := st_fr s1674 m1711 (by decide)
          have m1713 := st_fr s1685 m1712 (by decide)
          have m1714 := st_fr s1700 m1713 (by decide)
          refine w_astI m1714 (by decide) (by decide) (by decide) (by decide) (by decide) (fun A1717 h1716 w1718 s1715 => ?_)
          have q1719 : a_g A1717 0 = (-1) := ((w1718 0 (by decide) (by decide)).trans (if_neg (by decide))).trans q1655
          have q1720 : a_g A1717 1 = (-1) := ((w1718 1 (by decide) (by decide)).trans (if_neg (by decide))).trans q1656
          have q1721 : a_g A1717 2 = (-1) := ((w1718 2 (by decide) (by decide)).trans (if_neg (by decide))).trans q1657
          have q1722 : a_g A1717 3 = (-1) := ((w1718 3 (by decide) (by decide)).trans (if_neg (by decide))).trans q1658
          have q1723 : a_g A1717 4 = (-1) := (w1718 4 (by decide) (by decide)).trans (if_pos rfl)
          have z1724 := s1715.1
          have z1724y := s1715.2.1
          have z1724w := s1715.2.2.2.2 z1709w
          refine w_inc (c := w_i 5) (fun _ => rfl) (by decide +kernel) (fun _ => rfl) (w_go (w_run k_577548 (w_il (fun _ => rfl) (w_icI (x := 6) rfl (w_gef (by decide) (by decide) (by decide) (by decide) (by decide)  (w_al (fun _ => rfl) ?_))))))
          have m1725 := st_fr s1715 m1710 (by decide)
          refine w_getf m1725 rfl (fun _ => rfl) (w_il (fun _ => rfl) (w_icI (x := 0) rfl ?_))
          have m1726 := st_fr s1700 s1685.2.2.1 (by decide)
          have m1727 := st_fr s1715 m1726 (by decide)
          refine w_astI m1727 (by decide) (by decide) (by decide) (by decide) (by decide) (fun A1730 h1729 w1731 s1728 => ?_)
          have q1732 : a_g A1730 0 = 2 := ((w1731 0 (by decide) (by decide)).trans (if_neg (by decide))).trans q1689
          have q1733 : a_g A1730 1 = 5 := ((w1731 1 (by decide) (by decide)).trans (if_neg (by decide))).trans q1690
          have q1734 : a_g A1730 2 = 10 := ((w1731 2 (by decide) (by decide)).trans (if_neg (by decide))).trans q1691
          have q1735 : a_g A1730 3 = 20 := ((w1731 3 (by decide) (by decide)).trans (if_neg (by decide))).trans q1692
          have q1736 : a_g A1730 4 = 40 := ((w1731 4 (by decide) (by decide)).trans (if_neg (by decide))).trans q1693
          have q1737 : a_g A1730 5 = 0 := (w1731 5 (by decide) (by decide)).trans (if_pos rfl)
          have z1738 := s1728.1
          have z1738y := s1728.2.1
          have z1738w := s1728.2.2.2.2 z1724w
          refine w_il (fun _ => rfl) (w_lezf (by decide) (by decide) (by decide)  (w_il (fun _ => rfl) (w_il (fun _ => rfl) (w_gef (by omega) (by omega) (by omega) (by omega) (by omega)  (w_al (fun _ => rfl) ?_)))))
          have m1739 := st_fr s1728 m1725 (by decide)
          refine w_getf m1739 rfl (fun _ => rfl) (w_il (fun _ => rfl) (w_dup2 (fun _ => rfl) (fun _ => rfl) (w_aldI s1728.2.2.1 (by decide) (by decide) (by decide) ?_)))
          rw [q1737]
          refine w_icI (x := 1) rfl (w_il (fun _ => rfl) (w_icI (x := 1) rfl (w_op (c := w_i 4) (by decide +kernel) (w_op (c := w_i 16) (by decide +kernel) (w_op (c := w_i 16) (by decide +kernel) (w_astI s1728.2.2.1 (by decide) (by decide) (by decide) (by decide) (by decide) (fun A1742 h1741 w1743 s1740 => ?_)))))))
          have q1744 : a_g A1742 0 = 2 := ((w1743 0 (by decide) (by decide)).trans (if_neg (by decide))).trans q1732
          have q1745 : a_g A1742 1 = 5 := ((w1743 1 (by decide) (by decide)).trans (if_neg (by decide))).trans q1733
          have q1746 : a_g A1742 2 = 10 := ((w1743 2 (by decide) (by decide)).trans (if_neg (by decide))).trans q1734
          have q1747 : a_g A1742 3 = 20 := ((w1743 3 (by decide) (by decide)).trans (if_neg (by decide))).trans q1735
          have q1748 : a_g A1742 4 = 40 := ((w1743 4 (by decide) (by decide)).trans (if_neg (by decide))).trans q1736
          have q1749 : a_g A1742 5 = 16 := (w1743 5 (by decide) (by decide)).trans (if_pos rfl)
          have z1750 := s1740.1
          have z1750y := s1740.2.1
          have z1750w := s1740.2.2.2.2 z1738w
          refine w_il (fun _ => rfl) (w_icI (x := 1) rfl (w_op (c := w_i 6) (by decide +kernel) (w_il (fun _ => rfl) (w_get (by omega) (by omega) (by omega) (by omega) (by omega)  (w_run k_577605 (w_al (fun _ => rfl) ?_))))))
          have m1751 := st_fr s1740 m1739 (by decide)
          refine w_getf m1751 rfl (fun _ => rfl) (w_il (fun _ => rfl) (w_il (fun _ => rfl) (w_icI (x := 2) rfl (w_opz (c := w_i 1) (by decide +kernel) (by decide +kernel) ?_))))
          have m1752 := st_fr s1715 s1700.2.2.1 (by decide)
          have m1753 := st_fr s1728 m1752 (by decide)
          have m1754 := st_fr s1740 m1753 (by decide)
          refine w_astI m1754 (by decide) (by decide) (by decide) (by decide) (by decide) (fun A1757 h1756 w1758 s1755 => ?_)
          have q1759 : a_g A1757 0 = 0 := ((w1758 0 (by decide) (by decide)).trans (if_neg (by decide))).trans q1704
          have q1760 : a_g A1757 1 = 1 := ((w1758 1 (by decide) (by decide)).trans (if_neg (by decide))).trans q1705
          have q1761 : a_g A1757 2 = 0 := ((w1758 2 (by decide) (by decide)).trans (if_neg (by decide))).trans q1706
          have q1762 : a_g A1757 3 = 1 := ((w1758 3 (by decide) (by decide)).trans (if_neg (by decide))).trans q1707
          have q1763 : a_g A1757 4 = 0 := ((w1758 4 (by decide) (by decide)).trans (if_neg (by decide))).trans q1708
          have q1764 : a_g A1757 5 = 1 := (w1758 5 (by decide) (by decide)).trans (if_pos rfl)
          have z1765 := s1755.1
          have z1765y := s1755.2.1
          have z1765w := s1755.2.2.2.2 z1750w
          refine w_al (fun _ => rfl) ?_
          have m1766 := st_fr s1755 m1751 (by decide)
          refine w_getf m1766 rfl (fun _ => rfl) (w_il (fun _ => rfl) (w_icI (x := (-1)) wn_1 ?_))
          have m1767 := st_fr s1728 s1715.2.2.1 (by decide)
          have m1768 := st_fr s1740 m1767 (by decide)
          have m1769 := st_fr s1755 m1768 (by decide)
          refine w_astI m1769 (by decide) (by decide) (by decide) (by decide) (by decide) (fun A1772 h1771 w1773 s1770 => ?_)
          have q1774 : a_g A1772 0 = (-1) := ((w1773 0 (by decide) (by decide)).trans (if_neg (by decide))).trans q1719
          have q1775 : a_g A1772 1 = (-1) := ((w1773 1 (by decide) (by decide)).trans (if_neg (by decide))).trans q1720
          have q1776 : a_g A1772 2 = (-1) := ((w1773 2 (by decide) (by decide)).trans (if_neg (by decide))).trans q1721
          have q1777 : a_g A1772 3 = (-1) := ((w1773 3 (by decide) (by decide)).trans (if_neg (by decide))).trans q1722
          have q1778 : a_g A1772 4 = (-1) := ((w1773 4 (by decide) (by decide)).trans (if_neg (by decide))).trans q1723
          have q1779 : a_g A1772 5 = (-1) := (w1773 5 (by decide) (by decide)).trans (if_pos rfl)
          have z1780 := s1770.1
          have z1780y := s1770.2.1
          have z1780w := s1770.2.2.2.2 z1765w
          refine w_inc (c := w_i 6) (fun _ => rfl) (by decide +kernel) (fun _ => rfl) (w_go (w_run k_577548 (w_il (fun _ => rfl) (w_icI (x := 6) rfl (w_get (by decide) (by decide) (by decide) (by decide) (by decide)  (w_run k_577627 (w_al (fun _ => rfl) (w_icI (x := 0) rfl ?_))))))))
          have m1781 := st_fr s1770 m1766 (by decide)
          refine w_putf [.inr (.inl (some 32)), .inr (.inl (some 33)), .inr (.inl (some 34)), .inr (.inl (some 35)), .inr (.inl (some 36)), .inl (w_i hh), .inl (w_i c), .inl (w_i 0), .inl (w_i kee14), .inl (w_i (g_mnp g)), .inl (w_i rul14), .inl (w_i (g_mhi g)), .inr (.inl (some 37)), .inr (.inl (some 50)), .inr (.inl (some 51)), .inr (.inl (some 52)), .inr (.inl (some 53)), .inr (.inl (some 54)), .inl (w_i tpd14), .inl (w_i (g_mnt g)), .inl (w_i nxt14), .inl (w_i tok14), .inl (w_i tka14), .inl (w_i val14), .inl (w_i opn14), .inl (w_i hm14), .inl (w_i row14), .inr (.inl (some 55)), .inr (.inl (some 56)), .inr (.inl (some 57)), .inr (.inl (some 58)), .inr (.inl (some 59)), .inr (.inl (some 60)), .inr (.inl (some 61)), .inr (.inl (some 62)), .inl (w_i ksp14), .inl (w_i kke14), .inl (w_i kru14), .inr (.inl (some 63)), .inr (.inl (some 64)), .inr (.inl (some 65)), .inr (.inl (some 66))] m1781 rfl rfl rfl (fun _ => rfl) (fun h1783 s1782 => ?_)
          have z1785 := s1782.1
          have z1785y := s1782.2.1
          have z1785w := s1782.2.2.2.2 z1780w
          refine w_al (fun _ => rfl) (w_icI (x := 0) rfl (w_putf [.inr (.inl (some 32)), .inr (.inl (some 33)), .inr (.inl (some 34)), .inr (.inl (some 35)), .inr (.inl (some 36)), .inl (w_i hh), .inl (w_i c), .inl (w_i 0), .inl (w_i 0), .inl (w_i (g_mnp g)), .inl (w_i rul14), .inl (w_i (g_mhi g)), .inr (.inl (some 37)), .inr (.inl (some 50)), .inr (.inl (some 51)), .inr (.inl (some 52)), .inr (.inl (some 53)), .inr (.inl (some 54)), .inl (w_i tpd14), .inl (w_i (g_mnt g)), .inl (w_i nxt14), .inl (w_i tok14), .inl (w_i tka14), .inl (w_i val14), .inl (w_i opn14), .inl (w_i hm14), .inl (w_i row14), .inr (.inl (some 55)), .inr (.inl (some 56)), .inr (.inl (some 57)), .inr (.inl (some 58)), .inr (.inl (some 59)), .inr (.inl (some 60)), .inr (.inl (some 61)), .inr (.inl (some 62)), .inl (w_i ksp14), .inl (w_i kke14), .inl (w_i kru14), .inr (.inl (some 63)), .inr (.inl (some 64)), .inr (.inl (some 65)), .inr (.inl (some 66))] s1782.2.2.1 rfl rfl rfl (fun _ => rfl) (fun h1787 s1786 => ?_)))
          have z1789 := s1786.1
          have z1789y := s1786.2.1
          have z1789w := s1786.2.2.2.2 z1785w
          refine w_al (fun _ => rfl) (w_icI (x := 0) rfl (w_putf [.inr (.inl (some 32)), .inr (.inl (some 33)), .inr (.inl (some 34)), .inr (.inl (some 35)), .inr (.inl (some 36)), .inl (w_i hh), .inl (w_i c), .inl (w_i 0), .inl (w_i 0), .inl (w_i (g_mnp g)), .inl (w_i rul14), .inl (w_i 0), .inr (.inl (some 37)), .inr (.inl (some 50)), .inr (.inl (some 51)), .inr (.inl (some 52)), .inr (.inl (some 53)), .inr (.inl (some 54)), .inl (w_i tpd14), .inl (w_i (g_mnt g)), .inl (w_i nxt14), .inl (w_i tok14), .inl (w_i tka14), .inl (w_i val14), .inl (w_i opn14), .inl (w_i hm14), .inl (w_i row14), .inr (.inl (some 55)), .inr (.inl (some 56)), .inr (.inl (some 57)), .inr (.inl (some 58)), .inr (.inl (some 59)), .inr (.inl (some 60)), .inr (.inl (some 61)), .inr (.inl (some 62)), .inl (w_i ksp14), .inl (w_i kke14), .inl (w_i kru14), .inr (.inl (some 63)), .inr (.inl (some 64)), .inr (.inl (some 65)), .inr (.inl (some 66))] s1786.2.2.1 rfl rfl rfl (fun _ => rfl) (fun h1791 s1790 => ?_)))
          have z1793 := s1790.1
          have z1793y := s1790.2.1
          have z1793w := s1790.2.2.2.2 z1789w
          refine w_rv ⟨rfl, ?_⟩
          refine w_il (fun _ => rfl) (w_ri ?_)
          have F1 := F.1
          have F2 := F.2.1
          have m1794 := st_fr s1755 s1740.2.2.1 (by decide)
          have m1795 := st_fr s1770 m1794 (by decide)
          have m1796 := st_fr s1782 m1795 (by decide)
          have m1797 := st_fr s1786 m1796 (by decide)
          have m1798 := st_fr s1790 m1797 (by decide)
          have gz : g_mnt (g_mbu g hh c A1742) = g_mnt g := rfl
          have six1799 : ∀ j : Int, 0 ≤ j → j < 6 → 0 ≤ a_g A1742 j ∧ a_g A1742 j ≤ 63 := fun j j0 j1 => by
            rcases (show j = 0 ∨ j = 1 ∨ j = 2 ∨ j = 3 ∨ j = 4 ∨ j = 5 from by omega) with rfl | rfl | rfl | rfl | rfl | rfl
            · rw [q1744]; omega
            · rw [q1745]; omega
            · rw [q1746]; omega
            · rw [q1747]; omega
            · rw [q1748]; omega
            · rw [q1749]; omega
          have m1800 := st_fr s1770 s1755.2.2.1 (by decide)
          have m1801 := st_fr s1782 m1800 (by decide)
          have m1802 := st_fr s1786 m1801 (by decide)
          have m1803 := st_fr s1790 m1802 (by decide)
          have six1804 : ∀ j : Int, 0 ≤ j → j < 6 → 0 ≤ a_g A1757 j ∧ a_g A1757 j < c := fun j j0 j1 => by
            rcases (show j = 0 ∨ j = 1 ∨ j = 2 ∨ j = 3 ∨ j = 4 ∨ j = 5 from by omega) with rfl | rfl | rfl | rfl | rfl | rfl
            · rw [q1759]; omega
            · rw [q1760]; omega
            · rw [q1761]; omega
            · rw [q1762]; omega
            · rw [q1763]; omega
            · rw [q1764]; omega
          have m1805 := st_fr s1782 s1770.2.2.1 (by decide)
          have m1806 := st_fr s1786 m1805 (by decide)
          have m1807 := st_fr s1790 m1806 (by decide)
          have ivn := mbu_fin (e := _) (hh := hh) (c := c) iv (by omega) (by omega) (by omega) (by omega) (by omega) z1793w (by omega) (fun q n31 n32 n33 n34 => (s1790.2.2.2.1 q n31).trans ((s1786.2.2.2.1 q n31).trans ((s1782.2.2.2.1 q n31).trans ((s1770.2.2.2.1 q n34).trans ((s1755.2.2.2.1 q n33).trans ((s1740.2.2.2.1 q n32).trans ((s1728.2.2.2.1 q n32).trans ((s1715.2.2.2.1 q n34).trans ((s1700.2.2.2.1 q n33).trans ((s1685.2.2.2.1 q n32).trans ((s1674.2.2.2.1 q n32).trans ((s1663.2.2.2.1 q n32).trans ((s1651.2.2.2.1 q n34).trans ((s1637.2.2.2.1 q n33).trans ((s1623.2.2.2.1 q n32).trans ((s1613.2.2.2.1 q n32).trans ((s1603.2.2.2.1 q n32).trans ((s1592.2.2.2.1 q n34).trans ((s1579.2.2.2.1 q n33).trans ((s1566.2.2.2.1 q n32).trans ((s1557.2.2.2.1 q n32).trans ((s1548.2.2.2.1 q n32).trans ((s1538.2.2.2.1 q n34).trans ((s1526.2.2.2.1 q n33).trans ((s1514.2.2.2.1 q n32).trans ((s1506.2.2.2.1 q n32).trans ((s1498.2.2.2.1 q n32).trans ((s1489.2.2.2.1 q n34).trans ((s1477.2.2.2.1 q n33).trans ((s1466.2.2.2.1 q n32).trans ((s1459.2.2.2.1 q n32).trans ((s1453.2.2.2.1 q n31).trans ((s1449.2.2.2.1 q n31).trans (rfl)))))))))))))))))))))))))))))))))) s1790.2.2.1 ⟨_, _, _, _, _, _, _, _, _, _, _, _, _, _, rfl, by omega, by omega, by omega, by omega, by omega, by omega, by omega, by omega, by omega, by omega, by omega, by omega, by omega, by omega, by omega, by omega, by omega, by omega, by omega, by omega, by omega, by omega, by omega, by omega, by omega, by omega, by omega, by omega, by omega, by omega, by omega, by omega, by omega, by omega, by omega, by omega, by omega, by omega⟩ m1798 six1799 m1803 six1804 ⟨_, m1807⟩
          have ttA : w_tt 6 (a_g A1742) := fun j j0 j1 => by
            rcases (show j = 0 ∨ j = 1 ∨ j = 2 ∨ j = 3 ∨ j = 4 ∨ j = 5 from by omega) with rfl | rfl | rfl | rfl | rfl | rfl
            · rw [q1744]; decide +kernel
            · rw [q1745]; decide +kernel
            · rw [q1746]; decide +kernel
            · rw [q1747]; decide +kernel
            · rw [q1748]; decide +kernel
            · rw [q1749]; decide +kernel
          exact k0 _ (g_mbu g hh c A1742) h1791 ivn ch_gmbu (by omega) (by omega) rfl ⟨by omega, by omega, by omega, by omega, by omega⟩ ⟨rfl, rfl, by rw [hk]; exact ttA⟩
      · refine w_icI (x := (-2)) wn_2 (w_ri ?_)
        exact k1 h iv F (by omega)
    · refine w_eqzt (by omega) (by omega) (by omega)  (w_run k_602142 (w_icI (x := (-2)) wn_2 (w_ri ?_)))
      exact k1 h iv F (by omega)
  · refine w_eqzt (by omega) (by omega) (by omega)  (w_run k_602142 (w_icI (x := (-2)) wn_2 (w_ri ?_)))
    exact k1 h iv F (by omega)
