/-! THE DIGITS of the town now, and two houses in one night -/
theorem pw_dm {c : Int} (hc : 1 ≤ c) {k : Int} (k0 : 0 ≤ k) (x : Int) : x / w_pw c (k + 1) = x / c / w_pw c k := by
  rw [pw_s k0, Int.mul_comm, Int.ediv_ediv_of_nonneg (by omega)]
def w_tl (g : w_G) (h : m_H) (num i : Int) : Prop := ∃ A : Nat, m_at h.2.2 33 = some (.inl (false, 6, A)) ∧ (∀ j : Int, 0 ≤ j → j < 6 → 0 ≤ a_g A j ∧ a_g A j < g_mC g) ∧ ∀ j : Int, i < j → j < g_mH g → num / w_pw (g_mC g) (j - i - 1) % g_mC g = a_g A j
def w_td (g : w_G) (h : m_H) (x : Int) : Prop := ∃ A : Nat, m_at h.2.2 33 = some (.inl (false, 6, A)) ∧ (∀ j : Int, 0 ≤ j → j < 6 → 0 ≤ a_g A j ∧ a_g A j < g_mC g) ∧ ∀ j : Int, 0 ≤ j → j < g_mH g → w_dg g x j = a_g A j
section
variable {g : w_G} {o : w_O} {h h2 : m_H} {W : List Nat} {num i x : Int}
theorem tl_fr (iv : w_Inv g o h) (tl : w_tl g h num i) (hf : w_fr o W h h2) (hW : W.contains 33 = false) : w_tl g h2 num i := by
  obtain ⟨A, p, rest⟩ := tl
  exact ⟨A, fr_at hf p iv (ow_33 iv) hW rfl, rest⟩
theorem td_fr (iv : w_Inv g o h) (td : w_td g h x) (hf : w_fr o W h h2) (hW : W.contains 33 = false) : w_td g h2 x := by
  obtain ⟨A, p, rest⟩ := td
  exact ⟨A, fr_at hf p iv (ow_33 iv) hW rfl, rest⟩
theorem tl_0 (iv : w_Inv g o h) (hi : g_mH g - 1 ≤ i) : w_tl g h 0 i := by
  obtain ⟨_, p, A, rfl, hA⟩ := iv_33 iv
  exact ⟨A, p, hA, fun j j0 j1 => absurd j1 (by omega)⟩
theorem tl_s {A : Nat} (hc : 1 ≤ g_mC g) (i0 : 0 ≤ i) (i1 : i < 6) (p : m_at h.2.2 33 = some (.inl (false, 6, A))) (hA : ∀ j : Int, 0 ≤ j → j < 6 → 0 ≤ a_g A j ∧ a_g A j < g_mC g) (hT : ∀ j : Int, i < j → j < g_mH g → num / w_pw (g_mC g) (j - i - 1) % g_mC g = a_g A j) {i2 : Int} (hi2 : i2 = i - 1) : w_tl g h (num * g_mC g + a_g A i) i2 := by
  subst hi2
  refine ⟨A, p, hA, fun j j0 j1 => ?_⟩
  have ha := hA i i0 i1
  by_cases hj : j = i
  · rw [hj, show i - (i - 1) - 1 = 0 from by omega, pw_00, Int.ediv_one, Int.add_comm, Int.add_mul_emod_self_right, Int.emod_eq_of_lt ha.1 ha.2]
  · rw [show j - (i - 1) - 1 = (j - i - 1) + 1 from by omega, pw_dm hc (by omega), Int.add_comm, Int.add_mul_ediv_right _ _ (by omega), Int.ediv_eq_zero_of_lt ha.1 ha.2, Int.zero_add]
    exact hT j (by omega) j1
theorem td_of (tl : w_tl g h x i) (hi : i = -1) : w_td g h x := by
  subst hi
  obtain ⟨A, p, hA, hT⟩ := tl
  refine ⟨A, p, hA, fun j j0 j1 => ?_⟩
  have := hT j (by omega) j1
  rw [show j - -1 - 1 = j from by omega] at this
  exact this
theorem dg_ne {a b t : Int} (hc : 1 ≤ g_mC g) (a0 : 0 ≤ a) (b0 : 0 ≤ b) (hab : a ≠ b) (t0 : 0 ≤ t) (t1 : t < g_mC g) : w_dg g (w_bs g x a t) b = w_dg g x b := by
  have hu := pw_pos hc a
  have hub := pw_pos hc b
  have e0 : w_dg g x a = x / w_pw (g_mC g) a - g_mC g * (x / w_pw (g_mC g) a / g_mC g) := by
    have := Int.emod_def (x / w_pw (g_mC g) a) (g_mC g)
    unfold w_dg; omega
  by_cases hlt : a < b
  · have eu : w_pw (g_mC g) b = w_pw (g_mC g) a * (g_mC g * w_pw (g_mC g) (b - a - 1)) := by
      have e1 := pw_add (c := g_mC g) (a := a + 1) (b := b - a - 1) (by omega) (by omega)
      rw [show a + 1 + (b - a - 1) = b from by omega, pw_s a0] at e1
      rw [e1, Int.mul_assoc]
    have key : w_bs g x a t / w_pw (g_mC g) a / g_mC g = x / w_pw (g_mC g) a / g_mC g := by
      unfold w_bs
      rw [Int.add_mul_ediv_left x _ (by omega), e0]
      generalize x / w_pw (g_mC g) a = q
      rw [show q + (t - (q - g_mC g * (q / g_mC g))) = t + g_mC g * (q / g_mC g) from by omega, Int.add_mul_ediv_left _ _ (by omega), Int.ediv_eq_zero_of_lt t0 t1, Int.zero_add]
    show w_bs g x a t / w_pw (g_mC g) b % g_mC g = x / w_pw (g_mC g) b % g_mC g
    rw [eu, ← Int.ediv_ediv_of_nonneg (by omega), ← Int.ediv_ediv_of_nonneg (by omega), key, Int.ediv_ediv_of_nonneg (by omega), Int.ediv_ediv_of_nonneg (by omega)]
  · have eu : w_pw (g_mC g) a = w_pw (g_mC g) b * (g_mC g * w_pw (g_mC g) (a - b - 1)) := by
      have e1 := pw_add (c := g_mC g) (a := b + 1) (b := a - b - 1) (by omega) (by omega)
      rw [show b + 1 + (a - b - 1) = a from by omega, pw_s b0] at e1
      rw [e1, Int.mul_assoc]
    show w_bs g x a t / w_pw (g_mC g) b % g_mC g = x / w_pw (g_mC g) b % g_mC g
    unfold w_bs
    rw [eu, Int.mul_assoc, Int.add_mul_ediv_left x _ (by omega), Int.mul_assoc, Int.add_mul_emod_self_left]
theorem night_rg {a b ua ub ca cb : Int} (hc : 1 ≤ g_mC g) (hN : g_mN g = w_pw (g_mC g) (g_mH g)) (a0 : 0 ≤ a) (a1 : a < g_mH g) (b0 : 0 ≤ b) (b1 : b < g_mH g) (hab : a ≠ b) (x0 : 0 ≤ x) (x1 : x < g_mN g) (ea : w_dg g x a = ca) (eb : w_dg g x b = cb) (fa : 0 ≤ ca ∧ ca < g_mC g) (fb : 0 ≤ cb ∧ cb < g_mC g) (hua : ua = w_pw (g_mC g) a) (hub : ub = w_pw (g_mC g) b) :
    0 ≤ x + ua * (cb - ca) + ub * (ca - cb) ∧ x + ua * (cb - ca) + ub * (ca - cb) < g_mN g := by
  have r1 := bs_rg (g := g) (x := x) (i := a) (t := cb) hc a0 a1 hN x0 x1 fb.1 fb.2
  have r2 := bs_rg (g := g) (x := w_bs g x a cb) (i := b) (t := ca) hc b0 b1 hN r1.1 r1.2 fa.1 fa.2
  have e := dg_ne (g := g) (x := x) (a := a) (b := b) (t := cb) hc a0 b0 hab fb.1 fb.2
  have e2 : w_bs g (w_bs g x a cb) b ca = x + ua * (cb - ca) + ub * (ca - cb) := by
    show w_bs g x a cb + w_pw (g_mC g) b * (ca - w_dg g (w_bs g x a cb) b) = _
    rw [e, eb, hub, hua, ← ea]
    rfl
  rw [e2] at r2
  exact r2
end
