/-! WHAT CLASS AND REFERENCE HAVE IN COMMON -/
/-- houses, colours, painters -/
def w_eq (g : w_G) : Prop := g_H g = g_mH g ∧ g_C g = g_mC g ∧ g_np g = g_mnp g ∧ ∀ j : Int, 0 ≤ j → j < g_np g → g_PK g j = g_mPK g j ∧ g_PN g j = g_mPN g j
/-- a call that keeps them on both sides -/
def w_kp (g g2 : w_G) : Prop := g_H g2 = g_H g ∧ g_C g2 = g_C g ∧ g_np g2 = g_np g ∧ g_mH g2 = g_mH g ∧ g_mC g2 = g_mC g ∧ g_mnp g2 = g_mnp g ∧ (∀ j, g_PK g2 j = g_PK g j) ∧ (∀ j, g_PN g2 j = g_PN g j) ∧ (∀ j, g_mPK g2 j = g_mPK g j) ∧ ∀ j, g_mPN g2 j = g_mPN g j
theorem kp_rf {g : w_G} : w_kp g g := ⟨rfl, rfl, rfl, rfl, rfl, rfl, fun _ => rfl, fun _ => rfl, fun _ => rfl, fun _ => rfl⟩
theorem kp_pub {g g2 : w_G} (p : w_pub g g2) : w_kp g g2 := ⟨pub_H p, pub_C p, pub_np p, pub_mH p, pub_mC p, pub_mnp p, pub_PK p, pub_PN p, pub_mPK p, pub_mPN p⟩
theorem kp_of {g g2 : w_G} (h0 : g2.1 0 = g.1 0) (h1 : g2.1 1 = g.1 1) (h3 : g2.1 3 = g.1 3) (h6 : g2.1 6 = g.1 6) (h7 : g2.1 7 = g.1 7) (h9 : g2.1 9 = g.1 9) (f1 : g2.2.1 1 = g.2.1 1) (f2 : g2.2.1 2 = g.2.1 2) (f4 : g2.2.1 4 = g.2.1 4) (f5 : g2.2.1 5 = g.2.1 5) : w_kp g g2 := ⟨h0, h1, h3, h6, h7, h9, fun j => congrFun f1 j, fun j => congrFun f2 j, fun j => congrFun f4 j, fun j => congrFun f5 j⟩
theorem eq_kp {g g2 : w_G} (k : w_kp g g2) (e : w_eq g) : w_eq g2 := by
  obtain ⟨a1, a2, a3, a4, a5, a6, a7, a8, a9, a10⟩ := k
  obtain ⟨e1, e2, e3, e4⟩ := e
  refine ⟨by omega, by omega, by omega, fun j j0 j1 => ?_⟩
  rw [a7, a8, a9, a10]
  exact e4 j j0 (by omega)
/-- build -/
def w_okB (hh c : Int) : Prop := 1 ≤ hh ∧ hh ≤ 6 ∧ 2 ≤ c ∧ c ≤ 5 ∧ w_pw c hh ≤ 4096
def w_cB (g g2 : w_G) (x hh c : Int) : Prop := (x = -2 ∧ w_kp g g2 ∧ ¬ w_okB hh c) ∨ (x = g_H g ∧ w_okB hh c ∧ g_H g2 = hh ∧ g_C g2 = c ∧ w_ch [0, 1, 2, 5] [0] g g2)
def w_mB (g g2 : w_G) (x hh c : Int) : Prop := (x = -2 ∧ w_kp g g2 ∧ ¬ w_okB hh c) ∨ (x = g_mH g ∧ w_okB hh c ∧ g_mH g2 = hh ∧ g_mC g2 = c ∧ w_ch [6, 7, 8, 11] [3] g g2)
theorem eq_B {g g1 g2 : w_G} {x y hh c : Int} (e : w_eq g) (h1 : w_cB g g1 x hh c) (h2 : w_mB g1 g2 y hh c) : w_eq g2 ∧ x = y := by
  rcases h1 with ⟨a1, a2, a3⟩ | ⟨a1, a2, a3, a4, a5⟩ <;> rcases h2 with ⟨b1, b2, b3⟩ | ⟨b1, b2, b3, b4, b5⟩
  · exact ⟨eq_kp b2 (eq_kp a2 e), by omega⟩
  · exact absurd b2 a3
  · exact absurd a2 b3
  · obtain ⟨e1, e2, e3, e4⟩ := e
    have c1 : g_mH g1 = g_mH g := a5.1 6 rfl
    have c2 : g_np g1 = g_np g := a5.1 3 rfl
    have c3 : g_mnp g1 = g_mnp g := a5.1 9 rfl
    have d1 : g_H g2 = g_H g1 := b5.1 0 rfl
    have d2 : g_C g2 = g_C g1 := b5.1 1 rfl
    have d3 : g_np g2 = g_np g1 := b5.1 3 rfl
    have d4 : g_mnp g2 = g_mnp g1 := b5.1 9 rfl
    refine ⟨⟨by omega, by omega, by omega, fun j j0 j1 => ?_⟩, by omega⟩
    have k1 : g_PK g2 j = g_PK g j := (congrFun (b5.2.1 1 rfl) j).trans (congrFun (a5.2.1 1 rfl) j)
    have k2 : g_PN g2 j = g_PN g j := (congrFun (b5.2.1 2 rfl) j).trans (congrFun (a5.2.1 2 rfl) j)
    have k3 : g_mPK g2 j = g_mPK g j := (congrFun (b5.2.1 4 rfl) j).trans (congrFun (a5.2.1 4 rfl) j)
    have k4 : g_mPN g2 j = g_mPN g j := (congrFun (b5.2.1 5 rfl) j).trans (congrFun (a5.2.1 5 rfl) j)
    rw [k1, k2, k3, k4]
    exact e4 j j0 (by omega)
/-- painter -/
def w_okP (kd nu : Int) : Prop := 0 ≤ kd ∧ kd ≤ 5 ∧ 0 ≤ nu ∧ nu ≤ 9
def w_xP (g g2 : w_G) (kd nu : Int) : Prop := g_np g2 = g_np g + 1 ∧ g_PK g2 (g_np g) = kd ∧ g_PN g2 (g_np g) = nu ∧ ∀ j : Int, 0 ≤ j → j < g_np g → g_PK g2 j = g_PK g j ∧ g_PN g2 j = g_PN g j
def w_xmP (g g2 : w_G) (kd nu : Int) : Prop := g_mnp g2 = g_mnp g + 1 ∧ g_mPK g2 (g_mnp g) = kd ∧ g_mPN g2 (g_mnp g) = nu ∧ ∀ j : Int, 0 ≤ j → j < g_mnp g → g_mPK g2 j = g_mPK g j ∧ g_mPN g2 j = g_mPN g j
def w_cP (g g2 : w_G) (x kd nu : Int) : Prop := (x = -2 ∧ w_kp g g2 ∧ ¬ w_okP kd nu) ∨ (x = -4 ∧ w_kp g g2 ∧ w_okP kd nu ∧ g_np g = 5) ∨ (x = g_np g ∧ w_okP kd nu ∧ g_np g ≤ 4 ∧ w_xP g g2 kd nu ∧ w_ch [3] [1, 2] g g2)
def w_mP (g g2 : w_G) (x kd nu : Int) : Prop := (x = -2 ∧ w_kp g g2 ∧ ¬ w_okP kd nu) ∨ (x = -4 ∧ w_kp g g2 ∧ w_okP kd nu ∧ g_mnp g = 5) ∨ (x = g_mnp g ∧ w_okP kd nu ∧ g_mnp g ≤ 4 ∧ w_xmP g g2 kd nu ∧ w_ch [9] [4, 5] g g2)
theorem eq_P {g g1 g2 : w_G} {x y kd nu : Int} (e : w_eq g) (h1 : w_cP g g1 x kd nu) (h2 : w_mP g1 g2 y kd nu) : w_eq g2 ∧ x = y := by
  have e3 := e.2.2.1
  rcases h1 with ⟨a1, a2, a3⟩ | ⟨a1, a2, a3, a4⟩ | ⟨a1, a2, a3, a4, a5⟩ <;> rcases h2 with ⟨b1, b2, b3⟩ | ⟨b1, b2, b3, b4⟩ | ⟨b1, b2, b3, b4, b5⟩
  · exact ⟨eq_kp b2 (eq_kp a2 e), by omega⟩
  · exact absurd b3 a3
  · exact absurd b2 a3
  · exact absurd a3 b3
  · exact ⟨eq_kp b2 (eq_kp a2 e), by omega⟩
  · have := a2.2.2.2.2.2.1; omega
  · exact absurd a2 b3
  · have c3 : g_mnp g1 = g_mnp g := a5.1 9 rfl
    omega
  · obtain ⟨e1, e2, e3, e4⟩ := e
    obtain ⟨x1, x2, x3, x4⟩ := a4
    obtain ⟨y1, y2, y3, y4⟩ := b4
    have c0 : g_H g1 = g_H g := a5.1 0 rfl
    have c1 : g_C g1 = g_C g := a5.1 1 rfl
    have c2 : g_mH g1 = g_mH g := a5.1 6 rfl
    have c4 : g_mC g1 = g_mC g := a5.1 7 rfl
    have c3 : g_mnp g1 = g_mnp g := a5.1 9 rfl
    have d1 : g_H g2 = g_H g1 := b5.1 0 rfl
    have d2 : g_C g2 = g_C g1 := b5.1 1 rfl
    have d3 : g_np g2 = g_np g1 := b5.1 3 rfl
    have d4 : g_mH g2 = g_mH g1 := b5.1 6 rfl
    have d5 : g_mC g2 = g_mC g1 := b5.1 7 rfl
    refine ⟨⟨by omega, by omega, by omega, fun j j0 j1 => ?_⟩, by omega⟩
    have k1 : g_PK g2 j = g_PK g1 j := congrFun (b5.2.1 1 rfl) j
    have k2 : g_PN g2 j = g_PN g1 j := congrFun (b5.2.1 2 rfl) j
    have k3 : g_mPK g1 j = g_mPK g j := congrFun (a5.2.1 4 rfl) j
    have k4 : g_mPN g1 j = g_mPN g j := congrFun (a5.2.1 5 rfl) j
    rw [k1, k2]
    by_cases hj : j = g_np g
    · have hj2 : j = g_mnp g1 := by omega
      rw [hj, x2, x3, ← hj, hj2, y2, y3]
      exact ⟨rfl, rfl⟩
    · have z1 := x4 j j0 (by omega)
      have z2 := y4 j j0 (by omega)
      have z3 := e4 j j0 (by omega)
      rw [z1.1, z1.2, z2.1, z2.2, k3, k4]
      exact z3
/-- taken -/
def w_tk (K N np pa kd x : Int) : Prop := (x = -2 ∧ (kd < 0 ∨ 5 < kd)) ∨ (x = -11 ∧ 0 ≤ kd ∧ kd ≤ 5 ∧ (pa < 0 ∨ np ≤ pa)) ∨ (0 ≤ kd ∧ kd ≤ 5 ∧ 0 ≤ pa ∧ pa < np ∧ (x = N ∧ (K = kd ∨ kd = 0 ∨ (kd = 1 ∧ K = 3) ∨ (kd = 2 ∧ 3 < K)))) ∨ (0 ≤ kd ∧ kd ≤ 5 ∧ 0 ≤ pa ∧ pa < np ∧ x = -13 ∧ K ≠ kd ∧ kd ≠ 0 ∧ (kd ≠ 1 ∨ K ≠ 3) ∧ (kd ≠ 2 ∨ K ≤ 3))
theorem eq_taken {g g1 g2 : w_G} {x y pa kd : Int} (e : w_eq g) (k1 : w_kp g g1) (k2 : w_kp g1 g2) (h1 : w_tk (g_PK g pa) (g_PN g pa) (g_np g) pa kd x) (h2 : w_tk (g_mPK g1 pa) (g_mPN g1 pa) (g_mnp g1) pa kd y) : x = y := by
  obtain ⟨-, -, -, -, -, a6, -, -, a9, a10⟩ := k1
  obtain ⟨-, -, e3, e4⟩ := e
  rw [a9, a10, a6, ← e3] at h2
  unfold w_tk at h1 h2
  by_cases hp : 0 ≤ pa ∧ pa < g_np g
  · obtain ⟨q1, q2⟩ := e4 pa hp.1 hp.2
    rw [q1, q2] at h1
    omega
  · omega
