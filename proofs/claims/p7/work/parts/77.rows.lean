/-! THE SEARCH'S ROWS, made anew, five one after another, each put in its place at once -/
theorem nw_wf {h h' : m_H} {n : Nat} {e : m_E} (hs : h_nw h e n h') : m_wf h'.2.2 h'.1 := hs.2.2.2.2
/-- what is new is for something of its own -/
def o_nw (o : w_O) (a t n : Nat) : w_O := fun q => if q = a then (t, n) else o q
theorem onw_s {o : w_O} {a t n : Nat} : o_nw o a t n a = (t, n) := if_pos rfl
theorem onw_ne {o : w_O} {a t n q : Nat} (h : q ≠ a) : o_nw o a t n q = o q := if_neg h
theorem onw_oe {g : w_G} {o : w_O} {h : m_H} {t n a : Nat} (h9 : ∀ q, h.1 ≤ q → (o q).1 = 999) (ha : h.1 ≤ a) : w_oe o (o_nw o a t n) := fun q hq => onw_ne (fun e => hq (h9 q (by omega)))
def g_rows (g : w_G) (a : Nat) : w_G := (fun k => if k = 12 then g_N g else g.1 k, g.2.1, fun k => a + k)
theorem rows_pub {g : w_G} {a : Nat} : w_pub g (g_rows g a) := ⟨fun k hk => if_neg (by omega), rfl⟩
theorem rows_L {g : w_G} {a : Nat} : g_L (g_rows g a) = g_N g := rfl
theorem rows_N {g : w_G} {a : Nat} : g_N (g_rows g a) = g_N g := rfl
def o_rows (o : w_O) (a n : Nat) : w_O := fun q => if q = a then (100, n) else if q = a + 1 then (101, n) else if q = a + 2 then (102, n) else if q = a + 3 then (103, n) else if q = a + 4 then (104, n) else o q
theorem rows_oe {o : w_O} {a n : Nat} (h9 : ∀ q, a ≤ q → (o q).1 = 999) : w_oe o (o_rows o a n) := fun q hq => by
  have : ¬ a ≤ q := fun h => hq (h9 q h)
  unfold o_rows
  rw [if_neg (by omega), if_neg (by omega), if_neg (by omega), if_neg (by omega), if_neg (by omega)]
/-- the law of the whole -/
theorem inv_rows {g : w_G} {o : w_O} {h h' : m_H} {n : Nat} {kpr : Int} (iv : w_Inv g o h) (hn : (n : Int) = g_N g) (hk0 : 0 ≤ kpr) (hk1 : kpr ≤ 1) (hs1 : h'.1 = h.1 + 5) (hwf : m_wf h'.2.2 h'.1) (hold : ∀ q, q < h.1 → q ≠ 9 → m_at h'.2.2 q = m_at h.2.2 q) (h9 : m_at h'.2.2 9 = some (e_9 (g_rows g h.1) kpr (-1) 0 0))
    (r0 : m_at h'.2.2 h.1 = some (.inl (false, n, 0))) (r1 : m_at h'.2.2 (h.1 + 1) = some (.inl (false, n, 0))) (r2 : m_at h'.2.2 (h.1 + 2) = some (.inl (false, n, 0))) (r3 : m_at h'.2.2 (h.1 + 3) = some (.inl (false, n, 0))) (r4 : m_at h'.2.2 (h.1 + 4) = some (.inl (true, n, 0))) : w_Inv (g_rows g h.1) (o_rows o h.1 n) h' := by
  have W := iv_wc iv
  obtain ⟨i1, i2, i3, i4, i5, i6, i7⟩ := iv
  have hoe : w_oe o (o_rows o h.1 n) := rows_oe i4
  have t0 : o_rows o h.1 n h.1 = (100, n) := if_pos rfl
  have t1 : o_rows o h.1 n (h.1 + 1) = (101, n) := by unfold o_rows; rw [if_neg (by omega), if_pos rfl]
  have t2 : o_rows o h.1 n (h.1 + 2) = (102, n) := by unfold o_rows; rw [if_neg (by omega), if_neg (by omega), if_pos rfl]
  have t3 : o_rows o h.1 n (h.1 + 3) = (103, n) := by unfold o_rows; rw [if_neg (by omega), if_neg (by omega), if_neg (by omega), if_pos rfl]
  have t4 : o_rows o h.1 n (h.1 + 4) = (104, n) := by unfold o_rows; rw [if_neg (by omega), if_neg (by omega), if_neg (by omega), if_neg (by omega), if_pos rfl]
  have z : ∀ x : Int, a_g 0 x = 0 := ag_0
  refine ⟨hwf, pub_wf rows_pub i2, fun q hq => ?_, fun q hq => ?_, by omega, fun q e he => ?_, ?_⟩
  · rw [← i3 q hq]
    unfold o_rows
    rw [if_neg (by omega), if_neg (by omega), if_neg (by omega), if_neg (by omega), if_neg (by omega)]
  · unfold o_rows
    rw [if_neg (by omega), if_neg (by omega), if_neg (by omega), if_neg (by omega), if_neg (by omega)]
    exact i4 q (by omega)
  · by_cases hq : q < h.1
    · by_cases hq9 : q = 9
      · subst hq9
        cases h9.symm.trans he
        unfold w_ty
        rw [show (o_rows o h.1 n 9).1 = 9 by rw [hoe 9 (by rw [i3 9 (by decide)]; decide), i3 9 (by decide)]; rfl]
        exact ⟨kpr, -1, 0, 0, rfl, by omega, by omega, by omega, by omega, by omega, by omega, by omega, by omega, hk0, hk1, by omega, by omega, by omega, by rw [rows_L]; omega, Or.inl rfl⟩
      · rw [hold q hq hq9] at he
        refine ty_mono rows_pub hoe (fun h9 => ?_) (i6 q e he)
        -- no other cell is for what cell 9 is
        by_cases hq67 : q < 67
        · rw [i3 q hq67] at h9
          have key : ∀ q, q < 67 → q ≠ 9 → (o_0.getD q (0, 0)).1 ≠ 9 := by decide
          exact key q hq67 hq9 h9
        · have := i7.2.2.2.2.2.2.2.2.2.2.2.2 q (by omega)
          omega
    · have hl := mw_lt hwf he
      rw [hs1] at hl
      by_cases e0 : q = h.1
      · subst e0
        cases r0.symm.trans he
        unfold w_ty
        rw [t0]
        exact ⟨0, by rw [t0], fun j j0 j1 => by rw [z, t0]; rw [t0] at j1; simp at j1; omega, by rw [t0]; simp; omega⟩
      by_cases e1 : q = h.1 + 1
      · subst e1
        cases r1.symm.trans he
        unfold w_ty
        rw [t1]
        exact ⟨0, by rw [t1], by rw [t1]; simp; omega⟩
      by_cases e2 : q = h.1 + 2
      · subst e2
        cases r2.symm.trans he
        unfold w_ty
        rw [t2]
        exact ⟨0, by rw [t2], by rw [t2]; simp; omega⟩
      by_cases e3 : q = h.1 + 3
      · subst e3
        cases r3.symm.trans he
        unfold w_ty
        rw [t3]
        exact ⟨0, by rw [t3], by rw [t3]; simp; omega⟩
      obtain rfl : q = h.1 + 4 := by omega
      cases r4.symm.trans he
      unfold w_ty
      rw [t4]
      exact ⟨0, by rw [t4], fun j j0 j1 => by rw [z]; omega, by rw [t4]; simp; omega⟩
  · refine ⟨by rw [rows_L]; omega, by rw [rows_L]; omega, ?_, ?_, ?_, ?_, ?_, ?_, ?_, ?_, ?_, ?_, fun q hq => ?_⟩
    · show (o_rows o h.1 n (h.1 + 0)).1 = 100; rw [Nat.add_zero, t0]
    · show (o_rows o h.1 n (h.1 + 1)).1 = 101; rw [t1]
    · show (o_rows o h.1 n (h.1 + 2)).1 = 102; rw [t2]
    · show (o_rows o h.1 n (h.1 + 3)).1 = 103; rw [t3]
    · show (o_rows o h.1 n (h.1 + 4)).1 = 104; rw [t4]
    · show ((o_rows o h.1 n (h.1 + 0)).2 : Int) = _; rw [Nat.add_zero, t0, rows_L]; exact hn
    · show ((o_rows o h.1 n (h.1 + 1)).2 : Int) = _; rw [t1, rows_L]; exact hn
    · show ((o_rows o h.1 n (h.1 + 2)).2 : Int) = _; rw [t2, rows_L]; exact hn
    · show ((o_rows o h.1 n (h.1 + 3)).2 : Int) = _; rw [t3, rows_L]; exact hn
    · show ((o_rows o h.1 n (h.1 + 4)).2 : Int) = _; rw [t4, rows_L]; exact hn
    · unfold o_rows
      have := i7.2.2.2.2.2.2.2.2.2.2.2.2 q hq
      repeat' split
      all_goals first | exact this | exact Nat.le_of_ble_eq_true rfl
/-- the rows as they were, or five new ones -/
def w_gw (g : w_G) (h : m_H) (g2 : w_G) (h2 : m_H) : Prop := (h2.1 = h.1 ∧ h2.2.1 = h.2.1 ∧ g_L g2 = g_L g) ∨ (h2.1 = h.1 + 5 ∧ ((h2.2.1 : Nat) : Int) = ((h.2.1 : Nat) : Int) + 5 * g_N g ∧ g_L g < g_N g ∧ g_L g2 = g_N g)
theorem gw_rf {g : w_G} {h : m_H} : w_gw g h g h := Or.inl ⟨rfl, rfl, rfl⟩
theorem gw_fr {g g2 : w_G} {o : w_O} {h h1 h2 : m_H} {W : List Nat} (ha : w_gw g h g2 h1) (hf : w_fr o W h1 h2) : w_gw g h g2 h2 := by
  unfold w_gw
  rw [hf.1, hf.2.1]
  exact ha
theorem fr_gw {g g2 : w_G} {o : w_O} {h h1 h2 : m_H} {W : List Nat} (hf : w_fr o W h h1) (ha : w_gw g h1 g2 h2) : w_gw g h g2 h2 := by
  unfold w_gw at ha ⊢
  rw [hf.1, hf.2.1] at ha
  exact ha
/-- steps filled up to a place with NONE, nothing found yet -/
def w_fl (g : w_G) (o : w_O) (h : m_H) (i : Int) : Prop := ∃ (kpr : Int) (A : Nat), m_at h.2.2 9 = some (e_9 g kpr (-1) 0 0) ∧ 0 ≤ kpr ∧ kpr ≤ 1 ∧ m_at h.2.2 (g_stp g) = some (.inl (false, (o (g_stp g)).2, A)) ∧ ∀ j : Int, 0 ≤ j → j < i → a_g A j = -1
theorem fl_0 {g : w_G} {o : w_O} {h : m_H} {kpr : Int} (iv : w_Inv g o h) (p9 : m_at h.2.2 9 = some (e_9 g kpr (-1) 0 0)) (k0 : 0 ≤ kpr) (k1 : kpr ≤ 1) : w_fl g o h 0 := by
  obtain ⟨_, m, A, rfl, _⟩ := iv_101 iv (ow_stp iv)
  exact ⟨kpr, A, p9, k0, k1, m, fun j j0 j1 => absurd j1 (by omega)⟩
theorem wi_le {x : Int} (h0 : 0 ≤ x) (h1 : x ≤ 1000000) : w_i x ≤ 1000000 := by rw [wi_pos h0 (by omega)]; omega
