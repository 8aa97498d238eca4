/-! COUNTING the towns that are met -/
def w_ct (A : Nat) (n : Nat) : Int := Nat.rec (motive := fun _ => Int) 0 (fun k ih => if a_g A (k : Int) = -1 then ih else ih + 1) n
theorem ct_s (A n : Nat) : w_ct A (n + 1) = if a_g A (n : Int) = -1 then w_ct A n else w_ct A n + 1 := rfl
theorem ct_le (A n : Nat) : 0 ≤ w_ct A n ∧ w_ct A n ≤ n := by
  induction n with
  | zero => exact ⟨Int.le_refl _, Int.le_refl _⟩
  | succ n ih => rw [ct_s]; split <;> omega
theorem ct_congr {A A' n : Nat} (h : ∀ j : Int, 0 ≤ j → j < n → a_g A' j = a_g A j) : w_ct A' n = w_ct A n := by
  induction n with
  | zero => rfl
  | succ n ih => rw [ct_s, ct_s, ih (fun j j0 j1 => h j j0 (by omega)), h n (by omega) (by omega)]
theorem ct_upd {A A' : Nat} {x v : Int} (hx0 : 0 ≤ x) (hA : a_g A x = -1) (hv : v ≠ -1) : ∀ {n : Nat}, x < n → (∀ j : Int, 0 ≤ j → j < n → a_g A' j = if j = x then v else a_g A j) → w_ct A' n = w_ct A n + 1 := by
  intro n
  induction n with
  | zero => intro h; omega
  | succ n ih =>
    intro hx hu
    rw [ct_s, ct_s, hu n (by omega) (by omega)]
    by_cases hn : (n : Int) = x
    · rw [if_pos hn, if_neg hv, hn, if_pos hA, ct_congr (A := A) (fun j j0 j1 => by rw [hu j j0 (by omega), if_neg (by omega)])]
    · rw [if_neg hn, ih (by omega) (fun j j0 j1 => hu j j0 (by omega))]
      split <;> omega
theorem ct_lt {A n : Nat} {x : Int} (hx0 : 0 ≤ x) (hx1 : x < n) (hn : n ≤ 2147483648) (hA : a_g A x = -1) : w_ct A n < n := by
  have h1 := ct_upd (A' := m_au A (w_i x) (w_i 0)) (v := 0) hx0 hA (by decide) hx1 (fun j j0 j1 => ag_u hx0 (by omega) (by decide) (by decide) j0 (by omega))
  have h2 := (ct_le (m_au A (w_i x) (w_i 0)) n).2
  omega
theorem ct_pos {A : Nat} {x : Int} (hx0 : 0 ≤ x) (hA : a_g A x ≠ -1) : ∀ {n : Nat}, x < n → 1 ≤ w_ct A n := by
  intro n
  induction n with
  | zero => intro h; omega
  | succ n ih =>
    intro hx
    rw [ct_s]
    have h0 := (ct_le A n).1
    by_cases hn : (n : Int) = x
    · rw [hn, if_neg hA]; omega
    · have := ih (by omega)
      split <;> omega
theorem ct_0 {A n : Nat} (h : ∀ j : Int, 0 ≤ j → j < n → a_g A j = -1) : w_ct A n = 0 := by
  induction n with
  | zero => rfl
  | succ n ih => rw [ct_s, h n (by omega) (by omega), if_pos rfl]; exact ih (fun j j0 j1 => h j j0 (by omega))
def e_9 (g : w_G) (kpr sta fnd kco : Int) : m_E := .inr (.inr (5, [.inr (.inl (some 1)), .inr (.inl (some 10)), .inl (w_i kpr), .inr (.inl (some 11)), .inl (w_i sta), .inr (.inl (some (g_rw g))), .inl (w_i fnd), .inr (.inl (some (g_stp g))), .inr (.inl (some (g_ahd g))), .inr (.inl (some (g_cst g))), .inr (.inl (some (g_chp g))), .inl (w_i kco)]))
/-- as many towns are met as are told, none further than they are many; b at least -/
def w_SF (g : w_G) (o : w_O) (h : m_H) (b : Int) : Prop := ∃ (kpr sta fnd kco : Int) (A : Nat), m_at h.2.2 9 = some (e_9 g kpr sta fnd kco) ∧ m_at h.2.2 (g_stp g) = some (.inl (false, (o (g_stp g)).2, A)) ∧
  0 ≤ kpr ∧ kpr ≤ 1 ∧ 0 ≤ kco ∧ kco ≤ 1 ∧ -2147483648 ≤ sta ∧ sta ≤ 2147483647 ∧ 0 ≤ fnd ∧ fnd ≤ g_L g ∧ b ≤ fnd ∧ (sta = -1 ∨ (0 ≤ sta ∧ sta < g_N g ∧ g_N g ≤ g_L g ∧ 1 ≤ fnd)) ∧ g_N g ≤ g_L g ∧ w_ct A (g_N g).toNat = fnd ∧ ∀ v : Int, 0 ≤ v → v < g_N g → -1 ≤ a_g A v ∧ a_g A v < fnd
theorem sf_fr {g : w_G} {o : w_O} {h h2 : m_H} {b : Int} {W : List Nat} (iv : w_Inv g o h) (sf : w_SF g o h b) (hf : w_fr o W h h2) (hW : (W.contains 9 || W.contains 101) = false) : w_SF g o h2 b := by
  rw [Bool.or_eq_false_iff] at hW
  obtain ⟨kpr, sta, fnd, kco, A, p9, pS, rest⟩ := sf
  exact ⟨kpr, sta, fnd, kco, A, fr_at hf p9 iv (ow_9 iv) hW.1 rfl, fr_at hf pS iv (ow_stp iv) hW.2 rfl, rest⟩
theorem sf_1 {g : w_G} {o : w_O} {h : m_H} {b x : Int} (sf : w_SF g o h b) {A : Nat} (hA : m_at h.2.2 (g_stp g) = some (.inl (false, (o (g_stp g)).2, A))) (hx0 : 0 ≤ x) (hx1 : x < g_N g) (hm : a_g A x ≠ -1) : w_SF g o h 1 := by
  obtain ⟨kpr, sta, fnd, kco, A2, p9, pS, a1, a2, a3, a4, a5, a6, a7, a8, a9, a10, a11, a12, a13⟩ := sf
  cases pS.symm.trans hA
  have := ct_pos hx0 hm (n := (g_N g).toNat) (by omega)
  exact ⟨kpr, sta, fnd, kco, A, p9, pS, a1, a2, a3, a4, a5, a6, a7, a8, by omega, a10, a11, a12, a13⟩
/-- the rows tell of the town in `start` -/
def w_up (g : w_G) (o : w_O) (h : m_H) : Prop := ∃ (kpr sta fnd kco : Int), m_at h.2.2 9 = some (e_9 g kpr sta fnd kco) ∧ 0 ≤ kpr ∧ kpr ≤ 1 ∧ 0 ≤ kco ∧ kco ≤ 1 ∧ 0 ≤ sta ∧ sta < g_N g ∧ g_N g ≤ g_L g ∧ 1 ≤ fnd ∧ fnd ≤ g_L g
theorem up_fr {g : w_G} {o : w_O} {h h2 : m_H} {W : List Nat} (iv : w_Inv g o h) (up : w_up g o h) (hf : w_fr o W h h2) (hW : W.contains 9 = false) : w_up g o h2 := by
  obtain ⟨kpr, sta, fnd, kco, p9, rest⟩ := up
  exact ⟨kpr, sta, fnd, kco, fr_at hf p9 iv (ow_9 iv) hW rfl, rest⟩
theorem sf_dn {g : w_G} {o : w_O} {h : m_H} (sf : w_SF g o h 1) : w_SF g o h 0 := by
  obtain ⟨kpr, sta, fnd, kco, A, p9, pS, a1, a2, a3, a4, a5, a6, a7, a8, a9, rest⟩ := sf
  exact ⟨kpr, sta, fnd, kco, A, p9, pS, a1, a2, a3, a4, a5, a6, a7, a8, by omega, rest⟩
