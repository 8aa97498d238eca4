/-! POWERS and digits -/
theorem pw_0 {c : Int} : (0 : Int) < w_pw c 0 := by show (0 : Int) < c ^ (0 : Nat); rw [Int.pow_zero]; decide
theorem pw_00 {c : Int} : w_pw c 0 = 1 := by show c ^ (0 : Nat) = 1; exact Int.pow_zero _
theorem pw_s {c n : Int} (h : 0 ≤ n) : w_pw c (n + 1) = w_pw c n * c := by
  unfold w_pw
  rw [show (n + 1).toNat = n.toNat + 1 by omega, Int.pow_succ]
theorem pw_pos {c : Int} (hc : 1 ≤ c) (n : Int) : 1 ≤ w_pw c n := by
  unfold w_pw
  generalize n.toNat = k
  induction k with
  | zero => rw [Int.pow_zero]; decide
  | succ k ih =>
    rw [Int.pow_succ]
    have := Int.mul_le_mul ih hc (by omega) (by omega)
    omega
theorem pw_le {c m n : Int} (hc : 1 ≤ c) (hm : 0 ≤ m) (hn : m ≤ n) : w_pw c m ≤ w_pw c n := by
  obtain ⟨k, rfl⟩ : ∃ k : Nat, n = m + k := ⟨(n - m).toNat, by omega⟩
  clear hn
  induction k with
  | zero => show w_pw c m ≤ w_pw c (m + 0); rw [Int.add_zero]; exact Int.le_refl _
  | succ k ih =>
    rw [show m + ((k + 1 : Nat) : Int) = (m + k) + 1 by omega, pw_s (by omega)]
    have h1 := pw_pos hc (m + k)
    have h2 : w_pw c (m + k) * 1 ≤ w_pw c (m + k) * c := Int.mul_le_mul_of_nonneg_left hc (by omega)
    omega
/-- one digit more -/
theorem pw_dig {c n a b : Int} (hn : 0 ≤ n) (h : a < w_pw c n) (hc : 1 ≤ c) (hb : b < c) (ha : 0 ≤ a) : a * c + b < w_pw c (n + 1) := by
  rw [pw_s hn]
  have h1 : a * c ≤ (w_pw c n - 1) * c := Int.mul_le_mul_of_nonneg_right (by omega) (by omega)
  rw [Int.sub_mul, Int.one_mul] at h1
  omega
theorem mul_rg {a b x y : Int} (ha : 0 ≤ a) (hx : a ≤ x) (hb : 0 ≤ b) (hy : b ≤ y) : 0 ≤ a * b ∧ a * b ≤ x * y := ⟨Int.mul_nonneg ha hb, Int.mul_le_mul hx hy hb (by omega)⟩
theorem iv_N {g : w_G} {o : w_O} {h : m_H} (iv : w_Inv g o h) : g_N g = w_pw (g_C g) (g_H g) := iv.2.1.2.2.2.2.1
section
variable {K : m_X} {lv r' : List m_V} {h : m_H} {d q : Nat} {x : Int} {o : Option Nat} {Q : Option m_V → m_H → Prop}
theorem w_aaldI {ci n : Nat} {l : List (Option Nat)} (ha : m_at h.2.2 q = some (.inr (.inl (ci, n, l)))) (h0 : 0 ≤ x) (h1 : x < n) (hn : n < 4294967296) (hl : l[x.toNat]? = some o) (hK : wx d K lv (.inr (.inl o) :: r') h Q) : wx d (x_aald K) lv (.inl (w_i x) :: .inr (.inl (some q)) :: r') h Q := w_aald ha (wi_lt_of h0 h1 hn) (by rw [wi_pos h0 (by omega)]; exact hl) hK
end
