/-! COUNTING the entries of a row that are not a told number -/
def w_cnt (c : Int) (A : Nat) (n : Nat) : Int := Nat.rec (motive := fun _ => Int) 0 (fun k ih => if a_g A (k : Int) = c then ih else ih + 1) n
section
variable {c : Int} {A A' n : Nat}
theorem cv_s (c : Int) (A n : Nat) : w_cnt c A (n + 1) = if a_g A (n : Int) = c then w_cnt c A n else w_cnt c A n + 1 := rfl
theorem cv_le (c : Int) (A n : Nat) : 0 ≤ w_cnt c A n ∧ w_cnt c A n ≤ n := by
  induction n with
  | zero => exact ⟨Int.le_refl _, Int.le_refl _⟩
  | succ n ih => rw [cv_s]; split <;> omega
theorem cv_congr (h : ∀ j : Int, 0 ≤ j → j < n → a_g A' j = a_g A j) : w_cnt c A' n = w_cnt c A n := by
  induction n with
  | zero => rfl
  | succ n ih => rw [cv_s, cv_s, ih (fun j j0 j1 => h j j0 (by omega)), h n (by omega) (by omega)]
theorem cv_upd {x v : Int} (hx0 : 0 ≤ x) (hA : a_g A x = c) (hv : v ≠ c) : ∀ {n : Nat}, x < n → (∀ j : Int, 0 ≤ j → j < n → a_g A' j = if j = x then v else a_g A j) → w_cnt c A' n = w_cnt c A n + 1 := by
  intro n
  induction n with
  | zero => intro h; omega
  | succ n ih =>
    intro hx hu
    rw [cv_s, cv_s, hu n (by omega) (by omega)]
    by_cases hn : (n : Int) = x
    · rw [if_pos hn, if_neg hv, hn, if_pos hA, cv_congr (A := A) (fun j j0 j1 => by rw [hu j j0 (by omega), if_neg (by omega)])]
    · rw [if_neg hn, ih (by omega) (fun j j0 j1 => hu j j0 (by omega))]
      split <;> omega
theorem cv_dn {x v : Int} : ∀ {n : Nat}, (∀ j : Int, 0 ≤ j → j < n → a_g A' j = if j = x then v else a_g A j) → w_cnt c A n - 1 ≤ w_cnt c A' n ∧ (n ≤ x → w_cnt c A' n = w_cnt c A n) := by
  intro n
  induction n with
  | zero => intro hu; exact ⟨by show (0 : Int) - 1 ≤ 0; omega, fun _ => rfl⟩
  | succ n ih =>
    intro hu
    obtain ⟨i1, i2⟩ := ih (fun j j0 j1 => hu j j0 (by omega))
    refine ⟨?_, fun hx => ?_⟩
    · rw [cv_s, cv_s, hu n (by omega) (by omega)]
      by_cases hn : (n : Int) = x
      · have := i2 (by omega)
        split <;> split <;> omega
      · rw [if_neg hn]; split <;> omega
    · rw [cv_s, cv_s, hu n (by omega) (by omega), if_neg (show ¬ ((n : Int) = x) from by omega), i2 (by omega)]
theorem cv_lt {x : Int} (hx0 : 0 ≤ x) (hx1 : x < n) (hn : n ≤ 2147483648) (hA : a_g A x = c) : w_cnt c A n < n := by
  obtain ⟨v, hv, v0, v1⟩ : ∃ v : Int, v ≠ c ∧ 0 ≤ v ∧ v ≤ 1 := if h : c = 0 then ⟨1, by omega, by omega, by omega⟩ else ⟨0, by omega, by omega, by omega⟩
  have h1 := cv_upd (A' := m_au A (w_i x) (w_i v)) (v := v) hx0 hA hv hx1 (fun j j0 j1 => ag_u hx0 (by omega) (by omega) (by omega) j0 (by omega))
  have h2 := (cv_le c (m_au A (w_i x) (w_i v)) n).2
  omega
theorem cv_0 (h : ∀ j : Int, 0 ≤ j → j < n → a_g A j = c) : w_cnt c A n = 0 := by
  induction n with
  | zero => rfl
  | succ n ih => rw [cv_s, h n (by omega) (by omega), if_pos rfl]; exact ih (fun j j0 j1 => h j j0 (by omega))
end
/-! the reference's walk: so many towns are met, each once, and stand in the queue -/
def w_MF (g : w_G) (o : w_O) (h : m_H) (m : Int) : Prop := ∃ A B : Nat, m_at h.2.2 57 = some (.inl (false, 4096, A)) ∧ m_at h.2.2 59 = some (.inl (false, 4097, B)) ∧ 1 ≤ m ∧ m ≤ g_mN g ∧ w_cnt (-1) A (g_mN g).toNat = m ∧ (∀ v : Int, 0 ≤ v → v < g_mN g → -1 ≤ a_g A v ∧ a_g A v < m) ∧ ∀ j : Int, 0 ≤ j → j < m → 0 ≤ a_g B j ∧ a_g B j < g_mN g
/-- filled up to a place -/
def w_ff (g : w_G) (o : w_O) (h : m_H) (i : Int) : Prop := ∃ A : Nat, m_at h.2.2 57 = some (.inl (false, 4096, A)) ∧ ∀ j : Int, 0 ≤ j → j < i → a_g A j = -1
def w_fp (g : w_G) (o : w_O) (h : m_H) (c i : Int) : Prop := ∃ A : Nat, m_at h.2.2 60 = some (.inl (false, 4096, A)) ∧ ∀ j : Int, 0 ≤ j → j < i → a_g A j = c
def w_MP (g : w_G) (o : w_O) (h : m_H) (m : Int) : Prop := ∃ A B : Nat, m_at h.2.2 60 = some (.inl (false, 4096, A)) ∧ m_at h.2.2 59 = some (.inl (false, 4097, B)) ∧ 0 ≤ m ∧ m ≤ g_mN g ∧ m ≤ w_cnt 0 A (g_mN g).toNat ∧ (∀ v : Int, 0 ≤ v → v < g_mN g → 0 ≤ a_g A v) ∧ ∀ j : Int, 0 ≤ j → j < m → 0 ≤ a_g B j ∧ a_g B j < g_mN g
section
variable {g : w_G} {o : w_O} {h h2 : m_H} {m i c : Int} {W : List Nat}
theorem mf_fr (iv : w_Inv g o h) (mf : w_MF g o h m) (hf : w_fr o W h h2) (hW : (W.contains 57 || W.contains 59) = false) : w_MF g o h2 m := by
  rw [Bool.or_eq_false_iff] at hW
  obtain ⟨A, B, p57, p59, rest⟩ := mf
  exact ⟨A, B, fr_at hf p57 iv (ow_57 iv) hW.1 rfl, fr_at hf p59 iv (ow_59 iv) hW.2 rfl, rest⟩
theorem mp_fr (iv : w_Inv g o h) (mp : w_MP g o h m) (hf : w_fr o W h h2) (hW : (W.contains 60 || W.contains 59) = false) : w_MP g o h2 m := by
  rw [Bool.or_eq_false_iff] at hW
  obtain ⟨A, B, p60, p59, rest⟩ := mp
  exact ⟨A, B, fr_at hf p60 iv (ow_60 iv) hW.1 rfl, fr_at hf p59 iv (ow_59 iv) hW.2 rfl, rest⟩
theorem ff_fr (iv : w_Inv g o h) (ff : w_ff g o h i) (hf : w_fr o W h h2) (hW : W.contains 57 = false) : w_ff g o h2 i := by
  obtain ⟨A, p57, rest⟩ := ff
  exact ⟨A, fr_at hf p57 iv (ow_57 iv) hW rfl, rest⟩
theorem fp_fr (iv : w_Inv g o h) (fp : w_fp g o h c i) (hf : w_fr o W h h2) (hW : W.contains 60 = false) : w_fp g o h2 c i := by
  obtain ⟨A, p60, rest⟩ := fp
  exact ⟨A, fr_at hf p60 iv (ow_60 iv) hW rfl, rest⟩
theorem mf_0 {A A1 B1 : Nat} {t : Int} (hN : g_mN g ≤ 4096) (hA : ∀ j : Int, 0 ≤ j → j < g_mN g → a_g A j = -1) (t0 : 0 ≤ t) (t1 : t < g_mN g) (hA1 : ∀ j : Int, 0 ≤ j → j < (4096 : Nat) → a_g A1 j = if j = t then 0 else a_g A j) (p57 : m_at h.2.2 57 = some (.inl (false, 4096, A1))) (p59 : m_at h.2.2 59 = some (.inl (false, 4097, B1))) (hB : a_g B1 0 = t) : w_MF g o h 1 := by
  have e1 := cv_upd (c := -1) (A := A) (A' := A1) (x := t) (v := 0) t0 (hA t t0 t1) (by decide) (n := (g_mN g).toNat) (by omega) (fun j j0 j1 => hA1 j j0 (by omega))
  rw [cv_0 (fun j j0 j1 => hA j j0 (by omega))] at e1
  refine ⟨A1, B1, p57, p59, by omega, by omega, by omega, fun v v0 v1 => ?_, fun j j0 j1 => ?_⟩
  · rw [hA1 v v0 (by omega)]
    by_cases hv : v = t
    · rw [if_pos hv]; omega
    · rw [if_neg hv, hA v v0 v1]; omega
  · obtain rfl : j = 0 := by omega
    rw [hB]; exact ⟨t0, t1⟩
theorem mf_s {A B A1 B1 : Nat} {t s : Int} (hN : g_mN g ≤ 4096) (q1 : 1 ≤ m) (q2 : w_cnt (-1) A (g_mN g).toNat = m) (q3 : ∀ v : Int, 0 ≤ v → v < g_mN g → -1 ≤ a_g A v ∧ a_g A v < m) (q4 : ∀ j : Int, 0 ≤ j → j < m → 0 ≤ a_g B j ∧ a_g B j < g_mN g) (t0 : 0 ≤ t) (t1 : t < g_mN g) (ht : a_g A t < 0) (s0 : 0 ≤ s) (s1 : s ≤ m)
    (hA1 : ∀ j : Int, 0 ≤ j → j < (4096 : Nat) → a_g A1 j = if j = t then s else a_g A j) (hB1 : ∀ j : Int, 0 ≤ j → j < (4097 : Nat) → a_g B1 j = if j = m then t else a_g B j) (p57 : m_at h.2.2 57 = some (.inl (false, 4096, A1))) (p59 : m_at h.2.2 59 = some (.inl (false, 4097, B1))) : w_MF g o h (m + 1) := by
  have hq := (q3 t t0 t1).1
  have e1 := cv_upd (c := -1) (A := A) (A' := A1) (x := t) (v := s) t0 (by omega) (by omega) (n := (g_mN g).toNat) (by omega) (fun j j0 j1 => hA1 j j0 (by omega))
  have e2 := (cv_le (-1) A1 (g_mN g).toNat).2
  refine ⟨A1, B1, p57, p59, by omega, by omega, by omega, fun v v0 v1 => ?_, fun j j0 j1 => ?_⟩
  · rw [hA1 v v0 (by omega)]
    have := q3 v v0 v1
    by_cases hv : v = t
    · rw [if_pos hv]; omega
    · rw [if_neg hv]; omega
  · rw [hB1 j j0 (by omega)]
    by_cases hj : j = m
    · rw [if_pos hj]; exact ⟨t0, t1⟩
    · rw [if_neg hj]; exact q4 j j0 (by omega)
theorem mf_lt {A : Nat} {t : Int} (hN : g_mN g ≤ 4096) (t0 : 0 ≤ t) (t1 : t < g_mN g) (hA : a_g A t = c) : w_cnt c A (g_mN g).toNat < g_mN g := by
  have := cv_lt (c := c) (A := A) (n := (g_mN g).toNat) t0 (by omega) (by omega) hA
  omega
theorem mp_0 {A : Nat} (iv : w_Inv g o h) (hA : ∀ j : Int, 0 ≤ j → j < g_mN g → a_g A j = 0) (p60 : m_at h.2.2 60 = some (.inl (false, 4096, A))) : w_MP g o h 0 := by
  obtain ⟨_, p59, B, rfl⟩ := iv_59 iv
  have W := iv_wm iv
  exact ⟨A, B, p60, p59, by omega, by omega, (cv_le 0 A (g_mN g).toNat).1, fun v v0 v1 => by rw [hA v v0 v1]; omega, fun j j0 j1 => absurd j1 (by omega)⟩
theorem mp_z (mp : w_MP g o h m) : w_MP g o h 0 := by
  obtain ⟨A, B, p60, p59, a1, a2, a3, a4, a5⟩ := mp
  exact ⟨A, B, p60, p59, by omega, by omega, (cv_le 0 A (g_mN g).toNat).1, a4, fun j j0 j1 => absurd j1 (by omega)⟩
/-- one more is met: the first of a part (m = 0) or another -/
theorem mp_s {A B A1 B1 : Nat} {t s : Int} (hN : g_mN g ≤ 4096) (q1 : 0 ≤ m) (q2 : m ≤ w_cnt 0 A (g_mN g).toNat) (q3 : ∀ v : Int, 0 ≤ v → v < g_mN g → 0 ≤ a_g A v) (q4 : ∀ j : Int, 0 ≤ j → j < m → 0 ≤ a_g B j ∧ a_g B j < g_mN g) (t0 : 0 ≤ t) (t1 : t < g_mN g) (ht : a_g A t ≤ 0) (s0 : 1 ≤ s)
    (hA1 : ∀ j : Int, 0 ≤ j → j < (4096 : Nat) → a_g A1 j = if j = t then s else a_g A j) (hB1 : ∀ j : Int, 0 ≤ j → j < (4097 : Nat) → a_g B1 j = if j = m then t else a_g B j) (p60 : m_at h.2.2 60 = some (.inl (false, 4096, A1))) (p59 : m_at h.2.2 59 = some (.inl (false, 4097, B1))) : w_MP g o h (m + 1) := by
  have hq := q3 t t0 t1
  have e1 := cv_upd (c := 0) (A := A) (A' := A1) (x := t) (v := s) t0 (by omega) (by omega) (n := (g_mN g).toNat) (by omega) (fun j j0 j1 => hA1 j j0 (by omega))
  have e2 := (cv_le 0 A1 (g_mN g).toNat).2
  refine ⟨A1, B1, p60, p59, by omega, by omega, by omega, fun v v0 v1 => ?_, fun j j0 j1 => ?_⟩
  · rw [hA1 v v0 (by omega)]
    have := q3 v v0 v1
    by_cases hv : v = t
    · rw [if_pos hv]; omega
    · rw [if_neg hv]; omega
  · rw [hB1 j j0 (by omega)]
    by_cases hj : j = m
    · rw [if_pos hj]; exact ⟨t0, t1⟩
    · rw [if_neg hj]; exact q4 j j0 (by omega)
end
/-- one digit more on top -/
theorem dig_add {a P c d : Int} (ha : 0 ≤ a) (h : a < P) (d0 : 0 ≤ d) (d1 : d < c) : 0 ≤ P * d ∧ a + P * d < P * c := by
  have h1 : P * d ≤ P * (c - 1) := Int.mul_le_mul_of_nonneg_left (by omega) (by omega)
  rw [Int.mul_sub, Int.mul_one] at h1
  have h2 : 0 ≤ P * d := Int.mul_nonneg (by omega) d0
  omega
