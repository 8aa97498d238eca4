/-! LEAST COSTS: a queue that goes round; what is left grows less -/
def w_sm (A : Nat) (n : Nat) : Int := Nat.rec (motive := fun _ => Int) 0 (fun k ih => ih + a_g A (k : Int)) n
section
variable {A A' n : Nat}
theorem sm_s (A n : Nat) : w_sm A (n + 1) = w_sm A n + a_g A (n : Int) := rfl
theorem sm_congr (h : ∀ j : Int, 0 ≤ j → j < n → a_g A' j = a_g A j) : w_sm A' n = w_sm A n := by
  induction n with
  | zero => rfl
  | succ n ih => rw [sm_s, sm_s, ih (fun j j0 j1 => h j j0 (by omega)), h n (by omega) (by omega)]
theorem sm_upd {x v : Int} (hx0 : 0 ≤ x) : ∀ {n : Nat}, x < n → (∀ j : Int, 0 ≤ j → j < n → a_g A' j = if j = x then v else a_g A j) → w_sm A' n = w_sm A n - a_g A x + v := by
  intro n
  induction n with
  | zero => intro h; omega
  | succ n ih =>
    intro hx hu
    rw [sm_s, sm_s, hu n (by omega) (by omega)]
    by_cases hn : (n : Int) = x
    · rw [if_pos hn, hn, sm_congr (A := A) (fun j j0 j1 => by rw [hu j j0 (by omega), if_neg (by omega)])]; omega
    · rw [if_neg hn, ih (by omega) (fun j j0 j1 => hu j j0 (by omega))]; omega
theorem sm_0 (h : ∀ j : Int, 0 ≤ j → j < n → 0 ≤ a_g A j) : 0 ≤ w_sm A n := by
  induction n with
  | zero => exact Int.le_refl _
  | succ n ih => rw [sm_s]; have := ih (fun j j0 j1 => h j j0 (by omega)); have := h n (by omega) (by omega); omega
end
def w_MC (g : w_G) (o : w_O) (h : m_H) (at_ m ms : Int) : Prop := ∃ K P Q : Nat, m_at h.2.2 58 = some (.inl (false, 4096, K)) ∧ m_at h.2.2 60 = some (.inl (false, 4096, P)) ∧ m_at h.2.2 59 = some (.inl (false, 4097, Q)) ∧ 0 ≤ at_ ∧ at_ ≤ g_mN g ∧ 0 ≤ m ∧ m ≤ g_mN g ∧ m ≤ w_cnt 0 P (g_mN g).toNat ∧ (∀ v : Int, 0 ≤ v → v < g_mN g → 0 ≤ a_g K v ∧ a_g K v ≤ 1000000000) ∧ (∀ v : Int, 0 ≤ v → v < g_mN g → 0 ≤ a_g P v ∧ a_g P v ≤ 1) ∧ (∀ j : Int, 0 ≤ j → j < m → 0 ≤ a_g Q ((at_ + j) % (g_mN g + 1)) ∧ a_g Q ((at_ + j) % (g_mN g + 1)) < g_mN g) ∧ 2 * w_sm K (g_mN g).toNat + m ≤ ms ∧ 0 ≤ ms
def w_fk (g : w_G) (o : w_O) (h : m_H) (i : Int) : Prop := ∃ K P : Nat, m_at h.2.2 58 = some (.inl (false, 4096, K)) ∧ m_at h.2.2 60 = some (.inl (false, 4096, P)) ∧ ∀ j : Int, 0 ≤ j → j < i → a_g K j = 1000000000 ∧ a_g P j = 0
section
variable {g : w_G} {o : w_O} {h h2 : m_H} {at_ m ms i : Int} {W : List Nat} {K P Q K1 P1 Q1 : Nat}
theorem mc_fr (iv : w_Inv g o h) (mc : w_MC g o h at_ m ms) (hf : w_fr o W h h2) (hW : (W.contains 58 || W.contains 60 || W.contains 59) = false) : w_MC g o h2 at_ m ms := by
  rw [Bool.or_eq_false_iff, Bool.or_eq_false_iff] at hW
  obtain ⟨K, P, Q, p58, p60, p59, rest⟩ := mc
  exact ⟨K, P, Q, fr_at hf p58 iv (ow_58 iv) hW.1.1 rfl, fr_at hf p60 iv (ow_60 iv) hW.1.2 rfl, fr_at hf p59 iv (ow_59 iv) hW.2 rfl, rest⟩
theorem fk_fr (iv : w_Inv g o h) (fk : w_fk g o h i) (hf : w_fr o W h h2) (hW : (W.contains 58 || W.contains 60) = false) : w_fk g o h2 i := by
  rw [Bool.or_eq_false_iff] at hW
  obtain ⟨K, P, p58, p60, rest⟩ := fk
  exact ⟨K, P, fr_at hf p58 iv (ow_58 iv) hW.1 rfl, fr_at hf p60 iv (ow_60 iv) hW.2 rfl, rest⟩
theorem mc_0 {t : Int} (hN : g_mN g ≤ 4096) (hA : ∀ j : Int, 0 ≤ j → j < g_mN g → a_g K j = 1000000000 ∧ a_g P j = 0) (t0 : 0 ≤ t) (t1 : t < g_mN g) (hK1 : ∀ j : Int, 0 ≤ j → j < (4096 : Nat) → a_g K1 j = if j = t then 0 else a_g K j) (hP1 : ∀ j : Int, 0 ≤ j → j < (4096 : Nat) → a_g P1 j = if j = t then 1 else a_g P j) (hQ1 : a_g Q1 0 = t)
    (p58 : m_at h.2.2 58 = some (.inl (false, 4096, K1))) (p60 : m_at h.2.2 60 = some (.inl (false, 4096, P1))) (p59 : m_at h.2.2 59 = some (.inl (false, 4097, Q1))) : w_MC g o h 0 1 (2 * w_sm K1 (g_mN g).toNat + 1) := by
  have e1 := cv_upd (c := 0) (A := P) (A' := P1) (x := t) (v := 1) t0 (hA t t0 t1).2 (by decide) (n := (g_mN g).toNat) (by omega) (fun j j0 j1 => hP1 j j0 (by omega))
  have e2 := (cv_le 0 P (g_mN g).toNat).1
  have hk : ∀ v : Int, 0 ≤ v → v < g_mN g → 0 ≤ a_g K1 v ∧ a_g K1 v ≤ 1000000000 := fun v v0 v1 => by
    rw [hK1 v v0 (by omega)]
    have := (hA v v0 v1).1
    by_cases hv : v = t
    · rw [if_pos hv]; omega
    · rw [if_neg hv]; omega
  have e3 := sm_0 (A := K1) (n := (g_mN g).toNat) (fun j j0 j1 => (hk j j0 (by omega)).1)
  refine ⟨K1, P1, Q1, p58, p60, p59, by omega, by omega, by omega, by omega, by omega, hk, fun v v0 v1 => ?_, fun j j0 j1 => ?_, by omega, by omega⟩
  · rw [hP1 v v0 (by omega)]
    have := (hA v v0 v1).2
    by_cases hv : v = t
    · rw [if_pos hv]; omega
    · rw [if_neg hv]; omega
  · obtain rfl : j = 0 := by omega
    rw [show (0 + 0 : Int) % (g_mN g + 1) = 0 from by rw [Int.add_zero]; exact Int.zero_emod _, hQ1]; exact ⟨t0, t1⟩
section
variable (hN : g_mN g ≤ 4096) (hN2 : 2 ≤ g_mN g) (a0 : 0 ≤ at_) (a1 : at_ ≤ g_mN g) (q0 : 0 ≤ m) (q1 : m ≤ g_mN g) (q2 : m ≤ w_cnt 0 P (g_mN g).toNat) (q3 : ∀ v : Int, 0 ≤ v → v < g_mN g → 0 ≤ a_g K v ∧ a_g K v ≤ 1000000000) (q4 : ∀ v : Int, 0 ≤ v → v < g_mN g → 0 ≤ a_g P v ∧ a_g P v ≤ 1) (q5 : ∀ j : Int, 0 ≤ j → j < m → 0 ≤ a_g Q ((at_ + j) % (g_mN g + 1)) ∧ a_g Q ((at_ + j) % (g_mN g + 1)) < g_mN g) (q6 : 2 * w_sm K (g_mN g).toNat + m ≤ ms)
theorem mc_at (hm : 1 ≤ m) (a0 : 0 ≤ at_) (a1 : at_ ≤ g_mN g) (q5 : ∀ j : Int, 0 ≤ j → j < m → 0 ≤ a_g Q ((at_ + j) % (g_mN g + 1)) ∧ a_g Q ((at_ + j) % (g_mN g + 1)) < g_mN g) : 0 ≤ a_g Q at_ ∧ a_g Q at_ < g_mN g := by
  have := q5 0 (by omega) (by omega)
  rw [Int.add_zero, Int.emod_eq_of_lt a0 (by omega)] at this
  exact this
theorem mc_pop {at2 t : Int} (h2 : at2 = if at_ = g_mN g then 0 else at_ + 1) (hm : 1 ≤ m) (t0 : 0 ≤ t) (t1 : t < g_mN g) (hN : g_mN g ≤ 4096) (hN2 : 2 ≤ g_mN g) (a0 : 0 ≤ at_) (a1 : at_ ≤ g_mN g) (q1 : m ≤ g_mN g) (q2 : m ≤ w_cnt 0 P (g_mN g).toNat) (q3 : ∀ v : Int, 0 ≤ v → v < g_mN g → 0 ≤ a_g K v ∧ a_g K v ≤ 1000000000) (q4 : ∀ v : Int, 0 ≤ v → v < g_mN g → 0 ≤ a_g P v ∧ a_g P v ≤ 1) (q5 : ∀ j : Int, 0 ≤ j → j < m → 0 ≤ a_g Q ((at_ + j) % (g_mN g + 1)) ∧ a_g Q ((at_ + j) % (g_mN g + 1)) < g_mN g) (q6 : 2 * w_sm K (g_mN g).toNat + m ≤ ms)
    (hP1 : ∀ j : Int, 0 ≤ j → j < (4096 : Nat) → a_g P1 j = if j = t then 0 else a_g P j) (p58 : m_at h.2.2 58 = some (.inl (false, 4096, K))) (p60 : m_at h.2.2 60 = some (.inl (false, 4096, P1))) (p59 : m_at h.2.2 59 = some (.inl (false, 4097, Q))) : w_MC g o h at2 (m - 1) (ms - 1) := by
  have e1 := (cv_dn (c := 0) (A := P) (A' := P1) (x := t) (v := 0) (n := (g_mN g).toNat) (fun j j0 j1 => hP1 j j0 (by omega))).1
  have e3 := sm_0 (A := K) (n := (g_mN g).toNat) (fun j j0 j1 => (q3 j j0 (by omega)).1)
  refine ⟨K, P1, Q, p58, p60, p59, by rw [h2]; split <;> omega, by rw [h2]; split <;> omega, by omega, by omega, by omega, q3, fun v v0 v1 => ?_, fun j j0 j1 => ?_, by omega, by omega⟩
  · rw [hP1 v v0 (by omega)]
    have := q4 v v0 v1
    by_cases hv : v = t
    · rw [if_pos hv]; omega
    · rw [if_neg hv]; omega
  · have e := q5 (j + 1) (by omega) (by omega)
    rw [show (at2 + j) % (g_mN g + 1) = (at_ + (j + 1)) % (g_mN g + 1) from by
      rw [h2]
      by_cases hat : at_ = g_mN g
      · rw [if_pos hat, hat, show g_mN g + (j + 1) = (0 + j) + (g_mN g + 1) from by omega, Int.add_emod_right]
      · rw [if_neg hat, show at_ + 1 + j = at_ + (j + 1) from by omega]]
    exact e
/-- a cost grows less -/
theorem mc_cst {t s : Int} (t0 : 0 ≤ t) (t1 : t < g_mN g) (s0 : 0 ≤ s) (s1 : s < a_g K t) (hN : g_mN g ≤ 4096) (a0 : 0 ≤ at_) (a1 : at_ ≤ g_mN g) (q0 : 0 ≤ m) (q1 : m ≤ g_mN g) (q2 : m ≤ w_cnt 0 P (g_mN g).toNat) (q3 : ∀ v : Int, 0 ≤ v → v < g_mN g → 0 ≤ a_g K v ∧ a_g K v ≤ 1000000000) (q4 : ∀ v : Int, 0 ≤ v → v < g_mN g → 0 ≤ a_g P v ∧ a_g P v ≤ 1) (q5 : ∀ j : Int, 0 ≤ j → j < m → 0 ≤ a_g Q ((at_ + j) % (g_mN g + 1)) ∧ a_g Q ((at_ + j) % (g_mN g + 1)) < g_mN g) (q6 : 2 * w_sm K (g_mN g).toNat + m ≤ ms)
    (hK1 : ∀ j : Int, 0 ≤ j → j < (4096 : Nat) → a_g K1 j = if j = t then s else a_g K j) (p58 : m_at h.2.2 58 = some (.inl (false, 4096, K1))) (p60 : m_at h.2.2 60 = some (.inl (false, 4096, P))) (p59 : m_at h.2.2 59 = some (.inl (false, 4097, Q))) : w_MC g o h at_ m (ms - 2) := by
  have e1 := sm_upd (A := K) (A' := K1) (x := t) (v := s) t0 (n := (g_mN g).toNat) (by omega) (fun j j0 j1 => hK1 j j0 (by omega))
  have hk : ∀ v : Int, 0 ≤ v → v < g_mN g → 0 ≤ a_g K1 v ∧ a_g K1 v ≤ 1000000000 := fun v v0 v1 => by
    rw [hK1 v v0 (by omega)]
    have := q3 v v0 v1
    have := q3 t t0 t1
    by_cases hv : v = t
    · rw [if_pos hv]; omega
    · rw [if_neg hv]; omega
  have e3 := sm_0 (A := K1) (n := (g_mN g).toNat) (fun j j0 j1 => (hk j j0 (by omega)).1)
  exact ⟨K1, P, Q, p58, p60, p59, a0, a1, q0, q1, q2, hk, q4, q5, by omega, by omega⟩
theorem mc_le (mc : w_MC g o h at_ m ms) {ms2 : Int} (hm : ms ≤ ms2) : w_MC g o h at_ m ms2 := by
  obtain ⟨K, P, Q, p58, p60, p59, a0, a1, q0, q1, q2, q3, q4, q5, q6, q7⟩ := mc
  exact ⟨K, P, Q, p58, p60, p59, a0, a1, q0, q1, q2, q3, q4, q5, by omega, by omega⟩
/-- a town goes into the queue -/
theorem mc_push {t x : Int} (t0 : 0 ≤ t) (t1 : t < g_mN g) (ht : a_g P t ≠ 1) (hx : x = (at_ + m) % (g_mN g + 1)) (hN : g_mN g ≤ 4096) (hN2 : 2 ≤ g_mN g) (mc : w_MC g o h at_ m ms) (o58 : m_at h.2.2 58 = some (.inl (false, 4096, K))) (o60 : m_at h.2.2 60 = some (.inl (false, 4096, P))) (o59 : m_at h.2.2 59 = some (.inl (false, 4097, Q)))
    (hP1 : ∀ j : Int, 0 ≤ j → j < (4096 : Nat) → a_g P1 j = if j = t then 1 else a_g P j) (hQ1 : ∀ j : Int, 0 ≤ j → j < (4097 : Nat) → a_g Q1 j = if j = x then t else a_g Q j) (p58 : m_at h2.2.2 58 = some (.inl (false, 4096, K))) (p60 : m_at h2.2.2 60 = some (.inl (false, 4096, P1))) (p59 : m_at h2.2.2 59 = some (.inl (false, 4097, Q1))) : w_MC g o h2 at_ (m + 1) (ms + 1) := by
  obtain ⟨K', P', Q', z58, z60, z59, a0, a1, q0, q1, q2, q3, q4, q5, q6, q7⟩ := mc
  cases o58.symm.trans z58
  cases o60.symm.trans z60
  cases o59.symm.trans z59
  have h0 := q4 t t0 t1
  have e1 := cv_upd (c := 0) (A := P) (A' := P1) (x := t) (v := 1) t0 (by omega) (by decide) (n := (g_mN g).toNat) (by omega) (fun j j0 j1 => hP1 j j0 (by omega))
  have e2 := (cv_le 0 P1 (g_mN g).toNat).2
  refine ⟨K, P1, Q1, p58, p60, p59, a0, a1, by omega, by omega, by omega, q3, fun v v0 v1 => ?_, fun j j0 j1 => ?_, by omega, by omega⟩
  · rw [hP1 v v0 (by omega)]
    have := q4 v v0 v1
    by_cases hv : v = t
    · rw [if_pos hv]; omega
    · rw [if_neg hv]; omega
  · have b0 : 0 ≤ (at_ + j) % (g_mN g + 1) := Int.emod_nonneg _ (by omega)
    have b1 : (at_ + j) % (g_mN g + 1) < g_mN g + 1 := Int.emod_lt_of_pos _ (by omega)
    rw [hQ1 _ b0 (by omega)]
    by_cases hj : (at_ + j) % (g_mN g + 1) = x
    · rw [if_pos hj]; exact ⟨t0, t1⟩
    · rw [if_neg hj]
      exact q5 j j0 (by have : j ≠ m := fun e => hj (by rw [e, hx]); omega)
end
end
