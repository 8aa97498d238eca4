/-! HELP for the program's blocks -/
theorem hc1 {ci : Nat} {P : Nat → Prop} (h : P ci) : ∀ c, Nat.beq ci c = true → P c := fun c hc => Nat.eq_of_beq_eq_true hc ▸ h
theorem mi_fam : ∀ (l : List Nat) (c : Nat), m_fam l c = true → c ∈ l := by
  intro l
  induction l with
  | nil => intro c h; cases h
  | cons x l ih =>
    intro c h
    replace h : Bool.or (Nat.beq x c) (m_fam l c) = true := h
    cases hb : Nat.beq x c with
    | true => cases Nat.eq_of_beq_eq_true hb; exact List.mem_cons_self
    | false => rw [hb] at h; exact List.mem_cons_of_mem _ (ih c h)
theorem hcf {l : List Nat} {P : Nat → Prop} (h : ∀ c ∈ l, P c) : ∀ c, m_fam l c = true → P c := fun c hc => h c (mi_fam l c hc)
theorem vt_I : m_vt m_tI .int := by
  intro Γ ad v w h hw
  rcases v with n | v
  · cases (show w = .int (nI n) from hw)
    exact ⟨rfl, rfl⟩
  · cases h
theorem vt_Z : m_vt m_tZ .boolean := by
  intro Γ ad v w h hw
  rcases v with n | v
  · cases (show w = .int (nI n) from hw)
    have hn : n ≤ 1 := Nat.le_of_ble_eq_true h
    rcases (show n = 0 ∨ n = 1 by omega) with rfl | rfl <;> exact ⟨rfl, rfl⟩
  · cases h
theorem vt_R {C : String} : m_vt m_tR (.object C) := by
  intro Γ ad v w h hw
  rcases v with n | o | v
  · cases h
  · rcases mv_ref hw with rfl | ⟨x, rfl⟩ <;> exact ⟨rfl, rfl⟩
  · cases h
theorem vt_A {t : FieldType} : m_vt m_tR (.array t) := by
  intro Γ ad v w h hw
  rcases v with n | o | v
  · cases h
  · rcases mv_ref hw with rfl | ⟨x, rfl⟩ <;> exact ⟨rfl, rfl⟩
  · cases h
