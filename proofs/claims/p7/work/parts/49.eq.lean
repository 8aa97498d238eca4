/-! WHEN TWO ANSWERS ARE THE SAME, told quickly -/
noncomputable def e_o (o p : Option Nat) : Bool := Option.rec (motive := fun _ => Bool) (Option.rec (motive := fun _ => Bool) true (fun _ => false) p) (fun a => Option.rec (motive := fun _ => Bool) false (fun b => Nat.beq a b) p) o
theorem e_o_ok {o p : Option Nat} : e_o o p = true → o = p := by
  rcases o with _ | a <;> rcases p with _ | b <;> intro h
  · rfl
  · cases h
  · cases h
  · exact congrArg some (Nat.eq_of_beq_eq_true h)
noncomputable def e_l {α : Type} (e : α → α → Bool) (l m : List α) : Bool := List.rec (motive := fun _ => List α → Bool) (fun m => List.rec (motive := fun _ => Bool) true (fun _ _ _ => false) m) (fun x _ ih m => List.rec (motive := fun _ => Bool) false (fun y m' _ => Bool.rec (motive := fun _ => Bool) false (ih m') (e x y)) m) l m
theorem e_l_ok {α : Type} {e : α → α → Bool} (he : ∀ a b, e a b = true → a = b) : ∀ l m : List α, e_l e l m = true → l = m := by
  intro l
  induction l with
  | nil => intro m h; cases m with
    | nil => rfl
    | cons y m => cases h
  | cons x l ih => intro m h; cases m with
    | nil => cases h
    | cons y m =>
      have h' : (Bool.rec (motive := fun _ => Bool) false (e_l e l m) (e x y)) = true := h
      rcases hxy : e x y with _ | _
      · rw [hxy] at h'; cases h'
      · rw [hxy] at h'; rw [he _ _ hxy, ih _ h']
def e_v : m_V → m_V → Bool
  | .inl a, .inl b => Nat.beq a b
  | .inr (.inl o), .inr (.inl p) => decide (o = p)
  | .inr (.inr (.inl a)), .inr (.inr (.inl b)) => Nat.beq a b
  | .inr (.inr (.inr a)), .inr (.inr (.inr b)) => Nat.beq a b
  | _, _ => false
theorem e_v_ok (a b : m_V) : e_v a b = true → a = b := by
  rcases a with a | a | a | a <;> rcases b with b | b | b | b <;> intro h <;> first | exact congrArg _ (Nat.eq_of_beq_eq_true h) | exact congrArg (fun x => Sum.inr (Sum.inl x)) (of_decide_eq_true h) | exact congrArg (fun x => Sum.inr (Sum.inr (Sum.inl x))) (Nat.eq_of_beq_eq_true h) | exact congrArg (fun x => Sum.inr (Sum.inr (Sum.inr x))) (Nat.eq_of_beq_eq_true h) | cases h
noncomputable def e_E : m_E → m_E → Bool
  | .inl (z, n, A), .inl (z', n', A') => (z == z') && (Nat.beq n n' && Nat.beq A A')
  | .inr (.inl (c, n, l)), .inr (.inl (c', n', l')) => Nat.beq c c' && (Nat.beq n n' && e_l e_o l l')
  | .inr (.inr (c, fs)), .inr (.inr (c', fs')) => Nat.beq c c' && e_l e_v fs fs'
  | _, _ => false
theorem e_E_ok (a b : m_E) : e_E a b = true → a = b := by
  rcases a with ⟨z, n, A⟩ | ⟨c, n, l⟩ | ⟨c, fs⟩ <;> rcases b with ⟨z', n', A'⟩ | ⟨c', n', l'⟩ | ⟨c', fs'⟩ <;> intro h
  · replace h : ((z == z') && (Nat.beq n n' && Nat.beq A A')) = true := h
    simp only [Bool.and_eq_true, beq_iff_eq] at h
    rw [h.1, Nat.eq_of_beq_eq_true h.2.1, Nat.eq_of_beq_eq_true h.2.2]
  · cases h
  · cases h
  · cases h
  · replace h : (Nat.beq c c' && (Nat.beq n n' && e_l e_o l l')) = true := h
    simp only [Bool.and_eq_true] at h
    rw [Nat.eq_of_beq_eq_true h.1, Nat.eq_of_beq_eq_true h.2.1, e_l_ok (fun _ _ => e_o_ok) _ _ h.2.2]
  · cases h
  · cases h
  · cases h
  · replace h : (Nat.beq c c' && e_l e_v fs fs') = true := h
    simp only [Bool.and_eq_true] at h
    rw [Nat.eq_of_beq_eq_true h.1, e_l_ok e_v_ok _ _ h.2]
noncomputable def e_h (h g : m_H) : Bool := Nat.beq h.1 g.1 && (Nat.beq h.2.1 g.2.1 && e_l (e_l e_E) h.2.2 g.2.2)
theorem e_h_ok {h g : m_H} (he : e_h h g = true) : h = g := by
  obtain ⟨a, b, l⟩ := h
  obtain ⟨a', b', l'⟩ := g
  replace he : (Nat.beq a a' && (Nat.beq b b' && e_l (e_l e_E) l l')) = true := he
  simp only [Bool.and_eq_true] at he
  rw [Nat.eq_of_beq_eq_true he.1, Nat.eq_of_beq_eq_true he.2.1, e_l_ok (fun x y => e_l_ok e_E_ok x y) _ _ he.2.2]
noncomputable def e_ov (o p : Option m_V) : Bool := Option.rec (motive := fun _ => Bool) (Option.rec (motive := fun _ => Bool) true (fun _ => false) p) (fun a => Option.rec (motive := fun _ => Bool) false (fun b => e_v a b) p) o
theorem e_ov_ok {o p : Option m_V} : e_ov o p = true → o = p := by
  rcases o with _ | a <;> rcases p with _ | b <;> intro h
  · rfl
  · cases h
  · cases h
  · exact congrArg some (e_v_ok _ _ h)
/-- an answer is this one -/
noncomputable def z_is (r : m_R) (v : Option m_V) (h : m_H) : Bool := Option.rec (motive := fun _ => Bool) false (fun p => Prod.rec (motive := fun _ => Bool) (fun v' h' => e_ov v' v && e_h h' h) p) r
theorem z_is_ok {r : m_R} {v : Option m_V} {h : m_H} (hh : z_is r v h = true) : r = some (v, h) := by
  rcases r with _ | ⟨v', h'⟩
  · cases hh
  · replace hh : (e_ov v' v && e_h h' h) = true := hh
    simp only [Bool.and_eq_true] at hh
    rw [e_ov_ok hh.1, e_h_ok hh.2]
