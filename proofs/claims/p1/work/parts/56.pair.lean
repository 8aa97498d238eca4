/-! BOTH CALLS of a round of the law, on fresh objects -/
def z_cls (h : m_H) : Prop := ∀ x : m_R, m_hg h.2.2 31 (fun e => m_obj e (fun c _ => m_if (Nat.beq c 12) x none)) = x
/-- an int; a long -/
def z_kd (w : Bool) (v : m_V) : Bool := match w, v with
  | false, .inl _ => true
  | true, .inr (.inr (.inl _)) => true
  | _, _ => false
def z_ok (w : Bool) (kC kM : Nat) (pC pM as : List m_V) : Prop := ∃ (v : m_V) (hC hM : m_H), m_run m_cg 390000 1990 kC (.inr (.inl (some 0)) :: (as ++ pC)) [] z_h3 = some (some v, hC) ∧ m_run m_cg 390000 1990 kM (.inr (.inl (some 31)) :: (as ++ pM)) [] hC = some (some v, hM) ∧
  z_cls hC ∧ Nat.ble 67 hC.1 = true ∧ Nat.ble 21485 hC.2.1 = true ∧ Nat.ble hC.1 hM.1 = true ∧ Nat.ble hC.2.1 hM.2.1 = true ∧ Nat.ble hM.1 600000 = true ∧ Nat.ble hM.2.1 7302250 = true ∧ z_kd w v = true
noncomputable def z_p2 (v : m_V) (hC : m_H) (r : m_R) : Bool := Option.rec (motive := fun _ => Bool) false (fun p => Prod.rec (motive := fun _ => Bool) (fun wo hM => Option.rec (motive := fun _ => Bool) false (fun w => e_v v w && (Nat.ble hC.1 hM.1 && (Nat.ble hC.2.1 hM.2.1 && (Nat.ble hM.1 600000 && Nat.ble hM.2.1 7302250)))) wo) p) r
/-- as m_hg and m_obj, but a truth -/
noncomputable def z_cb (h : m_H) : Bool := z_is (m_hg h.2.2 31 (fun e => m_obj e (fun c _ => m_if (Nat.beq c 12) (some (none, (0, 0, []))) none))) none (0, 0, [])
noncomputable def z_pb (w : Bool) (kC kM : Nat) (pC pM as : List m_V) : Bool := Option.rec (motive := fun _ => Bool) false (fun p => Prod.rec (motive := fun _ => Bool) (fun vo hC => Option.rec (motive := fun _ => Bool) false (fun v => z_kd w v && (z_cb hC && (Nat.ble 67 hC.1 && (Nat.ble 21485 hC.2.1 && z_p2 v hC (m_run m_cg 390000 1990 kM (.inr (.inl (some 31)) :: (as ++ pM)) [] hC))))) vo) p) (m_run m_cg 390000 1990 kC (.inr (.inl (some 0)) :: (as ++ pC)) [] z_h3)
theorem get_cps {α : Type} : ∀ (l : List α) (i : Nat) (k : α → m_R), m_get l i k = Option.rec (motive := fun _ => m_R) none k l[i]? := by
  intro l
  induction l with
  | nil => intro i k; rfl
  | cons x l ih => intro i k; cases i with
    | zero => rfl
    | succ i => exact ih i k
theorem z_cb_ok {h : m_H} (hb : z_cb h = true) : z_cls h := by
  have h1 := z_is_ok hb
  intro x
  unfold m_hg at h1 ⊢
  rw [get_cps] at h1 ⊢
  generalize h.2.2[Nat.div 31 8]? = oc at h1 ⊢
  rcases oc with _ | c
  · cases h1
  · simp only [get_cps] at h1 ⊢
    generalize c[Nat.mod 31 8]? = oe at h1 ⊢
    rcases oe with _ | e
    · cases h1
    · rcases e with _ | _ | ⟨cc, fs⟩
      · cases h1
      · cases h1
      · replace h1 : m_if (Nat.beq cc 12) (some (none, (0, 0, []))) none = some (none, (0, 0, [])) := h1
        show m_if (Nat.beq cc 12) x none = x
        rcases hc : Nat.beq cc 12 with _ | _
        · rw [hc] at h1; cases h1
        · rfl
theorem z_pb_ok {w : Bool} {kC kM : Nat} {pC pM as : List m_V} (hb : z_pb w kC kM pC pM as = true) : z_ok w kC kM pC pM as := by
  unfold z_pb at hb
  rcases h1 : m_run m_cg 390000 1990 kC (.inr (.inl (some 0)) :: (as ++ pC)) [] z_h3 with _ | ⟨_ | v, hC⟩
  · rw [h1] at hb; cases hb
  · rw [h1] at hb; cases hb
  · rw [h1] at hb
    replace hb : (z_kd w v && (z_cb hC && (Nat.ble 67 hC.1 && (Nat.ble 21485 hC.2.1 && z_p2 v hC (m_run m_cg 390000 1990 kM (.inr (.inl (some 31)) :: (as ++ pM)) [] hC))))) = true := hb
    simp only [Bool.and_eq_true] at hb
    obtain ⟨b0, b1, b2, b3, b4⟩ := hb
    rcases h2 : m_run m_cg 390000 1990 kM (.inr (.inl (some 31)) :: (as ++ pM)) [] hC with _ | ⟨_ | y, hM⟩
    · rw [h2] at b4; cases b4
    · rw [h2] at b4; cases b4
    · rw [h2] at b4
      replace b4 : (e_v v y && (Nat.ble hC.1 hM.1 && (Nat.ble hC.2.1 hM.2.1 && (Nat.ble hM.1 600000 && Nat.ble hM.2.1 7302250)))) = true := b4
      simp only [Bool.and_eq_true] at b4
      obtain ⟨c1, c2, c3, c4, c5⟩ := b4
      cases e_v_ok _ _ c1
      exact ⟨v, hC, hM, h1, h2, z_cb_ok b1, b2, b3, c2, c3, c4, c5, b0⟩
