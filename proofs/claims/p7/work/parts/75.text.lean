/-! TEXTS and painters: what a call of theirs needs -/
def w_tx (g : w_G) (o : w_O) (h : m_H) (p cod : Nat) (me fe : Int) (stk : Nat) : Prop := (o p).1 = 110 ∧ m_at h.2.2 p = some (.inr (.inr (9, [.inr (.inl (some cod)), .inl (w_i me), .inl (w_i fe), .inr (.inl (some stk))]))) ∧ (o cod).1 = 111 ∧ (o stk).1 = 112 ∧ 0 ≤ me ∧ me ≤ fe ∧ fe ≤ ((o cod).2 : Int) ∧ (o cod).2 ≤ 160
theorem tx_of {g : w_G} {o : w_O} {h : m_H} {p : Nat} (iv : w_Inv g o h) (hp : (o p).1 = 110) : ∃ (cod : Nat) (me fe : Int) (stk : Nat), w_tx g o h p cod me fe stk := by
  obtain ⟨_, m1, me, fe, cod, stk, rfl, l1, u1, l2, u2, f0, f1, f2, f3, f4⟩ := iv_110 iv hp
  obtain ⟨_, m2, A, rfl, e2, g2⟩ := iv_111 iv f3
  exact ⟨cod, me, fe, stk, hp, m1, f3, f4, f0, f1, f2, g2⟩
theorem tx_fr {g : w_G} {o : w_O} {h h2 : m_H} {p cod stk : Nat} {me fe : Int} {W : List Nat} (iv : w_Inv g o h) (tx : w_tx g o h p cod me fe stk) (hf : w_fr o W h h2) (hW : W.contains 110 = false) : w_tx g o h2 p cod me fe stk := by
  obtain ⟨a1, a2, rest⟩ := tx
  exact ⟨a1, fr_at hf a2 iv a1 hW rfl, rest⟩
section
variable {K : m_X} {lv st : List m_V} {h : m_H} {d q c : Nat} {Q : Option m_V → m_H → Prop}
theorem w_vc {j n : Nat} {tb : List (Nat × Nat × List m_V)} {fs : List m_V} (p : Nat × Nat × List m_V) (e : ∀ f : Nat → m_R, m_get st j (fun v => m_pr [v] (fun q _ => f q)) = f q) (ha : m_at h.2.2 q = some (.inr (.inr (c, fs)))) (hp : ∀ f : (Nat × Nat × List m_V) → m_R, (List.rec (motive := fun _ => m_R) none (fun p _ ih => m_if (Nat.beq c p.1) (f p) ih) tb : m_R) = f p) (hK : wx d (x_ca p.2.1 n p.2.2 K) lv st h Q) : wx d (x_vc j n tb K) lv st h Q := by
  obtain ⟨n0, r, h', e1, z⟩ := hK
  refine ⟨n0, r, h', fun m hm => ?_, z⟩
  refine (e (fun q => m_hg h.2.2 q (fun e => m_obj e (fun c _ => (List.rec (motive := fun _ => m_R) none (fun p _ ih => m_if (Nat.beq c p.1) (x_ca p.2.1 n p.2.2 K (m_run m_cg m d) (m_cl m_cg m d) lv st h) ih) tb : m_R))))).trans ?_
  rw [mg_at ha]
  exact (hp (fun p => x_ca p.2.1 n p.2.2 K (m_run m_cg m d) (m_cl m_cg m d) lv st h)).trans (e1 m hm)
theorem w_ins1 {yes no : List Nat} {fs r' : List m_V} (ha : m_at h.2.2 q = some (.inr (.inr (c, fs)))) (hy : m_any yes c = true) (hK : wx d K lv (.inl (w_i 1) :: r') h Q) : wx d (x_ins yes no K) lv (.inr (.inl (some q)) :: r') h Q := w_st (fun go cl => (mg_at ha).trans (by show m_if (m_any yes c) _ _ = _; rw [hy]; rfl)) hK
theorem w_ins0 {yes no : List Nat} {fs r' : List m_V} (ha : m_at h.2.2 q = some (.inr (.inr (c, fs)))) (hy : m_any yes c = false) (hn : m_any no c = true) (hK : wx d K lv (.inl (w_i 0) :: r') h Q) : wx d (x_ins yes no K) lv (.inr (.inl (some q)) :: r') h Q := w_st (fun go cl => (mg_at ha).trans (by show m_if (m_any yes c) _ (m_if (m_any no c) _ _) = _; rw [hy, hn]; rfl)) hK
end
theorem w_tswL {lv r' : List m_V} {h : m_H} {d lo n : Nat} {x : Int} {ts : List Nat} {Q : Option m_V → m_H → Prop} (x0 : -2147483648 ≤ x) (x1 : x ≤ 2147483647) (hx : x < (lo : Int) ∨ ((lo + ts.length : Nat) : Int) ≤ x) (hl : lo + ts.length ≤ 1000) (hg : wp d n lv r' h Q) : wx d (x_tsw lo ts n) lv (.inl (w_i x) :: r') h Q := by
  refine w_tsw (t := n) (fun f => ?_) hg
  have hi := wi_int x
  rw [show Nat.mod (w_i x) 4294967296 = w_i x from wi_mod x]
  rcases h1 : Nat.ble lo (w_i x) with _ | _
  · rfl
  · have h2 : lo ≤ w_i x := Nat.le_of_ble_eq_true h1
    rw [show Nat.ble (Nat.succ (w_i x)) (Nat.add lo ts.length) = false from ble_no (by show lo + ts.length < w_i x + 1; omega)]
    rfl
