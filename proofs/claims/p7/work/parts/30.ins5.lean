/-! INSTRUCTIONS: places of arrays, natives, returns, the script -/
section OK5
variable {Γ : m_G} {tab : Nat → Option m_M} {k : Nat} {M : m_M} {pc : Nat} {K : m_X}
theorem hh_arr {s : State} {A : Nat → Prop} {ad0 ad : List Nat} {h : m_H} {ws : va_W} {tys : List (ClassId × FieldType)} {H : Heap} {locs : List Loc} {q n B : Nat} {z : Bool} (hh : m_hh Γ s A ad0 h ad ws tys H locs) (he : m_at h.2.2 q = some (.inl (z, n, B))) : ∃ (a : Nat) (cA : ClassId) (t0 : Nat), ad[q]? = some a ∧ ws[q]? = some (a, .inl (cA, n, .inl (fun j => nI (m_ag B j)))) ∧ tys[t0]? = some (cA, m_bty z) ∧ n < 2 ^ 31 := by
  obtain ⟨a, w, g1, g2, cA, t0, rfl, g3, g4⟩ := hh.2.1.2.2.2 q _ he
  exact ⟨a, cA, t0, g1, g2, g3, g4⟩
theorem hh_arq {s : State} {A : Nat → Prop} {ad0 ad : List Nat} {h : m_H} {ws : va_W} {tys : List (ClassId × FieldType)} {H : Heap} {locs : List Loc} {q n c : Nat} {l : List (Option Nat)} (hh : m_hh Γ s A ad0 h ad ws tys H locs) (he : m_at h.2.2 q = some (.inr (.inl (c, n, l)))) : ∃ (a : Nat) (cA : ClassId) (t0 : Nat) (f : Nat → Option Nat), ad[q]? = some a ∧ ws[q]? = some (a, .inl (cA, n, .inr (.inr (.inr (.inr f))))) ∧ tys[t0]? = some (cA, m_cty c) ∧ n < 2 ^ 31 ∧ ∀ j o, l[j]? = some o → m_rv Γ ad (.inr (.inl o)) (va_rf (f j)) := by
  obtain ⟨a, w, g1, g2, cA, t0, f, rfl, g3, g4, g5⟩ := hh.2.1.2.2.2 q _ he
  exact ⟨a, cA, t0, f, g1, g2, g3, g4, g5⟩
theorem mb_xor {z z' : Bool} (h : Bool.xor z z' = false) : z' = z := by cases z <;> cases z' <;> first | rfl | cases h
theorem ml_ald {z : Bool} {go : m_I} {cl : m_C} {lv st : List m_V} {h : m_H} {r : Option m_V × m_H} (hX : x_ald z K go cl lv st h = some r) : ∃ i q t n B, st = .inl i :: .inr (.inl (some q)) :: t ∧ m_at h.2.2 q = some (.inl (z, n, B)) ∧ i < n ∧ K go cl lv (.inl (m_ag B i) :: t) h = some r := by
  obtain ⟨i, t, rfl, h2⟩ := mx_pi hX
  obtain ⟨q, t, rfl, h3⟩ := mx_pr h2
  obtain ⟨e, h4, h5⟩ := mx_hg h3
  obtain ⟨z', n, B, rfl, h6⟩ := mx_arr h5
  obtain ⟨h7, h8⟩ := mx_iff h6
  cases mb_xor h7
  obtain ⟨h9, h10⟩ := mx_ift h8
  rw [mi_f] at h10
  exact ⟨i, q, t, n, B, rfl, h4, Nat.le_of_ble_eq_true h9, h10⟩
theorem ok_iald (hd : decode M.2.1 pc = .ok (.iaload, 1)) (hK : m_ok Γ tab k M (pc + 1) K) : m_ok Γ tab k M pc (x_ald false K) := by
  refine ok_step hK ?_
  intro p l e R s m args below meth c A Q d fr go cl lv st h r hX
  obtain ⟨i, q, t, n, B, rfl, h3, h4, h5⟩ := ml_ald hX
  refine ⟨lv, _, h5, fun ad ws tys H locs ls vs ad0 cells slots _ _ hh hl hv kk => ?_⟩
  obtain ⟨w1, vt, rfl, hw1, w2, vt, rfl, ⟨a, ha, rfl⟩, hv⟩ := hv
  cases (show w1 = .int (nI i) from hw1)
  obtain ⟨a2, cA, t0, g1, g2, g3, g4⟩ := hh_arr hh h3
  cases ha.symm.trans g1
  exact va_iald fr.1 fr.2.1 hh.2.2.2.1 hh.2.2.1 q t0 g2 g3 (mn_in h4 g4) hd (kk ls _ hl ⟨_, _, rfl, by show _ = Value.int _; rw [mn_cl h4 g4], hv⟩)
theorem ok_zald (hd : decode M.2.1 pc = .ok (.baload, 1)) (hK : m_ok Γ tab k M (pc + 1) K) : m_ok Γ tab k M pc (x_ald true K) := by
  refine ok_step hK ?_
  intro p l e R s m args below meth c A Q d fr go cl lv st h r hX
  obtain ⟨i, q, t, n, B, rfl, h3, h4, h5⟩ := ml_ald hX
  refine ⟨lv, _, h5, fun ad ws tys H locs ls vs ad0 cells slots _ _ hh hl hv kk => ?_⟩
  obtain ⟨w1, vt, rfl, hw1, w2, vt, rfl, ⟨a, ha, rfl⟩, hv⟩ := hv
  cases (show w1 = .int (nI i) from hw1)
  obtain ⟨a2, cA, t0, g1, g2, g3, g4⟩ := hh_arr hh h3
  cases ha.symm.trans g1
  exact va_zald fr.1 fr.2.1 hh.2.2.2.1 hh.2.2.1 q t0 g2 g3 (mn_in h4 g4) hd (kk ls _ hl ⟨_, _, rfl, by show _ = Value.int _; rw [mn_cl h4 g4], hv⟩)
theorem ml_ast {z : Bool} {go : m_I} {cl : m_C} {lv st : List m_V} {h : m_H} {r : Option m_V × m_H} (hX : x_ast z K go cl lv st h = some r) : ∃ v i q t n B l', st = .inl v :: .inl i :: .inr (.inl (some q)) :: t ∧ m_at h.2.2 q = some (.inl (z, n, B)) ∧ i < n ∧ m_at l' q = some (.inl (z, n, m_au B i (Bool.rec (motive := fun _ => Nat) v (Nat.mod v 2) z))) ∧ (∀ p, p ≠ q → m_at l' p = m_at h.2.2 p) ∧ (∀ a, m_wf h.2.2 a → m_wf l' a) ∧ K go cl lv t (h.1, h.2.1, l') = some r := by
  obtain ⟨v, t, rfl, h2⟩ := mx_pi hX
  obtain ⟨i, t, rfl, h3⟩ := mx_pi h2
  obtain ⟨q, t, rfl, h4⟩ := mx_pr h3
  rw [mi_hp] at h4
  obtain ⟨e, h5, h6⟩ := mx_hg h4
  obtain ⟨z', n, B, rfl, h7⟩ := mx_arr h6
  obtain ⟨h8, h9⟩ := mx_iff h7
  cases mb_xor h8
  obtain ⟨h10, h11⟩ := mx_ift h9
  rw [mi_f] at h11
  obtain ⟨l', h12, h13, h14, h15⟩ := mx_hs h11 h5
  exact ⟨v, i, q, t, n, B, l', rfl, h5, Nat.le_of_ble_eq_true h10, h13, h14, h15, h12⟩
theorem ma_upd (B i : Nat) (x : Int32) (v : Nat) (hx : x = nI v) : upd (fun j => nI (m_ag B j)) i x = fun j => nI (m_ag (m_au B i v) j) := by
  funext j
  unfold upd
  rw [ma_u]
  by_cases hj : j = i
  · rw [if_pos hj, if_pos hj, hx]
    exact mn_congr (Nat.mod_mod _ _).symm
  · rw [if_neg hj, if_neg hj]
theorem ok_iast (hd : decode M.2.1 pc = .ok (.iastore, 1)) (hK : m_ok Γ tab k M (pc + 1) K) : m_ok Γ tab k M pc (x_ast false K) := by
  refine ok_gen hK ?_
  intro p l e R s m args below meth c A Q d fr go cl hck lv st h r hX
  obtain ⟨v, i, q, t, n, B, l', rfl, h3, h4, h5, h6, h7, h8⟩ := ml_ast hX
  refine ⟨lv, t, _, h8, Nat.le_refl _, Nat.le_refl _, fun ad ws tys H locs ls vs ad0 cells slots hh hl hv hc1 hc2 kk => ?_⟩
  obtain ⟨w0, vt, rfl, hw0, w1, vt, rfl, hw1, w2, vt, rfl, ⟨a, ha, rfl⟩, hv⟩ := hv
  cases (show w0 = .int (nI v) from hw0)
  cases (show w1 = .int (nI i) from hw1)
  obtain ⟨a2, cA, t0, g1, g2, g3, g4⟩ := hh_arr hh h3
  cases ha.symm.trans g1
  have hq := mw_lt hh.2.1.2.2.1 h3
  refine va_iast fr.1 fr.2.1 hh.2.2.2.1 hh.2.2.1 hh.2.2.2.2.1 hh.2.2.2.2.2 q t0 g2 g3 (mn_in h4 g4) hd (fun H1 locs1 hP1 hD1 hS1 => ?_)
  rw [mn_cl h4 g4, ma_upd B i _ v rfl] at hP1 hD1
  have := kk ad _ tys H1 locs1 ls vt (hh_set (w0 := .inl (cA, n, .inl (fun j => nI (m_ag B j)))) hh hq ha h5 h6 h7 ⟨cA, t0, rfl, g3, g4⟩ hP1 hD1 hS1) hl hv
  simpa using this
theorem ok_zast (hd : decode M.2.1 pc = .ok (.bastore, 1)) (hK : m_ok Γ tab k M (pc + 1) K) : m_ok Γ tab k M pc (x_ast true K) := by
  refine ok_gen hK ?_
  intro p l e R s m args below meth c A Q d fr go cl hck lv st h r hX
  obtain ⟨v, i, q, t, n, B, l', rfl, h3, h4, h5, h6, h7, h8⟩ := ml_ast hX
  refine ⟨lv, t, _, h8, Nat.le_refl _, Nat.le_refl _, fun ad ws tys H locs ls vs ad0 cells slots hh hl hv hc1 hc2 kk => ?_⟩
  obtain ⟨w0, vt, rfl, hw0, w1, vt, rfl, hw1, w2, vt, rfl, ⟨a, ha, rfl⟩, hv⟩ := hv
  cases (show w0 = .int (nI v) from hw0)
  cases (show w1 = .int (nI i) from hw1)
  obtain ⟨a2, cA, t0, g1, g2, g3, g4⟩ := hh_arr hh h3
  cases ha.symm.trans g1
  have hq := mw_lt hh.2.1.2.2.1 h3
  have hb : vp_nar .boolean (nI v) = nI (v % 2) := by
    show nI v &&& nI 1 = _
    rw [mn_and]
    show nI ((v &&& 1) % 4294967296) = _
    rw [Nat.and_one_is_mod]
    exact mn_congr (Nat.mod_mod _ _)
  refine va_zast fr.1 fr.2.1 hh.2.2.2.1 hh.2.2.1 hh.2.2.2.2.1 hh.2.2.2.2.2 q t0 g2 g3 (mn_in h4 g4) hd (fun H1 locs1 hP1 hD1 hS1 => ?_)
  rw [mn_cl h4 g4, ma_upd B i _ (v % 2) hb] at hP1 hD1
  have := kk ad _ tys H1 locs1 ls vt (hh_set (w0 := .inl (cA, n, .inl (fun j => nI (m_ag B j)))) hh hq ha h5 h6 h7 ⟨cA, t0, rfl, g3, g4⟩ hP1 hD1 hS1) hl hv
  simpa using this
theorem ct_ref (c : Nat) : (m_cty c).isReference = true := by
  unfold m_cty
  split <;> rfl
theorem ok_aald (hd : decode M.2.1 pc = .ok (.aaload, 1)) (hK : m_ok Γ tab k M (pc + 1) K) : m_ok Γ tab k M pc (x_aald K) := by
  refine ok_step hK ?_
  intro p l e R s m args below meth c A Q d fr go cl lv st h r hX
  obtain ⟨i, t, rfl, h2⟩ := mx_pi hX
  obtain ⟨q, t, rfl, h3⟩ := mx_pr h2
  obtain ⟨e1, h4, h5⟩ := mx_hg h3
  obtain ⟨ci, n, lq, rfl, h6⟩ := mx_arq h5
  obtain ⟨h7, h8⟩ := mx_ift h6
  obtain ⟨o, h9, h10⟩ := mx_get h8
  refine ⟨lv, _, h10, fun ad ws tys H locs ls vs ad0 cells slots _ _ hh hl hv kk => ?_⟩
  obtain ⟨w1, vt, rfl, hw1, w2, vt, rfl, ⟨a, ha, rfl⟩, hv⟩ := hv
  cases (show w1 = .int (nI i) from hw1)
  obtain ⟨a2, cA, t0, f, g1, g2, g3, g4, g5⟩ := hh_arq hh h4
  cases ha.symm.trans g1
  have hin : i < n := Nat.le_of_ble_eq_true h7
  exact mr_aald fr.1 fr.2.1 hh.2.2.2.1 hh.2.2.1 q t0 g2 g3 (ct_ref ci) (mn_in hin g4) hd (kk ls _ hl ⟨_, _, rfl, by rw [mn_cl hin g4]; exact g5 i o h9, hv⟩)
theorem mq_up {ad : List Nat} {l : List (Option Nat)} {f : Nat → Option Nat} {i : Nat} {o : Option Nat} {y : Option Nat} (h : ∀ j o, l[j]? = some o → m_rv Γ ad (.inr (.inl o)) (va_rf (f j))) (ho : m_rv Γ ad (.inr (.inl o)) (va_rf y)) : ∀ j x, (l.set i o)[j]? = some x → m_rv Γ ad (.inr (.inl x)) (va_rf (va_up f i y j)) := by
  intro j x hx
  by_cases hj : j = i
  · subst hj
    rw [va_up_self]
    by_cases hl : j < l.length
    · rw [List.getElem?_set_self hl] at hx
      cases hx
      exact ho
    · rw [List.getElem?_eq_none (by rw [List.length_set]; omega)] at hx
      cases hx
  · rw [va_up_ne _ _ hj]
    rw [List.getElem?_set_ne (fun z => hj z.symm)] at hx
    exact h j x hx
theorem ml_aast {ci : Nat} {pt : Nat → Bool} {go : m_I} {cl : m_C} {lv st : List m_V} {h : m_H} {r : Option m_V × m_H} (hX : x_aast ci pt K go cl lv st h = some r) : ∃ o i q t n lq l', st = .inr (.inl o) :: .inl i :: .inr (.inl (some q)) :: t ∧ (∀ u, o = some u → ∃ c fs, m_at h.2.2 u = some (.inr (.inr (c, fs))) ∧ pt c = true) ∧ m_at h.2.2 q = some (.inr (.inl (ci, n, lq))) ∧ i < n ∧ m_at l' q = some (.inr (.inl (ci, n, lq.set i o))) ∧ (∀ p, p ≠ q → m_at l' p = m_at h.2.2 p) ∧ (∀ a, m_wf h.2.2 a → m_wf l' a) ∧ K go cl lv t (h.1, h.2.1, l') = some r := by
  obtain ⟨o, t, rfl, h2⟩ := mx_po hX
  obtain ⟨i, t, rfl, h3⟩ := mx_pi h2
  obtain ⟨q, t, rfl, h4⟩ := mx_pr h3
  rw [mi_hp] at h4
  have key : (∀ u, o = some u → ∃ c fs, m_at h.2.2 u = some (.inr (.inr (c, fs))) ∧ pt c = true) ∧ m_hg h.2.2 q (fun e => m_arq e (fun c n l => m_if (Nat.beq c ci) (m_if (Nat.ble (Nat.succ i) n) (m_set l i o (fun l' => m_hs h.2.2 q (.inr (.inl (c, n, l'))) (fun hl' => K go cl lv t (h.1, h.2.1, hl')))) none) none)) = some r := by
    cases o with
    | none => exact ⟨fun u z => (by cases z), h4⟩
    | some u =>
      obtain ⟨e, g1, g2⟩ := mx_hg (show m_hg h.2.2 u _ = some r from h4)
      obtain ⟨c, fs, rfl, g3⟩ := mx_obj g2
      obtain ⟨g4, g5⟩ := mx_ift g3
      exact ⟨fun u2 z => (by cases z; exact ⟨c, fs, g1, g4⟩), g5⟩
  obtain ⟨k1, k2⟩ := key
  obtain ⟨e, h5, h6⟩ := mx_hg k2
  obtain ⟨c, n, lq, rfl, h7⟩ := mx_arq h6
  obtain ⟨h8, h9⟩ := mx_ift h7
  cases Nat.eq_of_beq_eq_true h8
  obtain ⟨h10, h11⟩ := mx_ift h9
  rw [mi_set] at h11
  obtain ⟨l', h12, h13, h14, h15⟩ := mx_hs h11 h5
  exact ⟨o, i, q, t, n, lq, l', rfl, k1, h5, Nat.le_of_ble_eq_true h10, h13, h14, h15, h12⟩
/-- which classes may stand in an array of references -/
def m_as (Γ : m_G) (E : String) (pt : Nat → Bool) : Prop := ∀ c, pt c = true → ∃ r : vw_C, vwCl[c]? = some r ∧ (r.1 = E ∨ ∀ (A : Nat → Prop) (s : State), m_Ev Γ A s → va_Nw (.castable r.1 E) s)
theorem ok_aast {ci : Nat} {pt : Nat → Bool} {E : String} (hd : decode M.2.1 pc = .ok (.aastore, 1)) (hct : m_cty ci = .object E) (has : m_as Γ E pt) (hK : m_ok Γ tab k M (pc + 1) K) : m_ok Γ tab k M pc (x_aast ci pt K) := by
  refine ok_gen hK ?_
  intro p l e R s m args below meth c A Q d fr go cl hck lv st h r hX
  obtain ⟨o, i, q, t, n, lq, l', rfl, h2, h3, h4, h5, h6, h7, h8⟩ := ml_aast hX
  refine ⟨lv, t, _, h8, Nat.le_refl _, Nat.le_refl _, fun ad ws tys H locs ls vs ad0 cells slots hh hl hv hc1 hc2 kk => ?_⟩
  obtain ⟨w0, vt, rfl, hw0, w1, vt, rfl, hw1, w2, vt, rfl, ⟨a, ha, rfl⟩, hv⟩ := hv
  cases (show w1 = .int (nI i) from hw1)
  obtain ⟨a2, cA, t0, f, g1, g2, g3, g4, g5⟩ := hh_arq hh h3
  cases ha.symm.trans g1
  rw [hct] at g3
  have hq := mw_lt hh.2.1.2.2.1 h3
  have hin := mn_in h4 g4
  have hcl := mn_cl h4 g4
  have fin : ∀ (y : Option Nat), m_rv Γ ad (.inr (.inl o)) (va_rf y) → ∀ (H1 : Heap) (locs1 : List Loc), va_P Γ.1 vwCl (ws.set q (a, .inl (cA, n, .inr (.inr (.inr (.inr (va_up f (nI i).toNatClampNeg y))))))) H1 → va_D A (ws.set q (a, .inl (cA, n, .inr (.inr (.inr (.inr (va_up f (nI i).toNatClampNeg y))))))) → va_S A s.heap H1 locs1 → W p l e R s m args below meth c H1 locs1 cells slots Q (F0 m (pc + 1) ls vt) := by
    intro y hy H1 locs1 hP1 hD1 hS1
    rw [hcl] at hP1 hD1
    have := kk ad _ tys H1 locs1 ls vt (hh_set (w0 := .inl (cA, n, .inr (.inr (.inr (.inr f))))) hh hq ha h5 h6 h7 ⟨cA, t0, _, rfl, by rw [hct]; exact g3, g4, mq_up g5 hy⟩ hP1 hD1 hS1) hl hv
    simpa using this
  cases o with
  | none =>
    cases (show w0 = .null from hw0)
    exact va_astqN fr.1 fr.2.1 hh.2.2.2.1 hh.2.2.1 hh.2.2.2.2.1 hh.2.2.2.2.2 q t0 g2 g3 hin hd (fin none hw0)
  | some u =>
    obtain ⟨b, hb, rfl⟩ := hw0
    obtain ⟨cu, fs, k1, k2⟩ := h2 u rfl
    obtain ⟨b2, gs, i1, i2, i3⟩ := hh_obj hh k1
    cases hb.symm.trans i1
    obtain ⟨rc, j1, j2⟩ := has cu k2
    rcases j2 with j2 | j2
    · exact va_astq fr.1 fr.2.1 hh.2.2.2.1 hh.2.2.1 hh.2.2.2.2.1 hh.2.2.2.2.2 q t0 u cu (r := rc) g2 (by rw [j2]; exact g3) i2 j1 hin hd (fin (some b) ⟨b, hb, rfl⟩)
    · exact va_astqO fr.1 fr.2.1 hh.2.2.2.1 hh.2.2.1 hh.2.2.2.2.1 hh.2.2.2.2.2 q t0 u cu (r := rc) (E := E) g2 g3 (j2 A s fr.2.2.2.2.2.2.2.2.2.1) i2 j1 hin hd (fin (some b) ⟨b, hb, rfl⟩)
theorem ok_aastA {ci : Nat} (hd : decode M.2.1 pc = .ok (.aastore, 1)) (hct : m_cty ci = .array .int) (hK : m_ok Γ tab k M (pc + 1) K) : m_ok Γ tab k M pc (x_aastA ci K) := by
  refine ok_gen hK ?_
  intro p l e R s m args below meth c A Q d fr go cl hck lv st h r hX
  obtain ⟨o, t, rfl, h2⟩ := mx_po hX
  obtain ⟨i, t, rfl, h3⟩ := mx_pi h2
  obtain ⟨q, t, rfl, h4⟩ := mx_pr h3
  rw [mi_hp] at h4
  cases o with
  | none => cases h4
  | some u =>
    obtain ⟨e1, k1, k2⟩ := mx_hg (show m_hg h.2.2 u _ = some r from h4)
    obtain ⟨z, nu, Bu, rfl, k3⟩ := mx_arr k2
    cases z with
    | true => cases k3
    | false =>
      obtain ⟨e, h5, h6⟩ := mx_hg (show m_hg h.2.2 q _ = some r from k3)
      obtain ⟨c0, n, lq, rfl, h7⟩ := mx_arq h6
      obtain ⟨h8, h9⟩ := mx_ift h7
      cases Nat.eq_of_beq_eq_true h8
      obtain ⟨h10, h11⟩ := mx_ift h9
      rw [mi_set] at h11
      obtain ⟨l', h12, h13, h14, h15⟩ := mx_hs h11 h5
      refine ⟨lv, t, _, h12, Nat.le_refl _, Nat.le_refl _, fun ad ws tys H locs ls vs ad0 cells slots hh hl hv hc1 hc2 kk => ?_⟩
      obtain ⟨w0, vt, rfl, ⟨b, hb, rfl⟩, w1, vt, rfl, hw1, w2, vt, rfl, ⟨a, ha, rfl⟩, hv⟩ := hv
      cases (show w1 = .int (nI i) from hw1)
      obtain ⟨a2, cA, t0, f, g1, g2, g3, g4, g5⟩ := hh_arq hh h5
      cases ha.symm.trans g1
      rw [hct] at g3
      obtain ⟨b2, cV, tk, i1, i2, i3, i4⟩ := hh_arr hh k1
      cases hb.symm.trans i1
      have hq := mw_lt hh.2.1.2.2.1 h5
      have hlt : i < n := Nat.le_of_ble_eq_true h10
      refine mr_aastA fr.1 fr.2.1 fr.2.2.2.2.2.2.2.2.2.1.2.2.2.2.2.2.2.2.2.1 hh.2.2.2.1 hh.2.2.1 hh.2.2.2.2.1 hh.2.2.2.2.2 q t0 u tk g2 g3 i2 i3 (mn_in hlt g4) hd (fun H1 locs1 hP1 hD1 hS1 => ?_)
      rw [mn_cl hlt g4] at hP1 hD1
      have := kk ad _ tys H1 locs1 ls vt (hh_set (w0 := .inl (cA, n, .inr (.inr (.inr (.inr f))))) hh hq ha h13 h14 h15 ⟨cA, t0, _, rfl, by rw [hct]; exact g3, g4, mq_up g5 (y := some b) ⟨b, hb, rfl⟩⟩ hP1 hD1 hS1) hl hv
      simpa using this
theorem ok_len (hd : decode M.2.1 pc = .ok (.arraylength, 1)) (hK : m_ok Γ tab k M (pc + 1) K) : m_ok Γ tab k M pc (x_len K) := by
  refine ok_step hK ?_
  intro p l e R s m args below meth c A Q d fr go cl lv st h r hX
  obtain ⟨q, t, rfl, h2⟩ := mx_pr hX
  obtain ⟨e1, h3, h4⟩ := mx_hg h2
  rcases e1 with ⟨z, n, B⟩ | ⟨ci, n, lq⟩ | ⟨ci, fs⟩
  · refine ⟨lv, .inl n :: t, h4, fun ad ws tys H locs ls vs ad0 cells slots _ _ hh hl hv kk => ?_⟩
    obtain ⟨w2, vt, rfl, ⟨a, ha, rfl⟩, hv⟩ := hv
    obtain ⟨a2, cA, t0, g1, g2, g3, g4⟩ := hh_arr hh h3
    cases ha.symm.trans g1
    exact va_alen fr.1 fr.2.1 hh.2.2.2.1 hh.2.2.1 q t0 g2 g3 rfl hd (kk ls _ hl ⟨_, _, rfl, rfl, hv⟩)
  · refine ⟨lv, .inl n :: t, h4, fun ad ws tys H locs ls vs ad0 cells slots _ _ hh hl hv kk => ?_⟩
    obtain ⟨w2, vt, rfl, ⟨a, ha, rfl⟩, hv⟩ := hv
    obtain ⟨a2, cA, t0, f, g1, g2, g3, g4, g5⟩ := hh_arq hh h3
    cases ha.symm.trans g1
    exact va_alen fr.1 fr.2.1 hh.2.2.2.1 hh.2.2.1 q t0 g2 g3 rfl hd (kk ls _ hl ⟨_, _, rfl, rfl, hv⟩)
  · cases h4
/-! returns -/
theorem ok_rv (hd : decode M.2.1 pc = .ok (.return_, 1)) (hr : M.2.2.2 = none) : m_ok Γ tab k M pc x_rv := by
  intro p l e R s m args below meth c A Q ad0 h0 d fr r h' hq go cl hgo hcl lv st h hX
  obtain ⟨rfl, h2⟩ := mx_nil hX
  cases h2
  refine ⟨Nat.le_refl _, Nat.le_refl _, fun a1 a2 a3 a4 ad ws tys H locs ls vs hh hl hv => ?_⟩
  rw [show vs = [] from hv]
  exact hq .return_ ad ws tys H locs ls pc none hh a1 a2 a3 a4 rfl ⟨rfl, hr⟩ hd
theorem ok_ri (hd : decode M.2.1 pc = .ok (.ireturn, 1)) (hr : M.2.2.2 = some .int) : m_ok Γ tab k M pc x_ri := by
  intro p l e R s m args below meth c A Q ad0 h0 d fr r h' hq go cl hgo hcl lv st h hX
  obtain ⟨n, t, rfl, h1⟩ := mx_pi hX
  obtain ⟨rfl, h2⟩ := mx_nil h1
  cases h2
  refine ⟨Nat.le_refl _, Nat.le_refl _, fun a1 a2 a3 a4 ad ws tys H locs ls vs hh hl hv => ?_⟩
  obtain ⟨w, vt, rfl, hw, hv⟩ := hv
  rw [show vt = [] from hv]
  exact hq .ireturn ad ws tys H locs ls pc (some w) hh a1 a2 a3 a4 ⟨w, rfl, hw⟩ ⟨rfl, _, hr, rfl⟩ hd
theorem ok_rz (hd : decode M.2.1 pc = .ok (.ireturn, 1)) (hr : M.2.2.2 = some .boolean) : m_ok Γ tab k M pc x_rz := by
  intro p l e R s m args below meth c A Q ad0 h0 d fr r h' hq go cl hgo hcl lv st h hX
  obtain ⟨n, t, rfl, h1⟩ := mx_pi hX
  obtain ⟨rfl, h2⟩ := mx_nil h1
  obtain ⟨h3, h4⟩ := mx_ift h2
  cases h4
  have hn : n ≤ 1 := Nat.le_of_ble_eq_true h3
  refine ⟨Nat.le_refl _, Nat.le_refl _, fun a1 a2 a3 a4 ad ws tys H locs ls vs hh hl hv => ?_⟩
  obtain ⟨w, vt, rfl, hw, hv⟩ := hv
  rw [show vt = [] from hv]
  refine hq .ireturn ad ws tys H locs ls pc (some w) hh a1 a2 a3 a4 ⟨w, rfl, hw⟩ ⟨rfl, _, hr, ?_⟩ hd
  rcases (show n = 0 ∨ n = 1 by omega) with rfl | rfl <;> rfl
theorem ok_rl (hd : decode M.2.1 pc = .ok (.lreturn, 1)) (hr : M.2.2.2 = some .long) : m_ok Γ tab k M pc x_rl := by
  intro p l e R s m args below meth c A Q ad0 h0 d fr r h' hq go cl hgo hcl lv st h hX
  obtain ⟨n, t, rfl, h1⟩ := mx_pl hX
  obtain ⟨rfl, h2⟩ := mx_nil h1
  cases h2
  refine ⟨Nat.le_refl _, Nat.le_refl _, fun a1 a2 a3 a4 ad ws tys H locs ls vs hh hl hv => ?_⟩
  obtain ⟨w, vt, rfl, hw, hv⟩ := hv
  rw [show vt = [] from hv]
  exact hq .lreturn ad ws tys H locs ls pc (some w) hh a1 a2 a3 a4 ⟨w, rfl, hw⟩ ⟨rfl, hr⟩ hd
theorem ok_ra {C : String} (hd : decode M.2.1 pc = .ok (.areturn, 1)) (hr : M.2.2.2 = some (.object C)) : m_ok Γ tab k M pc x_ra := by
  intro p l e R s m args below meth c A Q ad0 h0 d fr r h' hq go cl hgo hcl lv st h hX
  obtain ⟨o, t, rfl, h1⟩ := mx_po hX
  obtain ⟨rfl, h2⟩ := mx_nil h1
  cases h2
  refine ⟨Nat.le_refl _, Nat.le_refl _, fun a1 a2 a3 a4 ad ws tys H locs ls vs hh hl hv => ?_⟩
  obtain ⟨w, vt, rfl, hw, hv⟩ := hv
  rw [show vt = [] from hv]
  exact hq .areturn ad ws tys H locs ls pc (some w) hh a1 a2 a3 a4 ⟨w, rfl, hw⟩ ⟨rfl, _, hr, Or.inl ⟨C, rfl⟩⟩ hd
/-! the law's own -/
theorem ok_sld (hlaw : M.1.cls = "NeverLikeLaw") (hd : decode M.2.1 pc = .ok (.iaload, 1)) (hK : m_ok Γ tab k M (pc + 1) K) : m_ok Γ tab k M pc (x_sld Γ.2.2.2.2 K) := by
  refine ok_step hK ?_
  intro p l e R s m args below meth c A Q d fr go cl lv st h r hX
  obtain ⟨i, t, rfl, h2⟩ := mx_pi hX
  obtain ⟨t, rfl, h3⟩ := mx_ps h2
  obtain ⟨v, h4, h5⟩ := mx_get h3
  refine ⟨lv, _, h5, fun ad ws tys H locs ls vs ad0 cells slots _ _ hh hl hv kk => ?_⟩
  obtain ⟨w1, vt, rfl, hw1, w2, vt, rfl, hw2, hv⟩ := hv
  cases (show w1 = .int (nI i) from hw1)
  cases (show w2 = .ref Γ.2.1 from hw2)
  obtain ⟨xs, x1, x2, x3, x4, x5⟩ := fr.2.2.2.2.2.2.2.2.2.2.2.2 hlaw
  have hi := (List.getElem?_eq_some_iff.mp h4).1
  exact va_sld fr.1 fr.2.1 x1 x2 x3 hh.2.2.2.2.2 (mn_in hi x4) hd (kk ls _ hl ⟨_, _, rfl, by show _ = Value.int _; rw [mn_cl hi x4, x5 i v h4], hv⟩)
theorem ok_sln (hlaw : M.1.cls = "NeverLikeLaw") (hd : decode M.2.1 pc = .ok (.arraylength, 1)) (hK : m_ok Γ tab k M (pc + 1) K) : m_ok Γ tab k M pc (x_sln Γ.2.2.2.2 K) := by
  refine ok_step hK ?_
  intro p l e R s m args below meth c A Q d fr go cl lv st h r hX
  obtain ⟨t, rfl, h3⟩ := mx_ps hX
  refine ⟨lv, _, h3, fun ad ws tys H locs ls vs ad0 cells slots _ _ hh hl hv kk => ?_⟩
  obtain ⟨w2, vt, rfl, hw2, hv⟩ := hv
  cases (show w2 = .ref Γ.2.1 from hw2)
  obtain ⟨xs, x1, x2, x3, x4, x5⟩ := fr.2.2.2.2.2.2.2.2.2.2.2.2 hlaw
  exact va_slen fr.1 fr.2.1 x1 x2 x3 hh.2.2.2.2.2 hd (kk ls _ hl ⟨_, _, rfl, rfl, hv⟩)
end OK5
