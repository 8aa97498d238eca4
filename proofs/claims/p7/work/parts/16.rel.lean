/-! THE REAL MACHINE AND THE PLAIN ONE: what a plain state says of a real one -/
/-- D, the script's cell, the String constants' cells and their bytes, the script -/
abbrev m_G : Type := va_G × Nat × (Nat → Nat) × (Nat → Nat) × List Nat
def m_sp (Γ : m_G) (i : Nat) : Nat := Nat.rec (motive := fun _ => Nat) Γ.2.1 (fun i _ => Γ.2.2.1 i) i
def m_rv (Γ : m_G) (ad : List Nat) (v : m_V) (w : Value) : Prop := match v with
  | .inl n => w = .int (nI n)
  | .inr (.inl none) => w = .null
  | .inr (.inl (some q)) => ∃ a, ad[q]? = some a ∧ w = .ref a
  | .inr (.inr (.inl n)) => w = .long (lN n)
  | .inr (.inr (.inr i)) => w = .ref (m_sp Γ i)
def m_rs (Γ : m_G) (ad : List Nat) : List m_V → List Value → Prop
  | [], ws => ws = []
  | v :: st, ws => ∃ w t, ws = w :: t ∧ m_rv Γ ad v w ∧ m_rs Γ ad st t
def m_cty (c : Nat) : FieldType := match vwCl[c]? with
  | some q => .object q.1
  | none => .array .int
def m_bty (z : Bool) : FieldType := match z with
  | true => .boolean
  | false => .int
def m_re (Γ : m_G) (ad : List Nat) (tys : List (ClassId × FieldType)) (e : m_E) (w : va_E) : Prop := match e with
  | .inl (z, n, A) => ∃ (cA : ClassId) (t0 : Nat), w = .inl (cA, n, .inl (fun j => nI (m_ag A j))) ∧ tys[t0]? = some (cA, m_bty z) ∧ n < 2 ^ 31
  | .inr (.inl (c, n, l)) => ∃ (cA : ClassId) (t0 : Nat) (f : Nat → Option Nat), w = .inl (cA, n, .inr (.inr (.inr (.inr f)))) ∧ tys[t0]? = some (cA, m_cty c) ∧ n < 2 ^ 31 ∧ ∀ j o, l[j]? = some o → m_rv Γ ad (.inr (.inl o)) (va_rf (f j))
  | .inr (.inr (c, fs)) => ∃ gs : List Value, w = .inr (c, gs) ∧ m_rs Γ ad fs gs
def m_pre {α : Type} (l1 l2 : List α) : Prop := ∀ (i : Nat) (x : α), l1[i]? = some x → l2[i]? = some x
def m_rh (Γ : m_G) (ad : List Nat) (tys : List (ClassId × FieldType)) (h : m_H) (ws : va_W) : Prop := ad.length = h.1 ∧ ws.length = h.1 ∧ m_wf h.2.2 h.1 ∧ ∀ (q : Nat) (e : m_E), m_at h.2.2 q = some e → ∃ (a : Nat) (w : va_E), ad[q]? = some a ∧ ws[q]? = some (a, w) ∧ m_re Γ ad tys e w
def m_rl (Γ : m_G) (ad : List Nat) (nL : Nat) (lv : List m_V) (ls : Array Slot) : Prop := ls.size = nL ∧ lv_wf ls ∧ ∀ (i : Nat) (v : m_V), lv[i]? = some v → m_cat v → ∃ w : Value, ls[i]? = some (.val w) ∧ m_rv Γ ad v w
theorem mp_rf {α : Type} (l : List α) : m_pre l l := fun _ _ h => h
theorem mp_tr {α : Type} {a b c : List α} (h1 : m_pre a b) (h2 : m_pre b c) : m_pre a c := fun i x h => h2 i x (h1 i x h)
theorem mp_ap {α : Type} (a b : List α) : m_pre a (a ++ b) := fun i x h => by
  rw [List.getElem?_append_left (List.getElem?_eq_some_iff.mp h).1]
  exact h
theorem mv_mono {Γ : m_G} {ad ad' : List Nat} (hp : m_pre ad ad') {v : m_V} {w : Value} (h : m_rv Γ ad v w) : m_rv Γ ad' v w := by
  rcases v with n | (_ | q) | n | i
  · exact h
  · exact h
  · obtain ⟨a, h1, h2⟩ := h
    exact ⟨a, hp _ _ h1, h2⟩
  · exact h
  · exact h
theorem ms_mono {Γ : m_G} {ad ad' : List Nat} (hp : m_pre ad ad') : ∀ {st : List m_V} {vs : List Value}, m_rs Γ ad st vs → m_rs Γ ad' st vs := by
  intro st
  induction st with
  | nil => intro vs h; exact h
  | cons v st ih =>
    intro vs h
    obtain ⟨w, t, h1, h2, h3⟩ := h
    exact ⟨w, t, h1, mv_mono hp h2, ih h3⟩
theorem me_mono {Γ : m_G} {ad ad' : List Nat} {tys tys' : List (ClassId × FieldType)} (hp : m_pre ad ad') (ht : m_pre tys tys') {e : m_E} {w : va_E} (h : m_re Γ ad tys e w) : m_re Γ ad' tys' e w := by
  rcases e with ⟨z, n, A⟩ | ⟨c, n, l⟩ | ⟨c, fs⟩
  · obtain ⟨cA, t0, h1, h2, h3⟩ := h
    exact ⟨cA, t0, h1, ht _ _ h2, h3⟩
  · obtain ⟨cA, t0, f, h1, h2, h3, h4⟩ := h
    exact ⟨cA, t0, f, h1, ht _ _ h2, h3, fun j o hj => mv_mono hp (h4 j o hj)⟩
  · obtain ⟨gs, h1, h2⟩ := h
    exact ⟨gs, h1, ms_mono hp h2⟩
theorem ml_mono {Γ : m_G} {ad ad' : List Nat} (hp : m_pre ad ad') {nL : Nat} {lv : List m_V} {ls : Array Slot} (h : m_rl Γ ad nL lv ls) : m_rl Γ ad' nL lv ls := ⟨h.1, h.2.1, fun i v hv hc => by
  obtain ⟨w, h1, h2⟩ := h.2.2 i v hv hc
  exact ⟨w, h1, mv_mono hp h2⟩⟩
theorem ms_len {Γ : m_G} {ad : List Nat} : ∀ {st : List m_V} {vs : List Value}, m_rs Γ ad st vs → vs.length = st.length := by
  intro st
  induction st with
  | nil => intro vs h; rw [h]; rfl
  | cons v st ih =>
    intro vs h
    obtain ⟨w, t, rfl, -, h3⟩ := h
    simp [ih h3]
theorem mv_cat {Γ : m_G} {ad : List Nat} {v : m_V} {w : Value} (h : m_rv Γ ad v w) (hc : m_cat v) : w.category = 1 := by
  rcases v with n | (_ | q) | n | i
  · rw [show w = .int (nI n) from h]; rfl
  · rw [show w = .null from h]; rfl
  · obtain ⟨a, -, rfl⟩ := h; rfl
  · exact absurd rfl (hc n)
  · rw [show w = .ref _ from h]; rfl
theorem mv_cat2 {Γ : m_G} {ad : List Nat} {v : m_V} {w : Value} (_ : m_rv Γ ad v w) : w.category ≤ 2 := by
  rcases lv_cat w with h | h <;> omega
theorem ms_sum {Γ : m_G} {ad : List Nat} : ∀ {st : List m_V} {vs : List Value}, m_rs Γ ad st vs → (vs.map fun v => v.category).sum ≤ 2 * st.length := by
  intro st
  induction st with
  | nil => intro vs h; rw [h]; exact Nat.le_refl _
  | cons v st ih =>
    intro vs h
    obtain ⟨w, t, rfl, h2, h3⟩ := h
    have := ih h3
    have := mv_cat2 h2
    simp only [List.map_cons, List.sum_cons, List.length_cons]
    omega
theorem ms_get {Γ : m_G} {ad : List Nat} : ∀ {st : List m_V} {vs : List Value} {i : Nat} {v : m_V}, m_rs Γ ad st vs → st[i]? = some v → ∃ w, vs[i]? = some w ∧ m_rv Γ ad v w := by
  intro st
  induction st with
  | nil => intro vs i v h hv; simp at hv
  | cons x st ih =>
    intro vs i v h hv
    obtain ⟨w, t, rfl, h2, h3⟩ := h
    cases i with
    | zero => cases hv; exact ⟨w, rfl, h2⟩
    | succ i => exact ih (vs := t) (i := i) h3 hv
theorem ms_set {Γ : m_G} {ad : List Nat} : ∀ {st : List m_V} {vs : List Value} (i : Nat) {v : m_V} {w : Value}, m_rs Γ ad st vs → m_rv Γ ad v w → m_rs Γ ad (st.set i v) (vs.set i w) := by
  intro st
  induction st with
  | nil => intro vs i v w h _; rw [h]; exact rfl
  | cons x st ih =>
    intro vs i v w h hv
    obtain ⟨w', t, rfl, h2, h3⟩ := h
    cases i with
    | zero => exact ⟨w, t, rfl, hv, h3⟩
    | succ i => exact ⟨w', _, rfl, h2, ih i h3 hv⟩
theorem ms_app {Γ : m_G} {ad : List Nat} : ∀ {a b : List m_V} {vs : List Value}, m_rs Γ ad (a ++ b) vs → ∃ x y, vs = x ++ y ∧ m_rs Γ ad a x ∧ m_rs Γ ad b y := by
  intro a
  induction a with
  | nil => intro b vs h; exact ⟨[], vs, rfl, rfl, h⟩
  | cons v a ih =>
    intro b vs h
    obtain ⟨w, t, rfl, h2, h3⟩ := h
    obtain ⟨x, y, rfl, h4, h5⟩ := ih h3
    exact ⟨w :: x, y, rfl, ⟨w, x, rfl, h2, h4⟩, h5⟩
theorem ms_join {Γ : m_G} {ad : List Nat} : ∀ {a b : List m_V} {x y : List Value}, m_rs Γ ad a x → m_rs Γ ad b y → m_rs Γ ad (a ++ b) (x ++ y) := by
  intro a
  induction a with
  | nil => intro b x y h1 h2; rw [h1]; exact h2
  | cons v a ih =>
    intro b x y h1 h2
    obtain ⟨w, t, rfl, h3, h4⟩ := h1
    exact ⟨w, t ++ y, rfl, h3, ih h4 h2⟩
theorem ms_rev {Γ : m_G} {ad : List Nat} : ∀ {a : List m_V} {x : List Value}, m_rs Γ ad a x → m_rs Γ ad a.reverse x.reverse := by
  intro a
  induction a with
  | nil => intro x h; rw [h]; exact rfl
  | cons v a ih =>
    intro x h
    obtain ⟨w, t, rfl, h2, h3⟩ := h
    simp only [List.reverse_cons]
    exact ms_join (ih h3) ⟨w, [], rfl, h2, rfl⟩
/-- a store in the locals -/
theorem ml_set {Γ : m_G} {ad : List Nat} {nL : Nat} {lv : List m_V} {ls : Array Slot} {i : Nat} {v : m_V} {w : Value} (h : m_rl Γ ad nL lv ls) (hi : i < nL) (hv : m_rv Γ ad v w) (hc : m_cat v) : ∃ ls', storeLocals ls i w = some ls' ∧ m_rl Γ ad nL (lv.set i v) ls' := by
  obtain ⟨ls', e1, e2⟩ := lv_store1 (l := []) (v := w) ⟨h.1, h.2.1, fun q hq => by cases hq⟩ hi (mv_cat hv hc)
  refine ⟨ls', e1, e2.1, e2.2.1, fun j x hx hxc => ?_⟩
  by_cases hj : i = j
  · subst hj
    by_cases hl : i < lv.length
    · rw [List.getElem?_set_self hl] at hx
      cases hx
      exact ⟨w, e2.2.2 (i, w) List.mem_cons_self, hv⟩
    · rw [List.getElem?_eq_none (by rw [List.length_set]; omega)] at hx
      cases hx
  · rw [List.getElem?_set_ne hj] at hx
    obtain ⟨y, h1, h2⟩ := h.2.2 j x hx hxc
    obtain ⟨ls2, e3, e4⟩ := lv_store1 (l := [(j, y)]) (v := w) ⟨h.1, h.2.1, fun q hq => by
      rw [List.mem_singleton.mp hq]; exact h1⟩ hi (mv_cat hv hc)
    cases e1.symm.trans e3
    refine ⟨y, e4.2.2 (j, y) ?_, h2⟩
    refine List.mem_cons_of_mem _ (List.mem_filter.mpr ⟨List.mem_cons_self, ?_⟩)
    have hy := mv_cat h2 hxc
    have hji : (j == i) = false := by simp; exact fun z => hj z.symm
    simp [hji, hy]
