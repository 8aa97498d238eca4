/-! WHAT THE PLAIN MACHINE'S WORDS MEAN -/
theorem mi_f (n : Nat) (k : Nat → m_R) : m_f n k = k n := by cases n <;> rfl
theorem mi_get {α : Type} (l : List α) : ∀ (i : Nat) (k : α → m_R), m_get l i k = (match l[i]? with | some x => k x | none => none) := by
  induction l with
  | nil => intro i k; simp [m_get]
  | cons x l ih =>
    intro i k
    cases i with
    | zero => rfl
    | succ i => exact ih i k
theorem mx_get {α : Type} {l : List α} {i : Nat} {k : α → m_R} {r : Option m_V × m_H} (h : m_get l i k = some r) : ∃ x, l[i]? = some x ∧ k x = some r := by
  rw [mi_get] at h
  cases hx : l[i]? with
  | none => rw [hx] at h; cases h
  | some x => rw [hx] at h; exact ⟨x, rfl, h⟩
theorem mi_set {α : Type} (l : List α) : ∀ (i : Nat) (v : α) (k : List α → m_R), m_set l i v k = k (l.set i v) := by
  induction l with
  | nil => intro i v k; simp [m_set]
  | cons x l ih =>
    intro i v k
    cases i with
    | zero => rfl
    | succ i => exact ih i v (fun t => k (x :: t))
theorem mi_app {α : Type} (l : List α) : ∀ (v : α) (k : List α → m_R), m_app l v k = k (l ++ [v]) := by
  induction l with
  | nil => intro v k; rfl
  | cons x l ih => intro v k; exact ih v (fun t => k (x :: t))
theorem mi_rep {α : Type} (n : Nat) (v : α) : m_rep n v = List.replicate n v := by
  induction n with
  | zero => rfl
  | succ n ih => show v :: m_rep n v = _; rw [ih]; rfl
theorem mx_if {b : Bool} {x y : m_R} {r : Option m_V × m_H} (h : m_if b x y = some r) : (b = true ∧ x = some r) ∨ (b = false ∧ y = some r) := by
  cases b
  · exact Or.inr ⟨rfl, h⟩
  · exact Or.inl ⟨rfl, h⟩
theorem mx_ift {b : Bool} {x : m_R} {r : Option m_V × m_H} (h : m_if b x none = some r) : b = true ∧ x = some r := by
  cases b
  · cases h
  · exact ⟨rfl, h⟩
theorem mx_iff {b : Bool} {x : m_R} {r : Option m_V × m_H} (h : m_if b none x = some r) : b = false ∧ x = some r := by
  cases b
  · exact ⟨rfl, h⟩
  · cases h
theorem mx_pi {st : List m_V} {k : Nat → List m_V → m_R} {r : Option m_V × m_H} (h : m_pi st k = some r) : ∃ n t, st = .inl n :: t ∧ k n t = some r := by
  cases st with
  | nil => cases h
  | cons v t =>
    cases v with
    | inl n => exact ⟨n, t, rfl, h⟩
    | inr w => cases h
theorem mx_pr {st : List m_V} {k : Nat → List m_V → m_R} {r : Option m_V × m_H} (h : m_pr st k = some r) : ∃ q t, st = .inr (.inl (some q)) :: t ∧ k q t = some r := by
  cases st with
  | nil => cases h
  | cons v t =>
    cases v with
    | inl n => cases h
    | inr w =>
      cases w with
      | inl o =>
        cases o with
        | none => cases h
        | some q => exact ⟨q, t, rfl, h⟩
      | inr z => cases h
theorem mx_po {st : List m_V} {k : Option Nat → List m_V → m_R} {r : Option m_V × m_H} (h : m_po st k = some r) : ∃ o t, st = .inr (.inl o) :: t ∧ k o t = some r := by
  cases st with
  | nil => cases h
  | cons v t =>
    cases v with
    | inl n => cases h
    | inr w =>
      cases w with
      | inl o => exact ⟨o, t, rfl, h⟩
      | inr z => cases h
theorem mx_pl {st : List m_V} {k : Nat → List m_V → m_R} {r : Option m_V × m_H} (h : m_pl st k = some r) : ∃ n t, st = .inr (.inr (.inl n)) :: t ∧ k n t = some r := by
  cases st with
  | nil => cases h
  | cons v t =>
    cases v with
    | inl n => cases h
    | inr w =>
      cases w with
      | inl o => cases h
      | inr z =>
        cases z with
        | inl n => exact ⟨n, t, rfl, h⟩
        | inr i => cases h
theorem mx_ps {st : List m_V} {k : List m_V → m_R} {r : Option m_V × m_H} (h : m_ps st k = some r) : ∃ t, st = .inr (.inr (.inr 0)) :: t ∧ k t = some r := by
  cases st with
  | nil => cases h
  | cons v t =>
    cases v with
    | inl n => cases h
    | inr w =>
      cases w with
      | inl o => cases h
      | inr z =>
        cases z with
        | inl n => cases h
        | inr i =>
          cases i with
          | zero => exact ⟨t, rfl, h⟩
          | succ i => cases h
theorem mx_pv {st : List m_V} {k : m_V → List m_V → m_R} {r : Option m_V × m_H} (h : m_pv st k = some r) : ∃ v t, st = v :: t ∧ k v t = some r := by
  cases st with
  | nil => cases h
  | cons v t => exact ⟨v, t, rfl, h⟩
theorem mx_obj {e : m_E} {k : Nat → List m_V → m_R} {r : Option m_V × m_H} (h : m_obj e k = some r) : ∃ c fs, e = .inr (.inr (c, fs)) ∧ k c fs = some r := by
  rcases e with e | e | ⟨c, fs⟩
  · cases h
  · cases h
  · exact ⟨c, fs, rfl, h⟩
theorem mx_arr {e : m_E} {k : Bool → Nat → Nat → m_R} {r : Option m_V × m_H} (h : m_arr e k = some r) : ∃ z n A, e = .inl (z, n, A) ∧ k z n A = some r := by
  rcases e with ⟨z, n, A⟩ | e | e
  · exact ⟨z, n, A, rfl, h⟩
  · cases h
  · cases h
theorem mx_arq {e : m_E} {k : Nat → Nat → List (Option Nat) → m_R} {r : Option m_V × m_H} (h : m_arq e k = some r) : ∃ c n l, e = .inr (.inl (c, n, l)) ∧ k c n l = some r := by
  rcases e with e | ⟨c, n, l⟩ | e
  · cases h
  · exact ⟨c, n, l, rfl, h⟩
  · cases h
/-- of one place -/
def m_cat (v : m_V) : Prop := ∀ n : Nat, v ≠ .inr (.inr (.inl n))
theorem mx_c1 {v : m_V} {k : m_R} {r : Option m_V × m_H} (h : m_c1 v k = some r) : m_cat v ∧ k = some r := by
  rcases v with n | o | n | i
  · exact ⟨fun _ e => (by cases e), h⟩
  · exact ⟨fun _ e => (by cases e), h⟩
  · cases h
  · exact ⟨fun _ e => (by cases e), h⟩
theorem mi_ln (l : List m_V) : m_ln l = l.length := by
  induction l with
  | nil => rfl
  | cons v l ih => show Nat.succ (m_ln l) = _; rw [ih]; rfl
theorem mx_short {l : List m_V} {k : m_R} {r : Option m_V × m_H} (h : m_short l k = some r) : l.length ≤ 4 ∧ k = some r := by
  obtain ⟨h1, h2⟩ := mx_ift h
  rw [mi_ln] at h1
  exact ⟨Nat.le_of_ble_eq_true h1, h2⟩
theorem mx_nil {l : List m_V} {k : m_R} {r : Option m_V × m_H} (h : m_nil l k = some r) : l = [] ∧ k = some r := by
  cases l with
  | nil => exact ⟨rfl, h⟩
  | cons v l => cases h
theorem mx_take : ∀ (n : Nat) {st acc : List m_V} {k : List m_V → List m_V → m_R} {r : Option m_V × m_H} (_ : m_take n st acc k = some r), ∃ as t, st = as.reverse ++ t ∧ as.length = n ∧ (∀ v ∈ as, m_cat v) ∧ k (as ++ acc) t = some r := by
  intro n
  induction n with
  | zero => intro st acc k r h; exact ⟨[], st, rfl, rfl, fun _ h => absurd h List.not_mem_nil, h⟩
  | succ n ih =>
    intro st acc k r h
    cases st with
    | nil => cases h
    | cons v st =>
      obtain ⟨hc, h⟩ := mx_c1 (show m_c1 v (m_take n st (v :: acc) k) = some r from h)
      obtain ⟨as, t, h1, h2, h4, h3⟩ := ih (st := st) (acc := v :: acc) (k := k) (r := r) h
      refine ⟨as ++ [v], t, by rw [h1]; simp, by simp [h2], fun x hx => ?_, by simpa using h3⟩
      rcases List.mem_append.mp hx with hx | hx
      · exact h4 x hx
      · rw [List.mem_singleton.mp hx]; exact hc
theorem mx_ans {o : m_R} {k : Option m_V → m_H → m_R} {r : Option m_V × m_H} (h : m_ans o k = some r) : ∃ v h', o = some (v, h') ∧ k v h' = some r := by
  cases o with
  | none => cases h
  | some p =>
    obtain ⟨v, h'⟩ := p
    exact ⟨v, h', rfl, h⟩
/-! the cells -/
def m_at (l : List (List m_E)) (q : Nat) : Option m_E := (l[q / 8]?).bind (fun c => c[q % 8]?)
def m_wf (l : List (List m_E)) (a : Nat) : Prop := l.length = (a + 7) / 8 ∧ ∀ (i : Nat) (c : List m_E), l[i]? = some c → c.length = min 8 (a - 8 * i)
theorem mw_at {l : List (List m_E)} {q : Nat} {e : m_E} (h : m_at l q = some e) : ∃ c, l[q / 8]? = some c ∧ c[q % 8]? = some e := by
  unfold m_at at h
  cases hc : l[q / 8]? with
  | none => rw [hc] at h; cases h
  | some c => rw [hc] at h; exact ⟨c, rfl, h⟩
theorem mw_of {l : List (List m_E)} {q : Nat} {e : m_E} {c : List m_E} (h1 : l[q / 8]? = some c) (h2 : c[q % 8]? = some e) : m_at l q = some e := by
  unfold m_at
  rw [h1]
  exact h2
theorem mw_lt {l : List (List m_E)} {a q : Nat} {e : m_E} (hw : m_wf l a) (h : m_at l q = some e) : q < a := by
  obtain ⟨c, h1, h2⟩ := mw_at h
  have h3 := hw.2 _ _ h1
  have h4 := (List.getElem?_eq_some_iff.mp h2).1
  omega
theorem mx_hg {l : List (List m_E)} {q : Nat} {k : m_E → m_R} {r : Option m_V × m_H} (h : m_hg l q k = some r) : ∃ e, m_at l q = some e ∧ k e = some r := by
  obtain ⟨c, h1, h2⟩ := mx_get h
  obtain ⟨e, h3, h4⟩ := mx_get h2
  exact ⟨e, mw_of h1 h3, h4⟩
theorem mx_hs {l : List (List m_E)} {q : Nat} {e e0 : m_E} {k : List (List m_E) → m_R} {r : Option m_V × m_H} (h : m_hs l q e k = some r) (h0 : m_at l q = some e0) : ∃ l', k l' = some r ∧ m_at l' q = some e ∧ (∀ p, p ≠ q → m_at l' p = m_at l p) ∧ ∀ a, m_wf l a → m_wf l' a := by
  obtain ⟨c, h1, h2⟩ := mx_get h
  replace h1 : l[q / 8]? = some c := h1
  rw [mi_set, mi_set] at h2
  obtain ⟨c0, g1, g2⟩ := mw_at h0
  have hcc : c0 = c := Option.some.inj (g1.symm.trans h1)
  subst hcc
  have hq := (List.getElem?_eq_some_iff.mp g2).1
  have hl := (List.getElem?_eq_some_iff.mp g1).1
  refine ⟨_, h2, mw_of (c := c0.set (q % 8) e) (List.getElem?_set_self hl) (List.getElem?_set_self hq), fun p hp => ?_, fun a hw => ⟨?_, fun i c hc => ?_⟩⟩
  · by_cases hd : p / 8 = q / 8
    · have hm : q % 8 ≠ p % 8 := by omega
      have e1 : (l.set (q / 8) (c0.set (q % 8) e))[p / 8]? = some (c0.set (q % 8) e) := by rw [hd]; exact List.getElem?_set_self hl
      have e2 : l[p / 8]? = some c0 := by rw [hd]; exact g1
      show ((l.set (q / 8) (c0.set (q % 8) e))[p / 8]?).bind _ = (l[p / 8]?).bind _
      rw [e1, e2]
      exact List.getElem?_set_ne hm
    · show ((l.set (q / 8) (c0.set (q % 8) e))[p / 8]?).bind _ = (l[p / 8]?).bind _
      rw [List.getElem?_set_ne (fun z => hd z.symm)]
  · show (l.set (q / 8) (c0.set (q % 8) e)).length = _
    rw [List.length_set]
    exact hw.1
  · replace hc : (l.set (q / 8) (c0.set (q % 8) e))[i]? = some c := hc
    by_cases hi : q / 8 = i
    · subst hi
      rw [List.getElem?_set_self hl] at hc
      cases hc
      rw [List.length_set]
      exact hw.2 _ _ g1
    · rw [List.getElem?_set_ne hi] at hc
      exact hw.2 _ _ hc
theorem mx_hn {l : List (List m_E)} {a : Nat} {e : m_E} {k : List (List m_E) → m_R} {r : Option m_V × m_H} (h : m_hn l a e k = some r) (hw : m_wf l a) : ∃ l', k l' = some r ∧ m_at l' a = some e ∧ (∀ p, p < a → m_at l' p = m_at l p) ∧ m_wf l' (a + 1) := by
  unfold m_hn at h
  have hma : Nat.mod a 8 = a % 8 := rfl
  cases hm : Nat.mod a 8 with
  | zero =>
    rw [hm] at h
    replace h : m_app l [e] k = some r := h
    rw [mi_app] at h
    rw [hma] at hm
    have hl : l.length = a / 8 := by rw [hw.1]; omega
    refine ⟨_, h, mw_of (c := [e]) ?_ ?_, fun p hp => ?_, ?_, fun i c hc => ?_⟩
    · rw [← hl]; simp
    · rw [hm]; rfl
    · show ((l ++ [[e]])[p / 8]?).bind _ = (l[p / 8]?).bind _
      rw [List.getElem?_append_left (by omega)]
    · rw [List.length_append, hl]; simp; omega
    · by_cases hi : i < l.length
      · rw [List.getElem?_append_left hi] at hc
        rw [hw.2 _ _ hc]
        omega
      · rw [List.getElem?_append_right (by omega)] at hc
        have hz : i - l.length < 1 := (List.getElem?_eq_some_iff.mp hc).1
        rw [show i - l.length = 0 by omega] at hc
        cases hc
        show 1 = _
        omega
  | succ j =>
    rw [hm] at h
    replace h : m_get l (Nat.div a 8) (fun c => m_app c e (fun c' => m_set l (Nat.div a 8) c' k)) = some r := h
    rw [hma] at hm
    obtain ⟨c, h1, h2⟩ := mx_get h
    replace h1 : l[a / 8]? = some c := h1
    rw [mi_app, mi_set] at h2
    have hl := (List.getElem?_eq_some_iff.mp h1).1
    have hc := hw.2 _ _ h1
    refine ⟨_, h2, mw_of (c := c ++ [e]) (List.getElem?_set_self hl) ?_, fun p hp => ?_, ?_, fun i d hd => ?_⟩
    · have hcl : c.length = a % 8 := by omega
      rw [← hcl]; simp
    · show ((l.set (a / 8) (c ++ [e]))[p / 8]?).bind _ = (l[p / 8]?).bind _
      by_cases hd : p / 8 = a / 8
      · rw [hd, List.getElem?_set_self hl, h1]
        exact List.getElem?_append_left (by omega)
      · rw [List.getElem?_set_ne (fun z => hd z.symm)]
    · show (l.set (a / 8) (c ++ [e])).length = _
      rw [List.length_set, hw.1]; omega
    · replace hd : (l.set (a / 8) (c ++ [e]))[i]? = some d := hd
      by_cases hi : a / 8 = i
      · subst hi
        rw [List.getElem?_set_self hl] at hd
        cases hd
        rw [List.length_append, hc]
        simp
        omega
      · rw [List.getElem?_set_ne hi] at hd
        rw [hw.2 _ _ hd]
        have := (List.getElem?_eq_some_iff.mp hd).1
        have := hw.1
        omega
theorem mi_hn (l : List (List m_E)) (a : Nat) (e : m_E) : ∃ o : Option (List (List m_E)), ∀ k : List (List m_E) → m_R, m_hn l a e k = (match o with | some l' => k l' | none => none) := by
  unfold m_hn
  cases Nat.mod a 8 with
  | zero => exact ⟨some (l ++ [[e]]), fun k => mi_app l [e] k⟩
  | succ j =>
    cases hc : l[Nat.div a 8]? with
    | none =>
      refine ⟨none, fun k => ?_⟩
      show m_get l (Nat.div a 8) _ = none
      rw [mi_get, hc]
    | some c =>
      refine ⟨some (l.set (Nat.div a 8) (c ++ [e])), fun k => ?_⟩
      show m_get l (Nat.div a 8) _ = k _
      rw [mi_get, hc]
      show m_app c e _ = _
      rw [mi_app, mi_set]
theorem mx_hm {l : List (List m_E)} {a : Nat} {e : m_E} {k : List (List m_E) → m_R} {r : Option m_V × m_H} (h : m_hn l a e k = some r) : ∃ l', k l' = some r ∧ (m_wf l a → m_at l' a = some e ∧ (∀ p, p < a → m_at l' p = m_at l p) ∧ m_wf l' (a + 1)) := by
  obtain ⟨o, ho⟩ := mi_hn l a e
  rw [ho k] at h
  cases o with
  | none => cases h
  | some l' =>
    refine ⟨l', h, fun hw => ?_⟩
    obtain ⟨l2, g1, g2⟩ := mx_hn (k := fun l' => some (none, (0, 0, l'))) (r := (none, (0, 0, l'))) (ho _) hw
    cases g1
    exact g2
