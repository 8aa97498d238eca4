/-! A CELL THAT IS NEVER LOOKED AT may be any: runs on a heap some of whose cells are of no class -/
def m_px : m_E := .inr (.inr (999, []))
def r_e (e e' : m_E) : Prop := e = e' ∨ e = m_px
/-- related lists, one by one -/
def r_f {α : Type} (R : α → α → Prop) (l l' : List α) : Prop := (List.rec (motive := fun _ => List α → Prop) (fun m => m = []) (fun x _ ih m => ∃ y m', m = y :: m' ∧ R x y ∧ ih m') l : List α → Prop) l'
abbrev r_l (l l' : List (List m_E)) : Prop := r_f (r_f r_e) l l'
def r_h (h h' : m_H) : Prop := h.1 = h'.1 ∧ h.2.1 = h'.2.1 ∧ r_l h.2.2 h'.2.2
theorem r_f_rf {α : Type} {R : α → α → Prop} (hR : ∀ x, R x x) : ∀ l, r_f R l l := by
  intro l
  induction l with
  | nil => rfl
  | cons x l ih => exact ⟨x, l, rfl, hR x, ih⟩
def m_lf (r r' : m_R) : Prop := ∀ x h, r = some (x, h) → ∃ h', r' = some (x, h') ∧ r_h h h'
theorem lf_none {r : m_R} : m_lf none r := fun x h e => by cases e
theorem lf_f {n : Nat} {k k' : Nat → m_R} (h : ∀ n, m_lf (k n) (k' n)) : m_lf (m_f n k) (m_f n k') := by cases n <;> exact h _
theorem lf_get {α : Type} {l : List α} {i : Nat} {k k' : α → m_R} (h : ∀ x, m_lf (k x) (k' x)) : m_lf (m_get l i k) (m_get l i k') := by
  induction l generalizing i with
  | nil => exact lf_none
  | cons x l ih => cases i with
    | zero => exact h x
    | succ i => exact ih
theorem lf_get2 {α : Type} {R : α → α → Prop} {l l' : List α} {i : Nat} {k k' : α → m_R} (hl : r_f R l l') (h : ∀ x x', R x x' → m_lf (k x) (k' x')) : m_lf (m_get l i k) (m_get l' i k') := by
  induction l generalizing i l' with
  | nil => exact lf_none
  | cons x l ih =>
    obtain ⟨y, m, rfl, h1, h2⟩ := hl
    cases i with
    | zero => exact h x y h1
    | succ i => exact ih h2
theorem lf_set {α : Type} {l : List α} {i : Nat} {v : α} {k k' : List α → m_R} (h : ∀ x, m_lf (k x) (k' x)) : m_lf (m_set l i v k) (m_set l i v k') := by
  induction l generalizing i k k' with
  | nil => exact h _
  | cons x l ih => cases i with
    | zero => exact h _
    | succ i => exact ih (fun t => h (x :: t))
theorem lf_set2 {α : Type} {R : α → α → Prop} {l l' : List α} {i : Nat} {v v' : α} {k k' : List α → m_R} (hl : r_f R l l') (hv : R v v') (h : ∀ x x', r_f R x x' → m_lf (k x) (k' x')) : m_lf (m_set l i v k) (m_set l' i v' k') := by
  induction l generalizing i l' k k' with
  | nil => cases (show l' = [] from hl); exact h _ _ rfl
  | cons x l ih =>
    obtain ⟨y, m, rfl, h1, h2⟩ := hl
    cases i with
    | zero => exact h _ _ ⟨v', m, rfl, hv, h2⟩
    | succ i => exact ih h2 (fun t t' ht => h (x :: t) (y :: t') ⟨y, t', rfl, h1, ht⟩)
theorem lf_app2 {α : Type} {R : α → α → Prop} {v v' : α} (hv : R v v') : ∀ {l l' : List α} {k k' : List α → m_R}, r_f R l l' → (∀ x x', r_f R x x' → m_lf (k x) (k' x')) → m_lf (m_app l v k) (m_app l' v' k') := by
  intro l
  induction l with
  | nil => intro l' k k' hl h; cases (show l' = [] from hl); exact h _ _ ⟨v', [], rfl, hv, rfl⟩
  | cons x l ih =>
    intro l' k k' hl h
    obtain ⟨y, m, rfl, h1, h2⟩ := hl
    show m_lf (m_app l v (fun t => k (x :: t))) (m_app m v' (fun t => k' (y :: t)))
    exact ih h2 (fun t t' ht => h (x :: t) (y :: t') ⟨y, t', rfl, h1, ht⟩)
theorem lf_hg {l l' : List (List m_E)} {q : Nat} {k k' : m_E → m_R} (hl : r_l l l') (h : ∀ x, m_lf (k x) (k' x)) (hp : k m_px = none) : m_lf (m_hg l q k) (m_hg l' q k') := lf_get2 hl fun _ _ hc => lf_get2 hc fun x x' hx => by
  rcases hx with rfl | rfl
  · exact h x
  · rw [hp]; exact lf_none
theorem lf_hs {l l' : List (List m_E)} {q : Nat} {e : m_E} {k k' : List (List m_E) → m_R} (hl : r_l l l') (h : ∀ x x', r_l x x' → m_lf (k x) (k' x')) : m_lf (m_hs l q e k) (m_hs l' q e k') := lf_get2 hl fun _ _ hc => lf_set2 hc (Or.inl rfl) fun _ _ ht => lf_set2 hl ht h
theorem lf_nt {a a' : m_R} {f f' : Nat → m_R} {n : Nat} (h1 : m_lf a a') (h2 : ∀ j, m_lf (f j) (f' j)) : m_lf (Nat.rec (motive := fun _ => m_R) a (fun j _ => f j) n) (Nat.rec (motive := fun _ => m_R) a' (fun j _ => f' j) n) := by
  cases n
  · exact h1
  · exact h2 _
theorem lf_hn {l l' : List (List m_E)} {a : Nat} {e : m_E} {k k' : List (List m_E) → m_R} (hl : r_l l l') (h : ∀ x x', r_l x x' → m_lf (k x) (k' x')) : m_lf (m_hn l a e k) (m_hn l' a e k') := lf_nt (lf_app2 ⟨e, [], rfl, Or.inl rfl, rfl⟩ hl h) (fun _ => lf_get2 hl fun _ _ hc => lf_app2 (show r_e e e from Or.inl rfl) hc fun _ _ ht => lf_set2 hl ht h)
theorem lf_sm {α β : Type} {v : α ⊕ β} {f f' : α → m_R} {g g' : β → m_R} (h1 : ∀ a, m_lf (f a) (f' a)) (h2 : ∀ b, m_lf (g b) (g' b)) : m_lf (Sum.rec (motive := fun _ => m_R) f g v) (Sum.rec (motive := fun _ => m_R) f' g' v) := by
  cases v
  · exact h1 _
  · exact h2 _
theorem lf_opt {α : Type} {v : Option α} {a a' : m_R} {f f' : α → m_R} (h1 : m_lf a a') (h2 : ∀ b, m_lf (f b) (f' b)) : m_lf (Option.rec (motive := fun _ => m_R) a f v) (Option.rec (motive := fun _ => m_R) a' f' v) := by
  cases v
  · exact h1
  · exact h2 _
theorem lf_c1 {v : m_V} {k k' : m_R} (h : m_lf k k') : m_lf (m_c1 v k) (m_c1 v k') := lf_sm (fun _ => h) (fun _ => lf_sm (fun _ => h) (fun _ => lf_sm (fun _ => lf_none) (fun _ => h)))
theorem lf_take {n : Nat} {st acc : List m_V} {k k' : List m_V → List m_V → m_R} (h : ∀ a b, m_lf (k a b) (k' a b)) : m_lf (m_take n st acc k) (m_take n st acc k') := by
  induction n generalizing st acc with
  | zero => exact h _ _
  | succ n ih => cases st with
    | nil => exact lf_none
    | cons v r => exact lf_c1 ih
theorem lf_if {b : Bool} {x x' y y' : m_R} (h1 : m_lf x x') (h2 : m_lf y y') : m_lf (m_if b x y) (m_if b x' y') := by
  cases b
  · exact h2
  · exact h1
theorem lf_if2 {b b' : Bool} {x x' y y' : m_R} (e : b = b') (h1 : m_lf x x') (h2 : m_lf y y') : m_lf (m_if b x y) (m_if b' x' y') := by subst e; exact lf_if h1 h2
theorem lf_pi {st : List m_V} {k k' : Nat → List m_V → m_R} (h : ∀ a b, m_lf (k a b) (k' a b)) : m_lf (m_pi st k) (m_pi st k') := by
  rcases st with _ | ⟨_ | _, r⟩
  · exact lf_none
  · exact h _ _
  · exact lf_none
theorem lf_pr {st : List m_V} {k k' : Nat → List m_V → m_R} (h : ∀ a b, m_lf (k a b) (k' a b)) : m_lf (m_pr st k) (m_pr st k') := by
  rcases st with _ | ⟨_ | (_ | _) | _, r⟩
  · exact lf_none
  · exact lf_none
  · exact lf_none
  · exact h _ _
  · exact lf_none
theorem lf_pv {st : List m_V} {k k' : m_V → List m_V → m_R} (h : ∀ a b, m_lf (k a b) (k' a b)) : m_lf (m_pv st k) (m_pv st k') := by
  rcases st with _ | ⟨v, r⟩
  · exact lf_none
  · exact h _ _
theorem lf_pl {st : List m_V} {k k' : Nat → List m_V → m_R} (h : ∀ a b, m_lf (k a b) (k' a b)) : m_lf (m_pl st k) (m_pl st k') := by
  rcases st with _ | ⟨_ | _ | _ | _, r⟩
  · exact lf_none
  · exact lf_none
  · exact lf_none
  · exact h _ _
  · exact lf_none
theorem lf_po {st : List m_V} {k k' : Option Nat → List m_V → m_R} (h : ∀ a b, m_lf (k a b) (k' a b)) : m_lf (m_po st k) (m_po st k') := by
  rcases st with _ | ⟨_ | _ | _, r⟩
  · exact lf_none
  · exact lf_none
  · exact h _ _
  · exact lf_none
theorem lf_obj {e : m_E} {k k' : Nat → List m_V → m_R} (h : ∀ a b, m_lf (k a b) (k' a b)) : m_lf (m_obj e k) (m_obj e k') := by
  rcases e with _ | _ | ⟨c, fs⟩
  · exact lf_none
  · exact lf_none
  · exact h _ _
theorem lf_arr {e : m_E} {k k' : Bool → Nat → Nat → m_R} (h : ∀ a b c, m_lf (k a b c) (k' a b c)) : m_lf (m_arr e k) (m_arr e k') := by
  rcases e with ⟨z, n, l⟩ | _
  · exact h _ _ _
  · exact lf_none
theorem lf_arq {e : m_E} {k k' : Nat → Nat → List (Option Nat) → m_R} (h : ∀ a b c, m_lf (k a b c) (k' a b c)) : m_lf (m_arq e k) (m_arq e k') := by
  rcases e with _ | ⟨z, n, l⟩ | _
  · exact lf_none
  · exact h _ _ _
  · exact lf_none
theorem lf_hp {h h' : m_H} (hr : r_h h h') {k k' : Nat → Nat → List (List m_E) → m_R} (hh : ∀ a b l l', r_l l l' → m_lf (k a b l) (k' a b l')) : m_lf (m_hp h k) (m_hp h' k') := by
  obtain ⟨a, b, l⟩ := h
  obtain ⟨a', b', l'⟩ := h'
  obtain ⟨e1, e2, e3⟩ := hr
  cases (show a = a' from e1)
  cases (show b = b' from e2)
  exact hh a b l l' e3
theorem lf_short {r : List m_V} {k k' : m_R} (h : m_lf k k') : m_lf (m_short r k) (m_short r k') := lf_if h lf_none
theorem lf_nil {r : List m_V} {k k' : m_R} (h : m_lf k k') : m_lf (m_nil r k) (m_nil r k') := by
  cases r
  · exact h
  · exact lf_none
theorem lf_ans {o o' : m_R} {k k' : Option m_V → m_H → m_R} (h1 : m_lf o o') (h2 : ∀ a b b', r_h b b' → m_lf (k a b) (k' a b')) : m_lf (m_ans o k) (m_ans o' k') := by
  rcases o with _ | ⟨v, g⟩
  · exact lf_none
  · obtain ⟨g', e, hg⟩ := h1 v g rfl
    rw [e]
    exact h2 v g g' hg
theorem lf_isC {l l' : List (List m_E)} (hl : r_l l l') {o : Option Nat} {p : Nat → Bool} (hp : p 999 = false) {k k' : m_R} (h : m_lf k k') : m_lf (m_isC l o p k) (m_isC l' o p k') := lf_opt h (fun _ => lf_hg hl (fun _ => lf_obj fun _ _ => lf_if h lf_none) (by show m_if (p 999) _ _ = none; rw [hp]; rfl))
theorem lf_isA {l l' : List (List m_E)} (hl : r_l l l') {o : Option Nat} {k k' : m_R} (h : m_lf k k') : m_lf (m_isA l o k) (m_isA l' o k') := lf_opt lf_none (fun _ => lf_hg hl (fun _ => lf_arr fun z _ _ => by
  cases z
  · exact h
  · exact lf_none) rfl)
theorem lf_so {x : Option m_V} {h h' : m_H} (hr : r_h h h') : m_lf (some (x, h)) (some (x, h')) := fun y g e => by
  cases e
  exact ⟨h', rfl, hr⟩
def m_ff (X : m_X) : Prop := ∀ (go go' : m_I) (cl cl' : m_C), (∀ t lv st h h', r_h h h' → m_lf (go t lv st h) (go' t lv st h')) → (∀ k lv h h', r_h h h' → m_lf (cl k lv h) (cl' k lv h')) → ∀ lv st h h', r_h h h' → m_lf (X go cl lv st h) (X go' cl' lv st h')
section
variable {K : m_X}
theorem fo_bad : m_ff x_bad := fun _ _ _ _ _ _ _ _ _ _ _ => lf_none
theorem fo_ic {n : Nat} (hK : m_ff K) : m_ff (x_ic n K) := fun _ _ _ _ hg hc _ _ _ _ hh => hK _ _ _ _ hg hc _ _ _ _ hh
theorem fo_lc {n : Nat} (hK : m_ff K) : m_ff (x_lc n K) := fun _ _ _ _ hg hc _ _ _ _ hh => hK _ _ _ _ hg hc _ _ _ _ hh
theorem fo_sc {n : Nat} (hK : m_ff K) : m_ff (x_sc n K) := fun _ _ _ _ hg hc _ _ _ _ hh => hK _ _ _ _ hg hc _ _ _ _ hh
theorem fo_nul (hK : m_ff K) : m_ff (x_nul K) := fun _ _ _ _ hg hc _ _ _ _ hh => hK _ _ _ _ hg hc _ _ _ _ hh
theorem fo_il {i : Nat} (hK : m_ff K) : m_ff (x_il i K) := fun _ _ _ _ hg hc _ _ _ _ hh => lf_get fun _ => lf_sm (fun _ => hK _ _ _ _ hg hc _ _ _ _ hh) (fun _ => lf_none)
theorem fo_al {i : Nat} (hK : m_ff K) : m_ff (x_al i K) := fun _ _ _ _ hg hc _ _ _ _ hh => lf_get fun _ => lf_sm (fun _ => lf_none) (fun _ => lf_sm (fun _ => hK _ _ _ _ hg hc _ _ _ _ hh) (fun _ => lf_sm (fun _ => lf_none) (fun _ => hK _ _ _ _ hg hc _ _ _ _ hh)))
theorem fo_is {i : Nat} (hK : m_ff K) : m_ff (x_is i K) := fun _ _ _ _ hg hc _ _ _ _ hh => lf_pi fun _ _ => lf_set fun _ => hK _ _ _ _ hg hc _ _ _ _ hh
theorem fo_as {i : Nat} (hK : m_ff K) : m_ff (x_as i K) := fun _ _ _ _ hg hc _ _ _ _ hh => lf_pv fun _ _ => lf_sm (fun _ => lf_none) (fun _ => lf_sm (fun _ => lf_set fun _ => hK _ _ _ _ hg hc _ _ _ _ hh) (fun _ => lf_none))
theorem fo_inc {i n : Nat} (hK : m_ff K) : m_ff (x_inc i n K) := fun _ _ _ _ hg hc _ _ _ _ hh => lf_get fun _ => lf_sm (fun _ => lf_f fun _ => lf_set fun _ => hK _ _ _ _ hg hc _ _ _ _ hh) (fun _ => lf_none)
theorem fo_op {f : Nat → Nat → Nat} (hK : m_ff K) : m_ff (x_op f K) := fun _ _ _ _ hg hc _ _ _ _ hh => lf_pi fun _ _ => lf_pi fun _ _ => lf_f fun _ => hK _ _ _ _ hg hc _ _ _ _ hh
theorem fo_opz {f : Nat → Nat → Nat} (hK : m_ff K) : m_ff (x_opz f K) := fun _ _ _ _ hg hc _ _ _ _ hh => lf_pi fun _ _ => lf_if lf_none (lf_pi fun _ _ => lf_f fun _ => hK _ _ _ _ hg hc _ _ _ _ hh)
theorem fo_un {f : Nat → Nat} (hK : m_ff K) : m_ff (x_un f K) := fun _ _ _ _ hg hc _ _ _ _ hh => lf_pi fun _ _ => lf_f fun _ => hK _ _ _ _ hg hc _ _ _ _ hh
theorem fo_i2l (hK : m_ff K) : m_ff (x_i2l K) := fun _ _ _ _ hg hc _ _ _ _ hh => lf_pi fun _ _ => lf_f fun _ => hK _ _ _ _ hg hc _ _ _ _ hh
theorem fo_lcmp (hK : m_ff K) : m_ff (x_lcmp K) := fun _ _ _ _ hg hc _ _ _ _ hh => lf_pl fun _ _ => lf_pl fun _ _ => lf_f fun _ => hK _ _ _ _ hg hc _ _ _ _ hh
theorem fo_dup (hK : m_ff K) : m_ff (x_dup K) := fun _ _ _ _ hg hc _ _ _ _ hh => lf_pv fun _ _ => lf_c1 (hK _ _ _ _ hg hc _ _ _ _ hh)
theorem fo_dup2 (hK : m_ff K) : m_ff (x_dup2 K) := fun _ _ _ _ hg hc _ _ _ _ hh => lf_pv fun _ _ => lf_c1 (lf_pv fun _ _ => lf_c1 (hK _ _ _ _ hg hc _ _ _ _ hh))
theorem fo_pop (hK : m_ff K) : m_ff (x_pop K) := fun _ _ _ _ hg hc _ _ _ _ hh => lf_pv fun _ _ => lf_c1 (hK _ _ _ _ hg hc _ _ _ _ hh)
theorem fo_ci {c : Nat → Nat → Bool} {t : Nat} (hK : m_ff K) : m_ff (x_ci c t K) := fun _ _ _ _ hg hc _ _ _ _ hh => lf_pi fun _ _ => lf_pi fun _ _ => lf_if (hg _ _ _ _ _ hh) (hK _ _ _ _ hg hc _ _ _ _ hh)
theorem fo_cz {c : Nat → Nat → Bool} {t : Nat} (hK : m_ff K) : m_ff (x_cz c t K) := fun _ _ _ _ hg hc _ _ _ _ hh => lf_pi fun _ _ => lf_if (hg _ _ _ _ _ hh) (hK _ _ _ _ hg hc _ _ _ _ hh)
theorem fo_ifn {t : Nat} (hK : m_ff K) : m_ff (x_ifn t K) := fun _ _ _ _ hg hc _ _ _ _ hh => lf_po fun _ _ => lf_opt (hg _ _ _ _ _ hh) (fun _ => hK _ _ _ _ hg hc _ _ _ _ hh)
theorem fo_ifnn {t : Nat} (hK : m_ff K) : m_ff (x_ifnn t K) := fun _ _ _ _ hg hc _ _ _ _ hh => lf_po fun _ _ => lf_opt (hK _ _ _ _ hg hc _ _ _ _ hh) (fun _ => hg _ _ _ _ _ hh)
theorem fo_go {t : Nat} : m_ff (x_go t) := fun _ _ _ _ hg _ _ _ _ _ hh => hg _ _ _ _ _ hh
theorem fo_tsw {lo : Nat} {ts : List Nat} {d : Nat} : m_ff (x_tsw lo ts d) := fun _ _ _ _ hg _ _ _ _ _ hh => lf_pi fun _ _ => lf_if (lf_if (lf_get fun _ => hg _ _ _ _ _ hh) (hg _ _ _ _ _ hh)) (hg _ _ _ _ _ hh)
theorem fo_lsw {ps : List (Nat × Nat)} {d : Nat} : m_ff (x_lsw ps d) := fun _ _ _ _ hg _ _ _ _ _ hh => lf_pi fun _ _ => by
  induction ps with
  | nil => exact hg _ _ _ _ _ hh
  | cons p ps ih => exact lf_if (hg _ _ _ _ _ hh) ih
theorem fo_getf {cs : Nat → Bool} {k : Nat} (hK : m_ff K) : m_ff (x_getf cs k K) := fun _ _ _ _ hg hc _ _ _ _ hh => lf_pr fun _ _ => lf_hg hh.2.2 (fun _ => lf_obj fun _ _ => lf_if (lf_get fun _ => hK _ _ _ _ hg hc _ _ _ _ hh) lf_none) (by show m_if (cs 999) none none = none; cases cs 999 <;> rfl)
theorem fo_putf {cs : Nat → Bool} {ty : m_V → Bool} {k : Nat} (hK : m_ff K) : m_ff (x_putf cs ty k K) := fun _ _ _ _ hg hc _ _ _ _ hh => lf_pv fun _ _ => lf_if (lf_pr fun _ _ => lf_hp hh fun _ _ _ _ hl => lf_hg hl (fun _ => lf_obj fun _ _ => lf_if (lf_if (lf_set fun _ => lf_hs hl fun _ _ ht => hK _ _ _ _ hg hc _ _ _ _ ⟨rfl, rfl, ht⟩) lf_none) lf_none) (by show m_if (cs 999) none none = none; cases cs 999 <;> rfl)) lf_none
theorem fo_new {ci n : Nat} {fs : List m_V} (hK : m_ff K) : m_ff (x_new ci n fs K) := fun _ _ _ _ hg hc _ _ _ _ hh => lf_hp hh fun _ _ _ _ hl => lf_hn hl fun _ _ ht => lf_f fun _ => lf_f fun _ => hK _ _ _ _ hg hc _ _ _ _ ⟨rfl, rfl, ht⟩
theorem fo_newa {z : Bool} (hK : m_ff K) : m_ff (x_newa z K) := fun _ _ _ _ hg hc _ _ _ _ hh => lf_pi fun _ _ => lf_if (lf_hp hh fun _ _ _ _ hl => lf_hn hl fun _ _ ht => lf_f fun _ => lf_f fun _ => hK _ _ _ _ hg hc _ _ _ _ ⟨rfl, rfl, ht⟩) lf_none
theorem fo_anew {ci : Nat} (hK : m_ff K) : m_ff (x_anew ci K) := fun _ _ _ _ hg hc _ _ _ _ hh => lf_pi fun _ _ => lf_if (lf_hp hh fun _ _ _ _ hl => lf_hn hl fun _ _ ht => lf_f fun _ => lf_f fun _ => hK _ _ _ _ hg hc _ _ _ _ ⟨rfl, rfl, ht⟩) lf_none
theorem fo_ald {z : Bool} (hK : m_ff K) : m_ff (x_ald z K) := fun _ _ _ _ hg hc _ _ _ _ hh => lf_pi fun _ _ => lf_pr fun _ _ => lf_hg hh.2.2 (fun _ => lf_arr fun _ _ _ => lf_if lf_none (lf_if (lf_f fun _ => hK _ _ _ _ hg hc _ _ _ _ hh) lf_none)) rfl
theorem fo_ast {z : Bool} (hK : m_ff K) : m_ff (x_ast z K) := fun _ _ _ _ hg hc _ _ _ _ hh => lf_pi fun _ _ => lf_pi fun _ _ => lf_pr fun _ _ => lf_hp hh fun _ _ _ _ hl => lf_hg hl (fun _ => lf_arr fun _ _ _ => lf_if lf_none (lf_if (lf_f fun _ => lf_hs hl fun _ _ ht => hK _ _ _ _ hg hc _ _ _ _ ⟨rfl, rfl, ht⟩) lf_none)) rfl
theorem fo_aald (hK : m_ff K) : m_ff (x_aald K) := fun _ _ _ _ hg hc _ _ _ _ hh => lf_pi fun _ _ => lf_pr fun _ _ => lf_hg hh.2.2 (fun _ => lf_arq fun _ _ _ => lf_if (lf_get fun _ => hK _ _ _ _ hg hc _ _ _ _ hh) lf_none) rfl
theorem fo_aast {ci : Nat} {p : Nat → Bool} (hp : p 999 = false) (hK : m_ff K) : m_ff (x_aast ci p K) := fun _ _ _ _ hg hc _ _ _ _ hh => lf_po fun _ _ => lf_pi fun _ _ => lf_pr fun _ _ => lf_hp hh fun _ _ _ _ hl => lf_isC hl hp (lf_hg hl (fun _ => lf_arq fun _ _ _ => lf_if (lf_if (lf_set fun _ => lf_hs hl fun _ _ ht => hK _ _ _ _ hg hc _ _ _ _ ⟨rfl, rfl, ht⟩) lf_none) lf_none) rfl)
theorem fo_aastA {ci : Nat} (hK : m_ff K) : m_ff (x_aastA ci K) := fun _ _ _ _ hg hc _ _ _ _ hh => lf_po fun _ _ => lf_pi fun _ _ => lf_pr fun _ _ => lf_hp hh fun _ _ _ _ hl => lf_isA hl (lf_hg hl (fun _ => lf_arq fun _ _ _ => lf_if (lf_if (lf_set fun _ => lf_hs hl fun _ _ ht => hK _ _ _ _ hg hc _ _ _ _ ⟨rfl, rfl, ht⟩) lf_none) lf_none) rfl)
theorem fo_len (hK : m_ff K) : m_ff (x_len K) := fun _ _ _ _ hg hc _ _ _ _ hh => lf_pr fun _ _ => lf_hg hh.2.2 (fun _ => lf_sm (fun _ => hK _ _ _ _ hg hc _ _ _ _ hh) (fun _ => lf_sm (fun _ => hK _ _ _ _ hg hc _ _ _ _ hh) (fun _ => lf_none))) rfl
theorem fo_cv {key n : Nat} {pads : List m_V} (hK : m_ff K) : m_ff (x_cv key n pads K) := fun _ _ _ _ hg hc _ _ _ _ hh => lf_take fun _ _ => lf_short (lf_ans (hc _ _ _ _ hh) fun _ _ _ hr => lf_if2 (by rw [hh.1, hr.1]) (lf_if2 (by rw [hh.2.1, hr.2.1]) (lf_opt (hK _ _ _ _ hg hc _ _ _ _ hr) (fun _ => lf_none)) lf_none) lf_none)
theorem fo_ca {key n : Nat} {pads : List m_V} (hK : m_ff K) : m_ff (x_ca key n pads K) := fun _ _ _ _ hg hc _ _ _ _ hh => lf_take fun _ _ => lf_short (lf_ans (hc _ _ _ _ hh) fun _ _ _ hr => lf_if2 (by rw [hh.1, hr.1]) (lf_if2 (by rw [hh.2.1, hr.2.1]) (lf_opt lf_none (fun _ => hK _ _ _ _ hg hc _ _ _ _ hr)) lf_none) lf_none)
theorem fo_rcv {n : Nat} (hK : m_ff K) : m_ff (x_rcv n K) := fun _ _ _ _ hg hc _ _ _ _ hh => lf_get fun _ => lf_pr fun _ _ => hK _ _ _ _ hg hc _ _ _ _ hh
theorem fo_this {n ci : Nat} (hp : Nat.beq 999 ci = false) (hK : m_ff K) : m_ff (x_this n ci K) := fun _ _ _ _ hg hc _ _ _ _ hh => lf_get fun _ => lf_pr fun _ _ => lf_hg hh.2.2 (fun _ => lf_obj fun _ _ => lf_if (hK _ _ _ _ hg hc _ _ _ _ hh) lf_none) (by show m_if (Nat.beq 999 ci) _ _ = none; rw [hp]; rfl)
theorem lf_nr {k k' : Nat → m_R} {g : Nat → Nat → Nat} (h : ∀ A, m_lf (k A) (k' A)) : ∀ (n A : Nat), m_lf ((Nat.rec (motive := fun _ => Nat → m_R) k (fun j ih A => m_f (g A j) ih) n : Nat → m_R) A) ((Nat.rec (motive := fun _ => Nat → m_R) k' (fun j ih A => m_f (g A j) ih) n : Nat → m_R) A) := by
  intro n
  induction n with
  | zero => exact h
  | succ n ih => exact fun A => lf_f ih
theorem fo_copy (hK : m_ff K) : m_ff (x_copy K) := fun _ _ _ _ hg hc _ _ _ _ hh => lf_pi fun _ _ => lf_pi fun _ _ => lf_pr fun _ _ => lf_pi fun _ _ => lf_pr fun _ _ => lf_short (lf_hp hh fun _ _ _ _ hl => lf_hg hl (fun _ => lf_arr fun _ _ A0 => lf_hg hl (fun _ => lf_arr fun _ _ A1 => lf_if lf_none (lf_if (lf_if (by
  refine lf_nr (g := fun A j => _) (fun A => ?_) _ A1
  exact lf_hs hl fun _ _ ht => hK _ _ _ _ hg hc _ _ _ _ ⟨rfl, rfl, ht⟩) lf_none) lf_none)) rfl) rfl)
theorem fo_max (hK : m_ff K) : m_ff (x_max K) := fun _ _ _ _ hg hc _ _ _ _ hh => lf_pi fun _ _ => lf_pi fun _ _ => lf_short (lf_if (hK _ _ _ _ hg hc _ _ _ _ hh) (hK _ _ _ _ hg hc _ _ _ _ hh))
theorem fo_min (hK : m_ff K) : m_ff (x_min K) := fun _ _ _ _ hg hc _ _ _ _ hh => lf_pi fun _ _ => lf_pi fun _ _ => lf_short (lf_if (hK _ _ _ _ hg hc _ _ _ _ hh) (hK _ _ _ _ hg hc _ _ _ _ hh))
theorem fo_oi (hK : m_ff K) : m_ff (x_oi K) := fun _ _ _ _ hg hc _ _ _ _ hh => lf_pr fun _ _ => lf_short (hK _ _ _ _ hg hc _ _ _ _ hh)
theorem fo_sl {len : Nat → Nat} (hK : m_ff K) : m_ff (x_sl len K) := fun _ _ _ _ hg hc _ _ _ _ hh => lf_pv fun _ _ => lf_short (lf_sm (fun _ => lf_none) fun _ => lf_sm (fun _ => lf_none) fun _ => lf_sm (fun _ => lf_none) fun _ => lf_nt lf_none fun _ => lf_if (lf_f fun _ => hK _ _ _ _ hg hc _ _ _ _ hh) lf_none)
theorem fo_sch {byt : Nat → List Nat} (hK : m_ff K) : m_ff (x_sch byt K) := fun _ _ _ _ hg hc _ _ _ _ hh => lf_pi fun _ _ => lf_pv fun _ _ => lf_short (lf_sm (fun _ => lf_none) fun _ => lf_sm (fun _ => lf_none) fun _ => lf_sm (fun _ => lf_none) fun _ => lf_nt lf_none fun _ => lf_get fun _ => hK _ _ _ _ hg hc _ _ _ _ hh)
theorem fo_rv : m_ff x_rv := fun _ _ _ _ _ _ _ _ _ _ hh => lf_nil (lf_so hh)
theorem fo_ri : m_ff x_ri := fun _ _ _ _ _ _ _ _ _ _ hh => lf_pi fun _ _ => lf_nil (lf_so hh)
theorem fo_rz : m_ff x_rz := fun _ _ _ _ _ _ _ _ _ _ hh => lf_pi fun _ _ => lf_nil (lf_if (lf_so hh) lf_none)
theorem fo_rl : m_ff x_rl := fun _ _ _ _ _ _ _ _ _ _ hh => lf_pl fun _ _ => lf_nil (lf_so hh)
theorem fo_ra : m_ff x_ra := fun _ _ _ _ _ _ _ _ _ _ hh => lf_po fun _ _ => lf_nil (lf_so hh)
theorem fo_xi {b : Bool} {X Y : m_X} (h1 : m_ff X) (h2 : m_ff Y) : m_ff (m_xi b X Y) := by
  cases b
  · exact h2
  · exact h1
end
theorem run_lf {cg : Nat → m_X} (hm : ∀ k, m_ff (cg k)) : ∀ (n d key : Nat) (lv st : List m_V) (h h' : m_H), r_h h h' → m_lf (m_run cg n d key lv st h) (m_run cg n d key lv st h') := by
  intro n
  induction n with
  | zero => intro d key lv st h h' _; exact lf_none
  | succ n ih =>
    intro d key lv st h h' hr
    refine hm key _ _ _ _ (fun t lv st h h' hh => ih d t lv st h h' hh) (fun q lv h h' hh => ?_) lv st h h' hr
    cases d with
    | zero => exact lf_none
    | succ d => exact ih d q lv [] h h' hh
