/-! MORE FUEL, more depth: the same answer -/
def m_le (r r' : m_R) : Prop := ∀ x, r = some x → r' = some x
theorem le_none {r : m_R} : m_le none r := fun x h => by cases h
theorem le_rf {r : m_R} : m_le r r := fun _ h => h
theorem le_f {n : Nat} {k k' : Nat → m_R} (h : ∀ n, m_le (k n) (k' n)) : m_le (m_f n k) (m_f n k') := by cases n <;> exact h _
theorem le_get {α : Type} {l : List α} {i : Nat} {k k' : α → m_R} (h : ∀ x, m_le (k x) (k' x)) : m_le (m_get l i k) (m_get l i k') := by
  induction l generalizing i with
  | nil => exact le_none
  | cons x l ih => cases i with
    | zero => exact h x
    | succ i => exact ih
theorem le_set {α : Type} {l : List α} {i : Nat} {v : α} {k k' : List α → m_R} (h : ∀ x, m_le (k x) (k' x)) : m_le (m_set l i v k) (m_set l i v k') := by
  induction l generalizing i k k' with
  | nil => exact h _
  | cons x l ih => cases i with
    | zero => exact h _
    | succ i => exact ih (fun t => h (x :: t))
theorem le_app {α : Type} {l : List α} {v : α} {k k' : List α → m_R} (h : ∀ x, m_le (k x) (k' x)) : m_le (m_app l v k) (m_app l v k') := by
  induction l generalizing k k' with
  | nil => exact h _
  | cons x l ih => exact ih (fun t => h (x :: t))
theorem le_hg {l : List (List m_E)} {q : Nat} {k k' : m_E → m_R} (h : ∀ x, m_le (k x) (k' x)) : m_le (m_hg l q k) (m_hg l q k') := le_get fun _ => le_get h
theorem le_hs {l : List (List m_E)} {q : Nat} {e : m_E} {k k' : List (List m_E) → m_R} (h : ∀ x, m_le (k x) (k' x)) : m_le (m_hs l q e k) (m_hs l q e k') := le_get fun _ => le_set fun _ => le_set h
theorem le_nt {a a' : m_R} {f f' : Nat → m_R} {n : Nat} (h1 : m_le a a') (h2 : ∀ j, m_le (f j) (f' j)) : m_le (Nat.rec (motive := fun _ => m_R) a (fun j _ => f j) n) (Nat.rec (motive := fun _ => m_R) a' (fun j _ => f' j) n) := by
  cases n
  · exact h1
  · exact h2 _
theorem le_hn {l : List (List m_E)} {a : Nat} {e : m_E} {k k' : List (List m_E) → m_R} (h : ∀ x, m_le (k x) (k' x)) : m_le (m_hn l a e k) (m_hn l a e k') := le_nt (le_app h) (fun _ => le_get fun _ => le_app fun _ => le_set h)
theorem le_sm {α β : Type} {v : α ⊕ β} {f f' : α → m_R} {g g' : β → m_R} (h1 : ∀ a, m_le (f a) (f' a)) (h2 : ∀ b, m_le (g b) (g' b)) : m_le (Sum.rec (motive := fun _ => m_R) f g v) (Sum.rec (motive := fun _ => m_R) f' g' v) := by
  cases v
  · exact h1 _
  · exact h2 _
theorem le_opt {α : Type} {v : Option α} {a a' : m_R} {f f' : α → m_R} (h1 : m_le a a') (h2 : ∀ b, m_le (f b) (f' b)) : m_le (Option.rec (motive := fun _ => m_R) a f v) (Option.rec (motive := fun _ => m_R) a' f' v) := by
  cases v
  · exact h1
  · exact h2 _
theorem le_c1 {v : m_V} {k k' : m_R} (h : m_le k k') : m_le (m_c1 v k) (m_c1 v k') := le_sm (fun _ => h) (fun _ => le_sm (fun _ => h) (fun _ => le_sm (fun _ => le_none) (fun _ => h)))
theorem le_take {n : Nat} {st acc : List m_V} {k k' : List m_V → List m_V → m_R} (h : ∀ a b, m_le (k a b) (k' a b)) : m_le (m_take n st acc k) (m_take n st acc k') := by
  induction n generalizing st acc with
  | zero => exact h _ _
  | succ n ih => cases st with
    | nil => exact le_none
    | cons v r => exact le_c1 ih
theorem le_if {b : Bool} {x x' y y' : m_R} (h1 : m_le x x') (h2 : m_le y y') : m_le (m_if b x y) (m_if b x' y') := by
  cases b
  · exact h2
  · exact h1
theorem le_pi {st : List m_V} {k k' : Nat → List m_V → m_R} (h : ∀ a b, m_le (k a b) (k' a b)) : m_le (m_pi st k) (m_pi st k') := by
  rcases st with _ | ⟨_ | _, r⟩
  · exact le_none
  · exact h _ _
  · exact le_none
theorem le_pr {st : List m_V} {k k' : Nat → List m_V → m_R} (h : ∀ a b, m_le (k a b) (k' a b)) : m_le (m_pr st k) (m_pr st k') := by
  rcases st with _ | ⟨_ | (_ | _) | _, r⟩
  · exact le_none
  · exact le_none
  · exact le_none
  · exact h _ _
  · exact le_none
theorem le_pv {st : List m_V} {k k' : m_V → List m_V → m_R} (h : ∀ a b, m_le (k a b) (k' a b)) : m_le (m_pv st k) (m_pv st k') := by
  rcases st with _ | ⟨v, r⟩
  · exact le_none
  · exact h _ _
theorem le_pl {st : List m_V} {k k' : Nat → List m_V → m_R} (h : ∀ a b, m_le (k a b) (k' a b)) : m_le (m_pl st k) (m_pl st k') := by
  rcases st with _ | ⟨_ | _ | _ | _, r⟩
  · exact le_none
  · exact le_none
  · exact le_none
  · exact h _ _
  · exact le_none
theorem le_po {st : List m_V} {k k' : Option Nat → List m_V → m_R} (h : ∀ a b, m_le (k a b) (k' a b)) : m_le (m_po st k) (m_po st k') := by
  rcases st with _ | ⟨_ | _ | _, r⟩
  · exact le_none
  · exact le_none
  · exact h _ _
  · exact le_none
theorem le_obj {e : m_E} {k k' : Nat → List m_V → m_R} (h : ∀ a b, m_le (k a b) (k' a b)) : m_le (m_obj e k) (m_obj e k') := by
  rcases e with _ | _ | ⟨c, fs⟩
  · exact le_none
  · exact le_none
  · exact h _ _
theorem le_arr {e : m_E} {k k' : Bool → Nat → Nat → m_R} (h : ∀ a b c, m_le (k a b c) (k' a b c)) : m_le (m_arr e k) (m_arr e k') := by
  rcases e with ⟨z, n, l⟩ | _
  · exact h _ _ _
  · exact le_none
theorem le_arq {e : m_E} {k k' : Nat → Nat → List (Option Nat) → m_R} (h : ∀ a b c, m_le (k a b c) (k' a b c)) : m_le (m_arq e k) (m_arq e k') := by
  rcases e with _ | ⟨z, n, l⟩ | _
  · exact le_none
  · exact h _ _ _
  · exact le_none
theorem le_hp {h : m_H} {k k' : Nat → Nat → List (List m_E) → m_R} (hh : ∀ a b c, m_le (k a b c) (k' a b c)) : m_le (m_hp h k) (m_hp h k') := hh _ _ _
theorem le_short {r : List m_V} {k k' : m_R} (h : m_le k k') : m_le (m_short r k) (m_short r k') := le_if h le_none
theorem le_nil {r : List m_V} {k k' : m_R} (h : m_le k k') : m_le (m_nil r k) (m_nil r k') := by
  cases r
  · exact h
  · exact le_none
theorem le_ans {o o' : m_R} {k k' : Option m_V → m_H → m_R} (h1 : m_le o o') (h2 : ∀ a b, m_le (k a b) (k' a b)) : m_le (m_ans o k) (m_ans o' k') := by
  cases o with
  | none => exact le_none
  | some x => rw [h1 x rfl]; exact h2 _ _
theorem le_isC {l : List (List m_E)} {o : Option Nat} {p : Nat → Bool} {k k' : m_R} (h : m_le k k') : m_le (m_isC l o p k) (m_isC l o p k') := le_opt h (fun _ => le_hg fun _ => le_obj fun _ _ => le_if h le_none)
theorem le_isA {l : List (List m_E)} {o : Option Nat} {k k' : m_R} (h : m_le k k') : m_le (m_isA l o k) (m_isA l o k') := le_opt le_none (fun _ => le_hg fun _ => le_arr fun z _ _ => by
  cases z
  · exact h
  · exact le_none)
def m_mo (X : m_X) : Prop := ∀ (go go' : m_I) (cl cl' : m_C), (∀ t lv st h, m_le (go t lv st h) (go' t lv st h)) → (∀ k lv h, m_le (cl k lv h) (cl' k lv h)) → ∀ lv st h, m_le (X go cl lv st h) (X go' cl' lv st h)
section
variable {K : m_X}
theorem mo_bad : m_mo x_bad := fun _ _ _ _ _ _ _ _ _ => le_none
theorem mo_ic {n : Nat} (hK : m_mo K) : m_mo (x_ic n K) := fun _ _ _ _ hg hc _ _ _ => hK _ _ _ _ hg hc _ _ _
theorem mo_lc {n : Nat} (hK : m_mo K) : m_mo (x_lc n K) := fun _ _ _ _ hg hc _ _ _ => hK _ _ _ _ hg hc _ _ _
theorem mo_sc {n : Nat} (hK : m_mo K) : m_mo (x_sc n K) := fun _ _ _ _ hg hc _ _ _ => hK _ _ _ _ hg hc _ _ _
theorem mo_nul (hK : m_mo K) : m_mo (x_nul K) := fun _ _ _ _ hg hc _ _ _ => hK _ _ _ _ hg hc _ _ _
theorem mo_il {i : Nat} (hK : m_mo K) : m_mo (x_il i K) := fun _ _ _ _ hg hc _ _ _ => le_get fun _ => le_sm (fun _ => hK _ _ _ _ hg hc _ _ _) (fun _ => le_none)
theorem mo_al {i : Nat} (hK : m_mo K) : m_mo (x_al i K) := fun _ _ _ _ hg hc _ _ _ => le_get fun _ => le_sm (fun _ => le_none) (fun _ => le_sm (fun _ => hK _ _ _ _ hg hc _ _ _) (fun _ => le_sm (fun _ => le_none) (fun _ => hK _ _ _ _ hg hc _ _ _)))
theorem mo_is {i : Nat} (hK : m_mo K) : m_mo (x_is i K) := fun _ _ _ _ hg hc _ _ _ => le_pi fun _ _ => le_set fun _ => hK _ _ _ _ hg hc _ _ _
theorem mo_as {i : Nat} (hK : m_mo K) : m_mo (x_as i K) := fun _ _ _ _ hg hc _ _ _ => le_pv fun _ _ => le_sm (fun _ => le_none) (fun _ => le_sm (fun _ => le_set fun _ => hK _ _ _ _ hg hc _ _ _) (fun _ => le_none))
theorem mo_inc {i n : Nat} (hK : m_mo K) : m_mo (x_inc i n K) := fun _ _ _ _ hg hc _ _ _ => le_get fun _ => le_sm (fun _ => le_f fun _ => le_set fun _ => hK _ _ _ _ hg hc _ _ _) (fun _ => le_none)
theorem mo_op {f : Nat → Nat → Nat} (hK : m_mo K) : m_mo (x_op f K) := fun _ _ _ _ hg hc _ _ _ => le_pi fun _ _ => le_pi fun _ _ => le_f fun _ => hK _ _ _ _ hg hc _ _ _
theorem mo_opz {f : Nat → Nat → Nat} (hK : m_mo K) : m_mo (x_opz f K) := fun _ _ _ _ hg hc _ _ _ => le_pi fun _ _ => le_if le_none (le_pi fun _ _ => le_f fun _ => hK _ _ _ _ hg hc _ _ _)
theorem mo_un {f : Nat → Nat} (hK : m_mo K) : m_mo (x_un f K) := fun _ _ _ _ hg hc _ _ _ => le_pi fun _ _ => le_f fun _ => hK _ _ _ _ hg hc _ _ _
theorem mo_i2l (hK : m_mo K) : m_mo (x_i2l K) := fun _ _ _ _ hg hc _ _ _ => le_pi fun _ _ => le_f fun _ => hK _ _ _ _ hg hc _ _ _
theorem mo_lcmp (hK : m_mo K) : m_mo (x_lcmp K) := fun _ _ _ _ hg hc _ _ _ => le_pl fun _ _ => le_pl fun _ _ => le_f fun _ => hK _ _ _ _ hg hc _ _ _
theorem mo_dup (hK : m_mo K) : m_mo (x_dup K) := fun _ _ _ _ hg hc _ _ _ => le_pv fun _ _ => le_c1 (hK _ _ _ _ hg hc _ _ _)
theorem mo_dup2 (hK : m_mo K) : m_mo (x_dup2 K) := fun _ _ _ _ hg hc _ _ _ => le_pv fun _ _ => le_c1 (le_pv fun _ _ => le_c1 (hK _ _ _ _ hg hc _ _ _))
theorem mo_pop (hK : m_mo K) : m_mo (x_pop K) := fun _ _ _ _ hg hc _ _ _ => le_pv fun _ _ => le_c1 (hK _ _ _ _ hg hc _ _ _)
theorem mo_ci {c : Nat → Nat → Bool} {t : Nat} (hK : m_mo K) : m_mo (x_ci c t K) := fun _ _ _ _ hg hc _ _ _ => le_pi fun _ _ => le_pi fun _ _ => le_if (hg _ _ _ _) (hK _ _ _ _ hg hc _ _ _)
theorem mo_cz {c : Nat → Nat → Bool} {t : Nat} (hK : m_mo K) : m_mo (x_cz c t K) := fun _ _ _ _ hg hc _ _ _ => le_pi fun _ _ => le_if (hg _ _ _ _) (hK _ _ _ _ hg hc _ _ _)
theorem mo_ifn {t : Nat} (hK : m_mo K) : m_mo (x_ifn t K) := fun _ _ _ _ hg hc _ _ _ => le_po fun _ _ => le_opt (hg _ _ _ _) (fun _ => hK _ _ _ _ hg hc _ _ _)
theorem mo_ifnn {t : Nat} (hK : m_mo K) : m_mo (x_ifnn t K) := fun _ _ _ _ hg hc _ _ _ => le_po fun _ _ => le_opt (hK _ _ _ _ hg hc _ _ _) (fun _ => hg _ _ _ _)
theorem mo_go {t : Nat} : m_mo (x_go t) := fun _ _ _ _ hg _ _ _ _ => hg _ _ _ _
theorem mo_tsw {lo : Nat} {ts : List Nat} {d : Nat} : m_mo (x_tsw lo ts d) := fun _ _ _ _ hg _ _ _ _ => le_pi fun _ _ => le_if (le_if (le_get fun _ => hg _ _ _ _) (hg _ _ _ _)) (hg _ _ _ _)
theorem mo_lsw {ps : List (Nat × Nat)} {d : Nat} : m_mo (x_lsw ps d) := fun _ _ _ _ hg _ _ _ _ => le_pi fun _ _ => by
  induction ps with
  | nil => exact hg _ _ _ _
  | cons p ps ih => exact le_if (hg _ _ _ _) ih
theorem mo_getf {cs : Nat → Bool} {k : Nat} (hK : m_mo K) : m_mo (x_getf cs k K) := fun _ _ _ _ hg hc _ _ _ => le_pr fun _ _ => le_hg fun _ => le_obj fun _ _ => le_if (le_get fun _ => hK _ _ _ _ hg hc _ _ _) le_none
theorem mo_putf {cs : Nat → Bool} {ty : m_V → Bool} {k : Nat} (hK : m_mo K) : m_mo (x_putf cs ty k K) := fun _ _ _ _ hg hc _ _ _ => le_pv fun _ _ => le_if (le_pr fun _ _ => le_hp fun _ _ _ => le_hg fun _ => le_obj fun _ _ => le_if (le_if (le_set fun _ => le_hs fun _ => hK _ _ _ _ hg hc _ _ _) le_none) le_none) le_none
theorem mo_new {ci n : Nat} {fs : List m_V} (hK : m_mo K) : m_mo (x_new ci n fs K) := fun _ _ _ _ hg hc _ _ _ => le_hp fun _ _ _ => le_hn fun _ => le_f fun _ => le_f fun _ => hK _ _ _ _ hg hc _ _ _
theorem mo_newa {z : Bool} (hK : m_mo K) : m_mo (x_newa z K) := fun _ _ _ _ hg hc _ _ _ => le_pi fun _ _ => le_if (le_hp fun _ _ _ => le_hn fun _ => le_f fun _ => le_f fun _ => hK _ _ _ _ hg hc _ _ _) le_none
theorem mo_anew {ci : Nat} (hK : m_mo K) : m_mo (x_anew ci K) := fun _ _ _ _ hg hc _ _ _ => le_pi fun _ _ => le_if (le_hp fun _ _ _ => le_hn fun _ => le_f fun _ => le_f fun _ => hK _ _ _ _ hg hc _ _ _) le_none
theorem mo_ald {z : Bool} (hK : m_mo K) : m_mo (x_ald z K) := fun _ _ _ _ hg hc _ _ _ => le_pi fun _ _ => le_pr fun _ _ => le_hg fun _ => le_arr fun _ _ _ => le_if le_none (le_if (le_f fun _ => hK _ _ _ _ hg hc _ _ _) le_none)
theorem mo_ast {z : Bool} (hK : m_mo K) : m_mo (x_ast z K) := fun _ _ _ _ hg hc _ _ _ => le_pi fun _ _ => le_pi fun _ _ => le_pr fun _ _ => le_hp fun _ _ _ => le_hg fun _ => le_arr fun _ _ _ => le_if le_none (le_if (le_f fun _ => le_hs fun _ => hK _ _ _ _ hg hc _ _ _) le_none)
theorem mo_aald (hK : m_mo K) : m_mo (x_aald K) := fun _ _ _ _ hg hc _ _ _ => le_pi fun _ _ => le_pr fun _ _ => le_hg fun _ => le_arq fun _ _ _ => le_if (le_get fun _ => hK _ _ _ _ hg hc _ _ _) le_none
theorem mo_aast {ci : Nat} {p : Nat → Bool} (hK : m_mo K) : m_mo (x_aast ci p K) := fun _ _ _ _ hg hc _ _ _ => le_po fun _ _ => le_pi fun _ _ => le_pr fun _ _ => le_hp fun _ _ _ => le_isC (le_hg fun _ => le_arq fun _ _ _ => le_if (le_if (le_set fun _ => le_hs fun _ => hK _ _ _ _ hg hc _ _ _) le_none) le_none)
theorem mo_aastA {ci : Nat} (hK : m_mo K) : m_mo (x_aastA ci K) := fun _ _ _ _ hg hc _ _ _ => le_po fun _ _ => le_pi fun _ _ => le_pr fun _ _ => le_hp fun _ _ _ => le_isA (le_hg fun _ => le_arq fun _ _ _ => le_if (le_if (le_set fun _ => le_hs fun _ => hK _ _ _ _ hg hc _ _ _) le_none) le_none)
theorem mo_len (hK : m_mo K) : m_mo (x_len K) := fun _ _ _ _ hg hc _ _ _ => le_pr fun _ _ => le_hg fun _ => le_sm (fun _ => hK _ _ _ _ hg hc _ _ _) (fun _ => le_sm (fun _ => hK _ _ _ _ hg hc _ _ _) (fun _ => le_none))
theorem mo_cv {key n : Nat} {pads : List m_V} (hK : m_mo K) : m_mo (x_cv key n pads K) := fun _ _ _ _ hg hc _ _ _ => le_take fun _ _ => le_short (le_ans (hc _ _ _) fun _ _ => le_if (le_if (le_opt (hK _ _ _ _ hg hc _ _ _) (fun _ => le_none)) le_none) le_none)
theorem mo_ca {key n : Nat} {pads : List m_V} (hK : m_mo K) : m_mo (x_ca key n pads K) := fun _ _ _ _ hg hc _ _ _ => le_take fun _ _ => le_short (le_ans (hc _ _ _) fun _ _ => le_if (le_if (le_opt le_none (fun _ => hK _ _ _ _ hg hc _ _ _)) le_none) le_none)
theorem mo_rcv {n : Nat} (hK : m_mo K) : m_mo (x_rcv n K) := fun _ _ _ _ hg hc _ _ _ => le_get fun _ => le_pr fun _ _ => hK _ _ _ _ hg hc _ _ _
theorem mo_this {n ci : Nat} (hK : m_mo K) : m_mo (x_this n ci K) := fun _ _ _ _ hg hc _ _ _ => le_get fun _ => le_pr fun _ _ => le_hg fun _ => le_obj fun _ _ => le_if (hK _ _ _ _ hg hc _ _ _) le_none
theorem le_nr {k k' : Nat → m_R} {g : Nat → Nat → Nat} (h : ∀ A, m_le (k A) (k' A)) : ∀ (n A : Nat), m_le ((Nat.rec (motive := fun _ => Nat → m_R) k (fun j ih A => m_f (g A j) ih) n : Nat → m_R) A) ((Nat.rec (motive := fun _ => Nat → m_R) k' (fun j ih A => m_f (g A j) ih) n : Nat → m_R) A) := by
  intro n
  induction n with
  | zero => exact h
  | succ n ih => exact fun A => le_f ih
theorem mo_copy (hK : m_mo K) : m_mo (x_copy K) := fun _ _ _ _ hg hc _ _ _ => le_pi fun _ _ => le_pi fun _ _ => le_pr fun _ _ => le_pi fun _ _ => le_pr fun _ _ => le_short (le_hp fun _ _ _ => le_hg fun _ => le_arr fun _ _ A0 => le_hg fun _ => le_arr fun _ _ A1 => le_if le_none (le_if (le_if (le_nr (fun _ => le_hs fun _ => hK _ _ _ _ hg hc _ _ _) _ A1) le_none) le_none))
theorem mo_max (hK : m_mo K) : m_mo (x_max K) := fun _ _ _ _ hg hc _ _ _ => le_pi fun _ _ => le_pi fun _ _ => le_short (le_if (hK _ _ _ _ hg hc _ _ _) (hK _ _ _ _ hg hc _ _ _))
theorem mo_min (hK : m_mo K) : m_mo (x_min K) := fun _ _ _ _ hg hc _ _ _ => le_pi fun _ _ => le_pi fun _ _ => le_short (le_if (hK _ _ _ _ hg hc _ _ _) (hK _ _ _ _ hg hc _ _ _))
theorem mo_oi (hK : m_mo K) : m_mo (x_oi K) := fun _ _ _ _ hg hc _ _ _ => le_pr fun _ _ => le_short (hK _ _ _ _ hg hc _ _ _)
theorem mo_sl {len : Nat → Nat} (hK : m_mo K) : m_mo (x_sl len K) := fun _ _ _ _ hg hc _ _ _ => le_pv fun _ _ => le_short (le_sm (fun _ => le_none) fun _ => le_sm (fun _ => le_none) fun _ => le_sm (fun _ => le_none) fun _ => le_nt le_none fun _ => le_if (le_f fun _ => hK _ _ _ _ hg hc _ _ _) le_none)
theorem mo_sch {byt : Nat → List Nat} (hK : m_mo K) : m_mo (x_sch byt K) := fun _ _ _ _ hg hc _ _ _ => le_pi fun _ _ => le_pv fun _ _ => le_short (le_sm (fun _ => le_none) fun _ => le_sm (fun _ => le_none) fun _ => le_sm (fun _ => le_none) fun _ => le_nt le_none fun _ => le_get fun _ => hK _ _ _ _ hg hc _ _ _)
theorem mo_rv : m_mo x_rv := fun _ _ _ _ _ _ _ _ _ => le_rf
theorem mo_ri : m_mo x_ri := fun _ _ _ _ _ _ _ _ _ => le_rf
theorem mo_rz : m_mo x_rz := fun _ _ _ _ _ _ _ _ _ => le_rf
theorem mo_rl : m_mo x_rl := fun _ _ _ _ _ _ _ _ _ => le_rf
theorem mo_ra : m_mo x_ra := fun _ _ _ _ _ _ _ _ _ => le_rf
theorem mo_xi {b : Bool} {X Y : m_X} (h1 : m_mo X) (h2 : m_mo Y) : m_mo (m_xi b X Y) := by
  cases b
  · exact h2
  · exact h1
end
theorem run_le {cg : Nat → m_X} (hm : ∀ k, m_mo (cg k)) : ∀ (n n' d d' key : Nat) (lv st : List m_V) (h : m_H), n ≤ n' → d ≤ d' → m_le (m_run cg n d key lv st h) (m_run cg n' d' key lv st h) := by
  intro n
  induction n with
  | zero => intro n' d d' key lv st h _ _; exact le_none
  | succ n ih =>
    intro n' d d' key lv st h hn hd
    obtain ⟨k, rfl⟩ : ∃ k, n' = k + 1 := ⟨n' - 1, by omega⟩
    refine hm key _ _ _ _ (fun t lv st h => ih k d d' t lv st h (by omega) hd) (fun q lv h => ?_) lv st h
    cases d with
    | zero => exact le_none
    | succ d =>
      obtain ⟨e, rfl⟩ : ∃ e, d' = e + 1 := ⟨d' - 1, by omega⟩
      exact ih k d e q lv [] h (by omega) (by omega)
