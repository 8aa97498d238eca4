/-! ONE STEP of the plain machine, for runs told by hand -/
theorem if_t {x y : m_R} : m_if true x y = x := rfl
theorem mf_eq {n : Nat} {k : Nat → m_R} : m_f n k = k n := by cases n <;> rfl
noncomputable def m_cl (cg : Nat → m_X) (n d : Nat) : m_C := fun key' lv' h' => Nat.rec (motive := fun _ => m_R) none (fun d' _ => m_run cg n d' key' lv' [] h') d
section
variable {K X : m_X} {go : m_I} {cl : m_C} {cg : Nat → m_X} {lv lv' st r' as pads : List m_V} {h h' : m_H} {r : m_R} {n d key a b c i q t : Nat} {v w : m_V} {o : Option Nat}
theorem t_run (hk : cg key = X) (hX : X (m_run cg n d) (m_cl cg n d) lv st h = r) : m_run cg (n + 1) d key lv st h = r := by subst hk; exact hX
theorem t_cl (hX : m_run cg n d key lv [] h = r) : m_cl cg n (d + 1) key lv h = r := hX
theorem t_ic (hK : K go cl lv (.inl n :: st) h = r) : x_ic n K go cl lv st h = r := hK
theorem t_ldc (hK : K go cl lv (.inr (.inr (.inl n)) :: st) h = r) : x_lc n K go cl lv st h = r := hK
theorem t_nul (hK : K go cl lv (.inr (.inl none) :: st) h = r) : x_nul K go cl lv st h = r := hK
theorem t_il (e : ∀ f : m_V → m_R, m_get lv i f = f (.inl n)) (hK : K go cl lv (.inl n :: st) h = r) : x_il i K go cl lv st h = r := (e _).trans hK
theorem t_al (e : ∀ f : m_V → m_R, m_get lv i f = f (.inr (.inl o))) (hK : K go cl lv (.inr (.inl o) :: st) h = r) : x_al i K go cl lv st h = r := (e _).trans hK
theorem t_is (e : ∀ f : List m_V → m_R, m_set lv i (.inl n) f = f lv') (hK : K go cl lv' r' h = r) : x_is i K go cl lv (.inl n :: r') h = r := (e _).trans hK
theorem t_as (e : ∀ f : List m_V → m_R, m_set lv i (.inr (.inl o)) f = f lv') (hK : K go cl lv' r' h = r) : x_as i K go cl lv (.inr (.inl o) :: r') h = r := (e _).trans hK
theorem t_inc (e : ∀ f : m_V → m_R, m_get lv i f = f (.inl a)) (e1 : m_add a n = c) (e2 : ∀ f : List m_V → m_R, m_set lv i (.inl c) f = f lv') (hK : K go cl lv' st h = r) : x_inc i n K go cl lv st h = r := (e _).trans (mf_eq.trans (by rw [e1]; exact (e2 _).trans hK))
theorem t_op {f : Nat → Nat → Nat} (e : f a b = c) (hK : K go cl lv (.inl c :: r') h = r) : x_op f K go cl lv (.inl b :: .inl a :: r') h = r := by
  subst e
  show m_f (f a b) (fun n => K go cl lv (.inl n :: r') h) = r
  rw [mf_eq]; exact hK
theorem t_opz {f : Nat → Nat → Nat} (e0 : m_beq b 0 = false) (e : f a b = c) (hK : K go cl lv (.inl c :: r') h = r) : x_opz f K go cl lv (.inl b :: .inl a :: r') h = r := by
  subst e
  show m_if (m_beq b 0) none (m_f (f a b) (fun n => K go cl lv (.inl n :: r') h)) = r
  rw [e0]
  show m_f (f a b) (fun n => K go cl lv (.inl n :: r') h) = r
  rw [mf_eq]; exact hK
theorem t_un {f : Nat → Nat} (e : f a = c) (hK : K go cl lv (.inl c :: r') h = r) : x_un f K go cl lv (.inl a :: r') h = r := by
  subst e
  show m_f (f a) (fun n => K go cl lv (.inl n :: r') h) = r
  rw [mf_eq]; exact hK
theorem t_dup (e : ∀ k : m_R, m_c1 v k = k) (hK : K go cl lv (v :: v :: r') h = r) : x_dup K go cl lv (v :: r') h = r := (e _).trans hK
theorem t_pop (e : ∀ k : m_R, m_c1 v k = k) (hK : K go cl lv r' h = r) : x_pop K go cl lv (v :: r') h = r := (e _).trans hK
theorem t_cit {p : Nat → Nat → Bool} (e : p a b = true) (hg : go t lv r' h = r) : x_ci p t K go cl lv (.inl b :: .inl a :: r') h = r := by
  show m_if (p a b) _ _ = r
  rw [e]; exact hg
theorem t_cif {p : Nat → Nat → Bool} (e : p a b = false) (hK : K go cl lv r' h = r) : x_ci p t K go cl lv (.inl b :: .inl a :: r') h = r := by
  show m_if (p a b) _ _ = r
  rw [e]; exact hK
theorem t_czt {p : Nat → Nat → Bool} (e : p a 0 = true) (hg : go t lv r' h = r) : x_cz p t K go cl lv (.inl a :: r') h = r := by
  show m_if (p a 0) _ _ = r
  rw [e]; exact hg
theorem t_czf {p : Nat → Nat → Bool} (e : p a 0 = false) (hK : K go cl lv r' h = r) : x_cz p t K go cl lv (.inl a :: r') h = r := by
  show m_if (p a 0) _ _ = r
  rw [e]; exact hK
theorem t_ifn0 (hg : go t lv r' h = r) : x_ifn t K go cl lv (.inr (.inl none) :: r') h = r := hg
theorem t_ifn1 (hK : K go cl lv r' h = r) : x_ifn t K go cl lv (.inr (.inl (some q)) :: r') h = r := hK
theorem t_ifnn0 (hK : K go cl lv r' h = r) : x_ifnn t K go cl lv (.inr (.inl none) :: r') h = r := hK
theorem t_ifnn1 (hg : go t lv r' h = r) : x_ifnn t K go cl lv (.inr (.inl (some q)) :: r') h = r := hg
theorem t_go (hg : go t lv st h = r) : x_go t go cl lv st h = r := hg
theorem t_tsw {lo : Nat} {ts : List Nat} (e : ∀ f : Nat → m_R, m_if (Nat.ble lo (Nat.mod a 4294967296)) (m_if (Nat.ble (Nat.succ (Nat.mod a 4294967296)) (Nat.add lo ts.length)) (m_get ts (Nat.sub (Nat.mod a 4294967296) lo) f) (f d)) (f d) = f t) (hg : go t lv r' h = r) : x_tsw lo ts d go cl lv (.inl a :: r') h = r := (e (fun t => go t lv r' h)).trans hg
theorem tsw_d {ts : List Nat} (h1 : ts.length ≤ a) (h2 : a < 4294967296) : ∀ f : Nat → m_R, m_if (Nat.ble 0 (Nat.mod a 4294967296)) (m_if (Nat.ble (Nat.succ (Nat.mod a 4294967296)) (Nat.add 0 ts.length)) (m_get ts (Nat.sub (Nat.mod a 4294967296) 0) f) (f d)) (f d) = f d := by
  intro f
  have e1 : Nat.mod a 4294967296 = a := Nat.mod_eq_of_lt h2
  have e2 : Nat.ble (Nat.succ a) (Nat.add 0 ts.length) = false := by
    rw [Bool.eq_false_iff]
    intro hh
    have h3 : a + 1 ≤ 0 + ts.length := Nat.le_of_ble_eq_true hh
    omega
  rw [e1, e2]
  cases Nat.ble 0 a <;> rfl
theorem t_getf {cs : Nat → Bool} {k : Nat} (e : ∀ f : m_V → m_R, m_hg h.2.2 q (fun e => m_obj e (fun c fs => m_if (cs c) (m_get fs k f) none)) = f v) (hK : K go cl lv (v :: r') h = r) : x_getf cs k K go cl lv (.inr (.inl (some q)) :: r') h = r := (e _).trans hK
theorem t_putf {cs : Nat → Bool} {ty : m_V → Bool} {k : Nat} (h' : m_H) (e0 : ty v = true) (e : ∀ f : m_H → m_R, m_hp h (fun a b l => m_hg l q (fun e => m_obj e (fun c fs => m_if (cs c) (m_if (Nat.ble (Nat.succ k) fs.length) (m_set fs k v (fun fs' => m_hs l q (.inr (.inr (c, fs'))) (fun l' => f (a, b, l')))) none) none))) = f h') (hK : K go cl lv r' h' = r) : x_putf cs ty k K go cl lv (v :: .inr (.inl (some q)) :: r') h = r := by
  show m_if (ty v) _ none = r
  rw [e0]
  exact (e (fun h => K go cl lv r' h)).trans hK
theorem t_ald {z : Bool} (n : Nat) (e : ∀ f : Nat → m_R, m_hg h.2.2 q (fun e => m_arr e (fun z' n A => m_if (Bool.xor z z') none (m_if (Nat.ble (Nat.succ i) n) (m_f (m_ag A i) f) none))) = f n) (hK : K go cl lv (.inl n :: r') h = r) : x_ald z K go cl lv (.inl i :: .inr (.inl (some q)) :: r') h = r := (e (fun v => K go cl lv (.inl v :: r') h)).trans hK
theorem t_aald (e : ∀ f : Option Nat → m_R, m_hg h.2.2 q (fun e => m_arq e (fun _ n l => m_if (Nat.ble (Nat.succ i) n) (m_get l i f) none)) = f o) (hK : K go cl lv (.inr (.inl o) :: r') h = r) : x_aald K go cl lv (.inl i :: .inr (.inl (some q)) :: r') h = r := (e (fun v => K go cl lv (.inr (.inl v) :: r') h)).trans hK
theorem t_ast {z : Bool} (h' : m_H) (e : ∀ f : m_H → m_R, m_hp h (fun a b hl => m_hg hl q (fun e => m_arr e (fun z' n A => m_if (Bool.xor z z') none (m_if (Nat.ble (Nat.succ i) n) (m_f (m_au A i (Bool.rec (motive := fun _ => Nat) c (Nat.mod c 2) z)) (fun A' => m_hs hl q (.inl (z, n, A')) (fun hl' => f (a, b, hl')))) none)))) = f h') (hK : K go cl lv r' h' = r) : x_ast z K go cl lv (.inl c :: .inl i :: .inr (.inl (some q)) :: r') h = r := (e (fun h => K go cl lv r' h)).trans hK
theorem t_aast {ci : Nat} {p : Nat → Bool} (h' : m_H) (e : ∀ f : m_H → m_R, m_hp h (fun a b hl => m_isC hl o p (m_hg hl q (fun e => m_arq e (fun c n l => m_if (Nat.beq c ci) (m_if (Nat.ble (Nat.succ i) n) (m_set l i o (fun l' => m_hs hl q (.inr (.inl (c, n, l'))) (fun hl' => f (a, b, hl')))) none) none)))) = f h') (hK : K go cl lv r' h' = r) : x_aast ci p K go cl lv (.inr (.inl o) :: .inl i :: .inr (.inl (some q)) :: r') h = r := (e (fun h => K go cl lv r' h)).trans hK
theorem t_len (n : Nat) (e : ∀ f : Nat → m_R, m_hg h.2.2 q (fun e => Sum.rec (motive := fun _ => m_R) (fun p => f p.2.1) (fun w => Sum.rec (motive := fun _ => m_R) (fun p => f p.2.1) (fun _ => none) w) e) = f n) (hK : K go cl lv (.inl n :: r') h = r) : x_len K go cl lv (.inr (.inl (some q)) :: r') h = r := (e (fun n => K go cl lv (.inl n :: r') h)).trans hK
theorem t_ca (e : ∀ f : List m_V → List m_V → m_R, m_take n st pads f = f as r') (es : Nat.ble (m_ln r') 4 = true) (hc : cl key as h = some (some v, h')) (e1 : Nat.ble h.1 h'.1 = true) (e2 : Nat.ble h.2.1 h'.2.1 = true) (hK : K go cl lv (v :: r') h' = r) : x_ca key n pads K go cl lv st h = r := by
  refine (e _).trans ?_
  show m_if (Nat.ble (m_ln r') 4) _ _ = r
  rw [es, if_t, hc]
  show m_if (Nat.ble h.1 h'.1) (m_if (Nat.ble h.2.1 h'.2.1) _ _) _ = r
  rw [e1, e2]
  exact hK
theorem t_cv (e : ∀ f : List m_V → List m_V → m_R, m_take n st pads f = f as r') (es : Nat.ble (m_ln r') 4 = true) (hc : cl key as h = some (none, h')) (e1 : Nat.ble h.1 h'.1 = true) (e2 : Nat.ble h.2.1 h'.2.1 = true) (hK : K go cl lv r' h' = r) : x_cv key n pads K go cl lv st h = r := by
  refine (e _).trans ?_
  show m_if (Nat.ble (m_ln r') 4) _ _ = r
  rw [es, if_t, hc]
  show m_if (Nat.ble h.1 h'.1) (m_if (Nat.ble h.2.1 h'.2.1) _ _) _ = r
  rw [e1, e2]
  exact hK
theorem t_rcv (e : ∀ x : m_R, m_get st n (fun v => m_pr [v] (fun _ _ => x)) = x) (hK : K go cl lv st h = r) : x_rcv n K go cl lv st h = r := (e _).trans hK
theorem t_this {ci : Nat} (e : ∀ x : m_R, m_get st n (fun v => m_pr [v] (fun q _ => m_hg h.2.2 q (fun e => m_obj e (fun c _ => m_if (Nat.beq c ci) x none)))) = x) (hK : K go cl lv st h = r) : x_this n ci K go cl lv st h = r := (e _).trans hK
theorem t_max (e : ∀ f : Nat → m_R, m_if (m_blt a b) (f b) (f a) = f c) (es : Nat.ble (m_ln r') 4 = true) (hK : K go cl lv (.inl c :: r') h = r) : x_max K go cl lv (.inl b :: .inl a :: r') h = r := by
  show m_if (Nat.ble (m_ln r') 4) _ _ = r
  rw [es, if_t]
  show m_if (m_blt a b) (K go cl lv (.inl b :: r') h) (K go cl lv (.inl a :: r') h) = r
  exact (e (fun c => K go cl lv (.inl c :: r') h)).trans hK
theorem t_min (e : ∀ f : Nat → m_R, m_if (m_blt b a) (f b) (f a) = f c) (es : Nat.ble (m_ln r') 4 = true) (hK : K go cl lv (.inl c :: r') h = r) : x_min K go cl lv (.inl b :: .inl a :: r') h = r := by
  show m_if (Nat.ble (m_ln r') 4) _ _ = r
  rw [es, if_t]
  show m_if (m_blt b a) (K go cl lv (.inl b :: r') h) (K go cl lv (.inl a :: r') h) = r
  exact (e (fun c => K go cl lv (.inl c :: r') h)).trans hK
end
/-! branches -/
theorem blt_t {a b : Nat} (h : (a + 2147483648) % 4294967296 < (b + 2147483648) % 4294967296) : m_blt a b = true := Nat.ble_eq_true_of_le h
theorem bool_f {b : Bool} (h : ¬ b = true) : b = false := by cases b; rfl; exact absurd rfl h
theorem ble_no {a b : Nat} (h : b < a) : Nat.ble a b = false := bool_f fun e => absurd (Nat.le_of_ble_eq_true e) (by omega)
theorem blt_f {a b : Nat} (h : (b + 2147483648) % 4294967296 ≤ (a + 2147483648) % 4294967296) : m_blt a b = false := ble_no (by show (b + 2147483648) % 4294967296 < (a + 2147483648) % 4294967296 + 1; omega)
theorem bgt_t {a b : Nat} (h : (b + 2147483648) % 4294967296 < (a + 2147483648) % 4294967296) : m_bgt a b = true := Nat.ble_eq_true_of_le h
theorem bgt_f {a b : Nat} (h : (a + 2147483648) % 4294967296 ≤ (b + 2147483648) % 4294967296) : m_bgt a b = false := ble_no (by show (a + 2147483648) % 4294967296 < (b + 2147483648) % 4294967296 + 1; omega)
theorem bge_t {a b : Nat} (h : (b + 2147483648) % 4294967296 ≤ (a + 2147483648) % 4294967296) : m_bge a b = true := Nat.ble_eq_true_of_le h
theorem bge_f {a b : Nat} (h : (a + 2147483648) % 4294967296 < (b + 2147483648) % 4294967296) : m_bge a b = false := ble_no h
theorem ble_t {a b : Nat} (h : (a + 2147483648) % 4294967296 ≤ (b + 2147483648) % 4294967296) : m_ble a b = true := Nat.ble_eq_true_of_le h
theorem ble_f {a b : Nat} (h : (b + 2147483648) % 4294967296 < (a + 2147483648) % 4294967296) : m_ble a b = false := ble_no h
theorem beq_t {a b : Nat} (h : a % 4294967296 = b % 4294967296) : m_beq a b = true := by
  show Nat.beq (a % 4294967296) (b % 4294967296) = true
  rw [h]; exact Nat.beq_refl _
theorem beq_f {a b : Nat} (h : a % 4294967296 ≠ b % 4294967296) : m_beq a b = false := bool_f fun e => h (Nat.eq_of_beq_eq_true e)
theorem bne_t {a b : Nat} (h : a % 4294967296 ≠ b % 4294967296) : m_bne a b = true := by show (!(m_beq a b)) = true; rw [beq_f h]; rfl
theorem bne_f {a b : Nat} (h : a % 4294967296 = b % 4294967296) : m_bne a b = false := by show (!(m_beq a b)) = false; rw [beq_t h]; rfl
theorem shr_n {a b : Nat} (ha : a < 2147483648) (hb : b < 31) : m_shr a b = a / 2 ^ b := by
  have e1 : Nat.ble (Nat.succ b) 31 = true := Nat.ble_eq_true_of_le hb
  have e2 : Nat.ble (Nat.succ a) 2147483648 = true := Nat.ble_eq_true_of_le ha
  unfold m_shr
  rw [e1, e2]
  exact Nat.shiftRight_eq_div_pow a b
