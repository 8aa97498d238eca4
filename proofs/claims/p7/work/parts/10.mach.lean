/-! A PLAIN MACHINE: a method's code as functions over plain lists; later parts show that the real machine follows it. A value: an int (its number), a reference or null (its place in the heap), a long, or a special one (0 the script, i + 1 the String constant i). -/
abbrev m_V : Type := Nat ⊕ (Option Nat ⊕ (Nat ⊕ Nat))
/-- a cell: an int or boolean array (its numbers in one number, 32 bits each); an array of references (of which class); an object -/
abbrev m_E : Type := (Bool × Nat × Nat) ⊕ ((Nat × Nat × List (Option Nat)) ⊕ (Nat × List m_V))
/-- how many cells and slots came so far; the cells, eight and eight -/
abbrev m_H : Type := Nat × Nat × List (List m_E)
abbrev m_R : Type := Option (Option m_V × m_H)
/-- go on at a place of the same method -/
abbrev m_I : Type := Nat → List m_V → List m_V → m_H → m_R
/-- call a method -/
abbrev m_C : Type := Nat → List m_V → m_H → m_R
abbrev m_X : Type := m_I → m_C → List m_V → List m_V → m_H → m_R
/-- a number is worked out before it goes on -/
noncomputable def m_f (n : Nat) (k : Nat → m_R) : m_R := Nat.rec (motive := fun _ => m_R) (k 0) (fun j _ => k (Nat.succ j)) n
noncomputable def m_get {α : Type} (l : List α) (i : Nat) (k : α → m_R) : m_R :=
  List.rec (motive := fun _ => Nat → m_R) (fun _ => none) (fun x _ ih j => Nat.rec (motive := fun _ => m_R) (k x) (fun j' _ => ih j') j) l i
noncomputable def m_set {α : Type} (l : List α) (i : Nat) (v : α) (k : List α → m_R) : m_R :=
  List.rec (motive := fun _ => Nat → (List α → m_R) → m_R) (fun _ k => k []) (fun x xs ih j k => Nat.rec (motive := fun _ => m_R) (k (v :: xs)) (fun j' _ => ih j' (fun t => k (x :: t))) j) l i k
noncomputable def m_app {α : Type} (l : List α) (v : α) (k : List α → m_R) : m_R :=
  List.rec (motive := fun _ => (List α → m_R) → m_R) (fun k' => k' [v]) (fun x _ ih k' => ih (fun t => k' (x :: t))) l k
/-- the cell at a place; another one there; one more, at place a -/
noncomputable def m_hg (l : List (List m_E)) (q : Nat) (k : m_E → m_R) : m_R := m_get l (Nat.div q 8) (fun c => m_get c (Nat.mod q 8) k)
noncomputable def m_hs (l : List (List m_E)) (q : Nat) (e : m_E) (k : List (List m_E) → m_R) : m_R := m_get l (Nat.div q 8) (fun c => m_set c (Nat.mod q 8) e (fun c' => m_set l (Nat.div q 8) c' k))
noncomputable def m_hn (l : List (List m_E)) (a : Nat) (e : m_E) (k : List (List m_E) → m_R) : m_R := Nat.rec (motive := fun _ => m_R) (m_app l [e] k) (fun _ _ => m_get l (Nat.div a 8) (fun c => m_app c e (fun c' => m_set l (Nat.div a 8) c' k))) (Nat.mod a 8)
noncomputable def m_rep {α : Type} (n : Nat) (v : α) : List α := Nat.rec (motive := fun _ => List α) [] (fun _ ih => v :: ih) n
noncomputable def m_c1 (v : m_V) (k : m_R) : m_R := Sum.rec (motive := fun _ => m_R) (fun _ => k) (fun w => Sum.rec (motive := fun _ => m_R) (fun _ => k) (fun z => Sum.rec (motive := fun _ => m_R) (fun _ => none) (fun _ => k) z) w) v
/-- the arguments off the stack, the last one first -/
noncomputable def m_take (n : Nat) (st acc : List m_V) (k : List m_V → List m_V → m_R) : m_R :=
  Nat.rec (motive := fun _ => List m_V → List m_V → m_R) (fun st acc => k acc st) (fun _ ih st acc => List.rec (motive := fun _ => m_R) none (fun v r _ => m_c1 v (ih r (v :: acc))) st) n st acc
noncomputable def m_if (b : Bool) (x y : m_R) : m_R := Bool.rec (motive := fun _ => m_R) y x b
/-- an int on top -/
noncomputable def m_pi (st : List m_V) (k : Nat → List m_V → m_R) : m_R :=
  List.rec (motive := fun _ => m_R) none (fun v r _ => Sum.rec (motive := fun _ => m_R) (fun n => k n r) (fun _ => none) v) st
/-- a reference on top, not null -/
noncomputable def m_pr (st : List m_V) (k : Nat → List m_V → m_R) : m_R :=
  List.rec (motive := fun _ => m_R) none (fun v r _ => Sum.rec (motive := fun _ => m_R) (fun _ => none) (fun w => Sum.rec (motive := fun _ => m_R) (fun o => Option.rec (motive := fun _ => m_R) none (fun q => k q r) o) (fun _ => none) w) v) st
noncomputable def m_pv (st : List m_V) (k : m_V → List m_V → m_R) : m_R :=
  List.rec (motive := fun _ => m_R) none (fun v r _ => k v r) st
noncomputable def m_obj (e : m_E) (k : Nat → List m_V → m_R) : m_R :=
  Sum.rec (motive := fun _ => m_R) (fun _ => none) (fun w => Sum.rec (motive := fun _ => m_R) (fun _ => none) (fun p => Prod.rec (motive := fun _ => m_R) k p) w) e
noncomputable def m_arr (e : m_E) (k : Bool → Nat → Nat → m_R) : m_R :=
  Sum.rec (motive := fun _ => m_R) (fun p => Prod.rec (motive := fun _ => m_R) (fun b q => Prod.rec (motive := fun _ => m_R) (fun n l => k b n l) q) p) (fun _ => none) e
noncomputable def m_arq (e : m_E) (k : Nat → Nat → List (Option Nat) → m_R) : m_R :=
  Sum.rec (motive := fun _ => m_R) (fun _ => none) (fun w => Sum.rec (motive := fun _ => m_R) (fun p => Prod.rec (motive := fun _ => m_R) (fun b q => Prod.rec (motive := fun _ => m_R) (fun n l => k b n l) q) p) (fun _ => none) w) e
noncomputable def m_hp (h : m_H) (k : Nat → Nat → List (List m_E) → m_R) : m_R := Prod.rec (motive := fun _ => m_R) (fun c q => Prod.rec (motive := fun _ => m_R) (fun s l => k c s l) q) h
/-! numbers -/
def m_add (a b : Nat) : Nat := Nat.mod (Nat.add a b) 4294967296
def m_sub (a b : Nat) : Nat := Nat.mod (Nat.sub (Nat.add a 4294967296) (Nat.mod b 4294967296)) 4294967296
def m_mul (a b : Nat) : Nat := Nat.mod (Nat.mul a b) 4294967296
def m_sg (a : Nat) : Nat := Nat.mod (Nat.add a 2147483648) 4294967296
def m_beq (a b : Nat) : Bool := Nat.beq (Nat.mod a 4294967296) (Nat.mod b 4294967296)
def m_bne (a b : Nat) : Bool := Bool.not (m_beq a b)
def m_blt (a b : Nat) : Bool := Nat.ble (Nat.succ (m_sg a)) (m_sg b)
def m_bge (a b : Nat) : Bool := Nat.ble (m_sg b) (m_sg a)
def m_bgt (a b : Nat) : Bool := Nat.ble (Nat.succ (m_sg b)) (m_sg a)
def m_ble (a b : Nat) : Bool := Nat.ble (m_sg a) (m_sg b)
def m_n (x : Int32) : Nat := x.toBitVec.toNat
def m_and (a b : Nat) : Nat := Nat.mod (Nat.land a b) 4294967296
def m_or (a b : Nat) : Nat := Nat.mod (Nat.lor a b) 4294967296
def m_xor (a b : Nat) : Nat := Nat.mod (Nat.xor a b) 4294967296
noncomputable def m_sel (b : Bool) (x y : Nat) : Nat := Bool.rec (motive := fun _ => Nat) y x b
/-- both below 2 ^ 31, the second less than 31 (a shift) or not 0 (a divisor): at once; else by the machine's own ints -/
noncomputable def m_shl (a b : Nat) : Nat := m_sel (Nat.ble (Nat.succ b) 31) (Nat.mod (Nat.shiftLeft a b) 4294967296) (m_n (nI a <<< (nI b &&& 31)))
noncomputable def m_shr (a b : Nat) : Nat := m_sel (Nat.ble (Nat.succ b) 31) (m_sel (Nat.ble (Nat.succ a) 2147483648) (Nat.shiftRight a b) (m_n (nI a >>> (nI b &&& 31)))) (m_n (nI a >>> (nI b &&& 31)))
noncomputable def m_ushr (a b : Nat) : Nat := m_sel (Nat.ble (Nat.succ b) 31) (Nat.shiftRight (Nat.mod a 4294967296) b) (m_n ((nI a).toUInt32 >>> ((nI b).toUInt32 &&& Int32.toUInt32 31)).toInt32)
noncomputable def m_div (a b : Nat) : Nat := m_sel (Nat.ble (Nat.succ a) 2147483648) (m_sel (Nat.ble (Nat.succ b) 2147483648) (m_sel (Nat.ble 1 b) (Nat.div a b) (m_n (nI a / nI b))) (m_n (nI a / nI b))) (m_n (nI a / nI b))
noncomputable def m_rem (a b : Nat) : Nat := m_sel (Nat.ble (Nat.succ a) 2147483648) (m_sel (Nat.ble (Nat.succ b) 2147483648) (m_sel (Nat.ble 1 b) (Nat.mod a b) (m_n (nI a - nI a / nI b * nI b))) (m_n (nI a - nI a / nI b * nI b))) (m_n (nI a - nI a / nI b * nI b))
def m_neg (a : Nat) : Nat := m_sub 0 a
def m_i2b (a : Nat) : Nat := m_n (nI a).toInt8.toInt32
def m_i2s (a : Nat) : Nat := m_n (nI a).toInt16.toInt32
def m_i2l (a : Nat) : Nat := (nI a).toInt64.toBitVec.toNat
def m_lcmp (a b : Nat) : Nat := m_n (lg_cmp (lN a) (lN b))
/-- a number in an array: read, written -/
def m_ag (A i : Nat) : Nat := Nat.mod (Nat.shiftRight A (Nat.mul 32 i)) 4294967296
def m_au (A i v : Nat) : Nat := Nat.xor (Nat.xor A (Nat.shiftLeft (m_ag A i) (Nat.mul 32 i))) (Nat.shiftLeft (Nat.mod v 4294967296) (Nat.mul 32 i))
/-- what is left on the stack behind a call's arguments is short -/
noncomputable def m_ln (l : List m_V) : Nat := List.rec (motive := fun _ => Nat) 0 (fun _ _ ih => Nat.succ ih) l
noncomputable def m_short (r : List m_V) (k : m_R) : m_R := m_if (Nat.ble (m_ln r) 4) k none
noncomputable def m_nil (r : List m_V) (k : m_R) : m_R := List.rec (motive := fun _ => m_R) k (fun _ _ _ => none) r
/-! instructions -/
noncomputable def x_bad : m_X := fun _ _ _ _ _ => none
noncomputable def x_ic (n : Nat) (K : m_X) : m_X := fun go cl lv st h => K go cl lv (.inl n :: st) h
noncomputable def x_lc (n : Nat) (K : m_X) : m_X := fun go cl lv st h => K go cl lv (.inr (.inr (.inl n)) :: st) h
noncomputable def x_sc (n : Nat) (K : m_X) : m_X := fun go cl lv st h => K go cl lv (.inr (.inr (.inr n)) :: st) h
noncomputable def x_nul (K : m_X) : m_X := fun go cl lv st h => K go cl lv (.inr (.inl none) :: st) h
noncomputable def x_il (i : Nat) (K : m_X) : m_X := fun go cl lv st h => m_get lv i (fun v => Sum.rec (motive := fun _ => m_R) (fun n => K go cl lv (.inl n :: st) h) (fun _ => none) v)
noncomputable def x_al (i : Nat) (K : m_X) : m_X := fun go cl lv st h => m_get lv i (fun v => Sum.rec (motive := fun _ => m_R) (fun _ => none) (fun w => Sum.rec (motive := fun _ => m_R) (fun o => K go cl lv (.inr (.inl o) :: st) h) (fun z => Sum.rec (motive := fun _ => m_R) (fun _ => none) (fun i => K go cl lv (.inr (.inr (.inr i)) :: st) h) z) w) v)
noncomputable def x_is (i : Nat) (K : m_X) : m_X := fun go cl lv st h => m_pi st (fun n r => m_set lv i (.inl n) (fun lv' => K go cl lv' r h))
noncomputable def x_as (i : Nat) (K : m_X) : m_X := fun go cl lv st h => m_pv st (fun v r => Sum.rec (motive := fun _ => m_R) (fun _ => none) (fun w => Sum.rec (motive := fun _ => m_R) (fun o => m_set lv i (.inr (.inl o)) (fun lv' => K go cl lv' r h)) (fun _ => none) w) v)
noncomputable def x_inc (i n : Nat) (K : m_X) : m_X := fun go cl lv st h => m_get lv i (fun v => Sum.rec (motive := fun _ => m_R) (fun a => m_f (m_add a n) (fun b => m_set lv i (.inl b) (fun lv' => K go cl lv' st h))) (fun _ => none) v)
noncomputable def x_op (f : Nat → Nat → Nat) (K : m_X) : m_X := fun go cl lv st h => m_pi st (fun b r => m_pi r (fun a r => m_f (f a b) (fun n => K go cl lv (.inl n :: r) h)))
noncomputable def x_opz (f : Nat → Nat → Nat) (K : m_X) : m_X := fun go cl lv st h => m_pi st (fun b r => m_if (m_beq b 0) none (m_pi r (fun a r => m_f (f a b) (fun n => K go cl lv (.inl n :: r) h))))
noncomputable def x_un (f : Nat → Nat) (K : m_X) : m_X := fun go cl lv st h => m_pi st (fun a r => m_f (f a) (fun n => K go cl lv (.inl n :: r) h))
noncomputable def x_i2l (K : m_X) : m_X := fun go cl lv st h => m_pi st (fun a r => m_f (m_i2l a) (fun n => K go cl lv (.inr (.inr (.inl n)) :: r) h))
noncomputable def m_pl (st : List m_V) (k : Nat → List m_V → m_R) : m_R :=
  List.rec (motive := fun _ => m_R) none (fun v r _ => Sum.rec (motive := fun _ => m_R) (fun _ => none) (fun w => Sum.rec (motive := fun _ => m_R) (fun _ => none) (fun z => Sum.rec (motive := fun _ => m_R) (fun n => k n r) (fun _ => none) z) w) v) st
noncomputable def x_lcmp (K : m_X) : m_X := fun go cl lv st h => m_pl st (fun b r => m_pl r (fun a r => m_f (m_lcmp a b) (fun n => K go cl lv (.inl n :: r) h)))
noncomputable def x_dup (K : m_X) : m_X := fun go cl lv st h => m_pv st (fun v r => m_c1 v (K go cl lv (v :: v :: r) h))
noncomputable def x_dup2 (K : m_X) : m_X := fun go cl lv st h => m_pv st (fun v r => m_c1 v (m_pv r (fun w r => m_c1 w (K go cl lv (v :: w :: v :: w :: r) h))))
noncomputable def x_pop (K : m_X) : m_X := fun go cl lv st h => m_pv st (fun v r => m_c1 v (K go cl lv r h))
noncomputable def x_ci (c : Nat → Nat → Bool) (t : Nat) (K : m_X) : m_X := fun go cl lv st h => m_pi st (fun b r => m_pi r (fun a r => m_if (c a b) (go t lv r h) (K go cl lv r h)))
noncomputable def x_cz (c : Nat → Nat → Bool) (t : Nat) (K : m_X) : m_X := fun go cl lv st h => m_pi st (fun a r => m_if (c a 0) (go t lv r h) (K go cl lv r h))
noncomputable def m_po (st : List m_V) (k : Option Nat → List m_V → m_R) : m_R :=
  List.rec (motive := fun _ => m_R) none (fun v r _ => Sum.rec (motive := fun _ => m_R) (fun _ => none) (fun w => Sum.rec (motive := fun _ => m_R) (fun o => k o r) (fun _ => none) w) v) st
noncomputable def x_ifn (t : Nat) (K : m_X) : m_X := fun go cl lv st h => m_po st (fun o r => Option.rec (motive := fun _ => m_R) (go t lv r h) (fun _ => K go cl lv r h) o)
noncomputable def x_ifnn (t : Nat) (K : m_X) : m_X := fun go cl lv st h => m_po st (fun o r => Option.rec (motive := fun _ => m_R) (K go cl lv r h) (fun _ => go t lv r h) o)
noncomputable def x_go (t : Nat) : m_X := fun go _ lv st h => go t lv st h
noncomputable def x_tsw (lo : Nat) (ts : List Nat) (d : Nat) : m_X := fun go _ lv st h => m_pi st (fun a r => m_if (Nat.ble lo (Nat.mod a 4294967296)) (m_if (Nat.ble (Nat.succ (Nat.mod a 4294967296)) (Nat.add lo ts.length)) (m_get ts (Nat.sub (Nat.mod a 4294967296) lo) (fun t => go t lv r h)) (go d lv r h)) (go d lv r h))
noncomputable def x_lsw (ps : List (Nat × Nat)) (d : Nat) : m_X := fun go _ lv st h => m_pi st (fun a r => List.rec (motive := fun _ => m_R) (go d lv r h) (fun p _ ih => m_if (m_beq a p.1) (go p.2 lv r h) ih) ps)
noncomputable def x_getf (cs : Nat → Bool) (k : Nat) (K : m_X) : m_X := fun go cl lv st h => m_pr st (fun q r => m_hg h.2.2 q (fun e => m_obj e (fun c fs => m_if (cs c) (m_get fs k (fun v => K go cl lv (v :: r) h)) none)))
noncomputable def x_putf (cs : Nat → Bool) (ty : m_V → Bool) (k : Nat) (K : m_X) : m_X := fun go cl lv st h => m_pv st (fun v r => m_if (ty v) (m_pr r (fun q r => m_hp h (fun a b l => m_hg l q (fun e => m_obj e (fun c fs => m_if (cs c) (m_if (Nat.ble (Nat.succ k) fs.length) (m_set fs k v (fun fs' => m_hs l q (.inr (.inr (c, fs'))) (fun l' => K go cl lv r (a, b, l')))) none) none))))) none)
noncomputable def x_new (ci n : Nat) (fs : List m_V) (K : m_X) : m_X := fun go cl lv st h => m_hp h (fun a b l => m_hn l a (.inr (.inr (ci, fs))) (fun l' => m_f (Nat.succ a) (fun a' => m_f (Nat.add b n) (fun b' => K go cl lv (.inr (.inl (some a)) :: st) (a', b', l')))))
noncomputable def x_newa (z : Bool) (K : m_X) : m_X := fun go cl lv st h => m_pi st (fun n r => m_if (Nat.ble n 1000000) (m_hp h (fun a b l => m_hn l a (.inl (z, n, 0)) (fun l' => m_f (Nat.succ a) (fun a' => m_f (Nat.add b n) (fun b' => K go cl lv (.inr (.inl (some a)) :: r) (a', b', l')))))) none)
noncomputable def x_anew (ci : Nat) (K : m_X) : m_X := fun go cl lv st h => m_pi st (fun n r => m_if (Nat.ble n 1000000) (m_hp h (fun a b l => m_hn l a (.inr (.inl (ci, n, m_rep n none))) (fun l' => m_f (Nat.succ a) (fun a' => m_f (Nat.add b n) (fun b' => K go cl lv (.inr (.inl (some a)) :: r) (a', b', l')))))) none)
noncomputable def x_ald (z : Bool) (K : m_X) : m_X := fun go cl lv st h => m_pi st (fun i r => m_pr r (fun q r => m_hg h.2.2 q (fun e => m_arr e (fun z' n A => m_if (Bool.xor z z') none (m_if (Nat.ble (Nat.succ i) n) (m_f (m_ag A i) (fun v => K go cl lv (.inl v :: r) h)) none)))))
noncomputable def x_ast (z : Bool) (K : m_X) : m_X := fun go cl lv st h => m_pi st (fun v r => m_pi r (fun i r => m_pr r (fun q r => m_hp h (fun a b hl => m_hg hl q (fun e => m_arr e (fun z' n A => m_if (Bool.xor z z') none (m_if (Nat.ble (Nat.succ i) n) (m_f (m_au A i (Bool.rec (motive := fun _ => Nat) v (Nat.mod v 2) z)) (fun A' => m_hs hl q (.inl (z, n, A')) (fun hl' => K go cl lv r (a, b, hl')))) none)))))))
noncomputable def x_aald (K : m_X) : m_X := fun go cl lv st h => m_pi st (fun i r => m_pr r (fun q r => m_hg h.2.2 q (fun e => m_arq e (fun _ n l => m_if (Nat.ble (Nat.succ i) n) (m_get l i (fun v => K go cl lv (.inr (.inl v) :: r) h)) none))))
noncomputable def m_isC (l : List (List m_E)) (o : Option Nat) (p : Nat → Bool) (k : m_R) : m_R := Option.rec (motive := fun _ => m_R) k (fun q => m_hg l q (fun e => m_obj e (fun c _ => m_if (p c) k none))) o
noncomputable def x_aast (ci : Nat) (p : Nat → Bool) (K : m_X) : m_X := fun go cl lv st h => m_po st (fun v r => m_pi r (fun i r => m_pr r (fun q r => m_hp h (fun a b hl => m_isC hl v p (m_hg hl q (fun e => m_arq e (fun c n l => m_if (Nat.beq c ci) (m_if (Nat.ble (Nat.succ i) n) (m_set l i v (fun l' => m_hs hl q (.inr (.inl (c, n, l'))) (fun hl' => K go cl lv r (a, b, hl')))) none) none)))))))
noncomputable def m_isA (l : List (List m_E)) (o : Option Nat) (k : m_R) : m_R := Option.rec (motive := fun _ => m_R) none (fun q => m_hg l q (fun e => m_arr e (fun z _ _ => Bool.rec (motive := fun _ => m_R) k none z))) o
noncomputable def x_aastA (ci : Nat) (K : m_X) : m_X := fun go cl lv st h => m_po st (fun v r => m_pi r (fun i r => m_pr r (fun q r => m_hp h (fun a b hl => m_isA hl v (m_hg hl q (fun e => m_arq e (fun c n l => m_if (Nat.beq c ci) (m_if (Nat.ble (Nat.succ i) n) (m_set l i v (fun l' => m_hs hl q (.inr (.inl (c, n, l'))) (fun hl' => K go cl lv r (a, b, hl')))) none) none)))))))
noncomputable def x_len (K : m_X) : m_X := fun go cl lv st h => m_pr st (fun q r => m_hg h.2.2 q (fun e => Sum.rec (motive := fun _ => m_R) (fun p => K go cl lv (.inl p.2.1 :: r) h) (fun w => Sum.rec (motive := fun _ => m_R) (fun p => K go cl lv (.inl p.2.1 :: r) h) (fun _ => none) w) e))
noncomputable def m_ans (o : m_R) (k : Option m_V → m_H → m_R) : m_R := Option.rec (motive := fun _ => m_R) none (fun p => Prod.rec (motive := fun _ => m_R) k p) o
/-- a call that gives nothing, one that gives a value -/
noncomputable def x_cv (key n : Nat) (pads : List m_V) (K : m_X) : m_X := fun go cl lv st h => m_take n st pads (fun as r => m_short r (m_ans (cl key as h) (fun v h' => m_if (Nat.ble h.1 h'.1) (m_if (Nat.ble h.2.1 h'.2.1) (Option.rec (motive := fun _ => m_R) (K go cl lv r h') (fun _ => none) v) none) none)))
noncomputable def x_ca (key n : Nat) (pads : List m_V) (K : m_X) : m_X := fun go cl lv st h => m_take n st pads (fun as r => m_short r (m_ans (cl key as h) (fun v h' => m_if (Nat.ble h.1 h'.1) (m_if (Nat.ble h.2.1 h'.2.1) (Option.rec (motive := fun _ => m_R) none (fun v => K go cl lv (v :: r) h') v) none) none)))
noncomputable def x_rcv (n : Nat) (K : m_X) : m_X := fun go cl lv st h => m_get st n (fun v => m_pr [v] (fun _ _ => K go cl lv st h))
/-- the receiver is of the class that is asked for -/
noncomputable def x_this (n : Nat) (ci : Nat) (K : m_X) : m_X := fun go cl lv st h => m_get st n (fun v => m_pr [v] (fun q _ => m_hg h.2.2 q (fun e => m_obj e (fun c _ => m_if (Nat.beq c ci) (K go cl lv st h) none))))
noncomputable def x_copy (K : m_X) : m_X := fun go cl lv st h => m_pi st (fun n r => m_pi r (fun dp r => m_pr r (fun q1 r => m_pi r (fun sp r => m_pr r (fun q0 r => m_short r (m_hp h (fun a b hl => m_hg hl q0 (fun e0 => m_arr e0 (fun z0 n0 A0 => m_hg hl q1 (fun e1 => m_arr e1 (fun z1 n1 A1 => m_if (Bool.or z0 z1) none (m_if (Nat.ble (Nat.add sp n) n0) (m_if (Nat.ble (Nat.add dp n) n1) (Nat.rec (motive := fun _ => Nat → m_R) (fun A => m_hs hl q1 (.inl (z1, n1, A)) (fun hl' => K go cl lv r (a, b, hl'))) (fun j ih A => m_f (m_au A (Nat.add dp j) (m_ag A0 (Nat.add sp j))) ih) n A1) none) none))))))))))))
noncomputable def x_max (K : m_X) : m_X := fun go cl lv st h => m_pi st (fun b r => m_pi r (fun a r => m_short r (m_if (m_blt a b) (K go cl lv (.inl b :: r) h) (K go cl lv (.inl a :: r) h))))
noncomputable def x_min (K : m_X) : m_X := fun go cl lv st h => m_pi st (fun b r => m_pi r (fun a r => m_short r (m_if (m_blt b a) (K go cl lv (.inl b :: r) h) (K go cl lv (.inl a :: r) h))))
/-- Object's constructor -/
noncomputable def x_oi (K : m_X) : m_X := fun go cl lv st h => m_pr st (fun _ r => m_short r (K go cl lv r h))
/-- a String constant's length and char -/
noncomputable def x_sl (len : Nat → Nat) (K : m_X) : m_X := fun go cl lv st h => m_pv st (fun v r => m_short r <| Sum.rec (motive := fun _ => m_R) (fun _ => none) (fun w => Sum.rec (motive := fun _ => m_R) (fun _ => none) (fun z => Sum.rec (motive := fun _ => m_R) (fun _ => none) (fun i => Nat.rec (motive := fun _ => m_R) none (fun i _ => m_if (Nat.ble (Nat.succ i) 13) (m_f (len i) (fun n => K go cl lv (.inl n :: r) h)) none) i) z) w) v)
noncomputable def x_sch (byt : Nat → List Nat) (K : m_X) : m_X := fun go cl lv st h => m_pi st (fun j r => m_pv r (fun v r => m_short r <| Sum.rec (motive := fun _ => m_R) (fun _ => none) (fun w => Sum.rec (motive := fun _ => m_R) (fun _ => none) (fun z => Sum.rec (motive := fun _ => m_R) (fun _ => none) (fun i => Nat.rec (motive := fun _ => m_R) none (fun i _ => m_get (byt i) j (fun n => K go cl lv (.inl n :: r) h)) i) z) w) v))
noncomputable def x_rv : m_X := fun _ _ _ st h => m_nil st (some (none, h))
noncomputable def x_ri : m_X := fun _ _ _ st h => m_pi st (fun n r => m_nil r (some (some (.inl n), h)))
noncomputable def x_rz : m_X := fun _ _ _ st h => m_pi st (fun n r => m_nil r (m_if (Nat.ble n 1) (some (some (.inl n), h)) none))
noncomputable def x_rl : m_X := fun _ _ _ st h => m_pl st (fun n r => m_nil r (some (some (.inr (.inr (.inl n))), h)))
noncomputable def x_ra : m_X := fun _ _ _ st h => m_po st (fun o r => m_nil r (some (some (.inr (.inl o)), h)))
/-- the law's own script -/
noncomputable def m_ps (st : List m_V) (k : List m_V → m_R) : m_R :=
  List.rec (motive := fun _ => m_R) none (fun v r _ => Sum.rec (motive := fun _ => m_R) (fun _ => none) (fun w => Sum.rec (motive := fun _ => m_R) (fun _ => none) (fun z => Sum.rec (motive := fun _ => m_R) (fun _ => none) (fun i => Nat.rec (motive := fun _ => m_R) (k r) (fun _ _ => none) i) z) w) v) st
noncomputable def x_sld (xs : List Nat) (K : m_X) : m_X := fun go cl lv st h => m_pi st (fun i r => m_ps r (fun r => m_get xs i (fun v => K go cl lv (.inl v :: r) h)))
noncomputable def x_sln (xs : List Nat) (K : m_X) : m_X := fun go cl lv st h => m_ps st (fun r => K go cl lv (.inl xs.length :: r) h)
/-- the machine: n how far, d how deep; a place is 4096 times the method and its row -/
noncomputable def m_run (cg : Nat → m_X) (n : Nat) : Nat → m_I :=
  Nat.rec (motive := fun _ => Nat → m_I) (fun _ _ _ _ _ => none) (fun _ ih d key lv st h => cg key (ih d) (fun key' lv' h' => Nat.rec (motive := fun _ => m_R) none (fun d' _ => ih d' key' lv' [] h') d) lv st h) n
