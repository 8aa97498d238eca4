/-! INSTRUCTIONS: arithmetic, the stack, branches -/
section OK2
variable {Γ : m_G} {tab : Nat → Option m_M} {k : Nat} {M : m_M} {pc : Nat} {K : m_X}
/-- an instruction on two ints -/
theorem ok_op {f : Nat → Nat → Nat} {g : Int32 → Int32 → Int32} (hfg : ∀ a b, g (nI a) (nI b) = nI (f a b))
    (hrow : ∀ (p : Program) (l : Launch) (e : Env) (R : Room) (s : State) (m : MethodId) (args : Array Value) (below : List Frame) (meth : Method) (c : Code) (H : Heap) (locs : List Loc) (cells slots : Nat) (Q : State → Prop) (ls : Array Slot) (rest : List Value) (x y : Int32), p.tables.exec = Jvm.exec → c.code = M.2.1 → W p l e R s m args below meth c H locs cells slots Q (F0 m (pc + 1) ls (.int (g x y) :: rest)) → W p l e R s m args below meth c H locs cells slots Q (F0 m pc ls (.int y :: .int x :: rest)))
    (hK : m_ok Γ tab k M (pc + 1) K) : m_ok Γ tab k M pc (x_op f K) := by
  refine ok_step hK ?_
  intro p l e R s m args below meth c A Q d fr go cl lv st h r hX
  obtain ⟨b, t, rfl, h2⟩ := mx_pi hX
  obtain ⟨a, t, rfl, h3⟩ := mx_pi h2
  rw [mi_f] at h3
  clear h2
  have h2 := h3
  refine ⟨lv, _, h2, fun ad ws tys H locs ls vs ad0 cells slots _ _ hh hl hv kk => ?_⟩
  obtain ⟨w1, vt, rfl, hw1, hv⟩ := hv
  obtain ⟨w2, vt, rfl, hw2, hv⟩ := hv
  cases (show w1 = .int (nI b) from hw1)
  cases (show w2 = .int (nI a) from hw2)
  exact hrow p l e R s m args below meth c H locs cells slots Q ls vt _ _ fr.1 fr.2.1 (kk ls _ hl ⟨_, _, rfl, congrArg _ (hfg a b), hv⟩)
theorem ok_add (hd : decode M.2.1 pc = .ok (.iadd, 1)) (hK : m_ok Γ tab k M (pc + 1) K) : m_ok Γ tab k M pc (x_op m_add K) := ok_op (g := fun x y => x + y) mn_add (fun p l e R s m args below meth c H locs cells slots Q ls rest x y hx hb kk => lv_iadd hx hb hd kk) hK
theorem ok_sub (hd : decode M.2.1 pc = .ok (.isub, 1)) (hK : m_ok Γ tab k M (pc + 1) K) : m_ok Γ tab k M pc (x_op m_sub K) := ok_op (g := fun x y => x - y) mn_sub (fun p l e R s m args below meth c H locs cells slots Q ls rest x y hx hb kk => lv_isub hx hb hd kk) hK
theorem ok_mul (hd : decode M.2.1 pc = .ok (.imul, 1)) (hK : m_ok Γ tab k M (pc + 1) K) : m_ok Γ tab k M pc (x_op m_mul K) := ok_op (g := fun x y => x * y) mn_mul (fun p l e R s m args below meth c H locs cells slots Q ls rest x y hx hb kk => lv_imul hx hb hd kk) hK
theorem ok_and (hd : decode M.2.1 pc = .ok (.iand, 1)) (hK : m_ok Γ tab k M (pc + 1) K) : m_ok Γ tab k M pc (x_op m_and K) := ok_op (g := fun x y => x &&& y) mn_and (fun p l e R s m args below meth c H locs cells slots Q ls rest x y hx hb kk => lv_iand hx hb hd kk) hK
theorem ok_or (hd : decode M.2.1 pc = .ok (.ior, 1)) (hK : m_ok Γ tab k M (pc + 1) K) : m_ok Γ tab k M pc (x_op m_or K) := ok_op (g := fun x y => x ||| y) mn_or (fun p l e R s m args below meth c H locs cells slots Q ls rest x y hx hb kk => lv_ior hx hb hd kk) hK
theorem ok_xor (hd : decode M.2.1 pc = .ok (.ixor, 1)) (hK : m_ok Γ tab k M (pc + 1) K) : m_ok Γ tab k M pc (x_op m_xor K) := ok_op (g := fun x y => x ^^^ y) mn_xor (fun p l e R s m args below meth c H locs cells slots Q ls rest x y hx hb kk => lv_ixor hx hb hd kk) hK
theorem ok_shl (hd : decode M.2.1 pc = .ok (.ishl, 1)) (hK : m_ok Γ tab k M (pc + 1) K) : m_ok Γ tab k M pc (x_op m_shl K) := ok_op (g := fun x y => x <<< (y &&& 31)) mn_shl (fun p l e R s m args below meth c H locs cells slots Q ls rest x y hx hb kk => lv_ishl hx hb hd kk) hK
theorem ok_shr (hd : decode M.2.1 pc = .ok (.ishr, 1)) (hK : m_ok Γ tab k M (pc + 1) K) : m_ok Γ tab k M pc (x_op m_shr K) := ok_op (g := fun x y => x >>> (y &&& 31)) mn_shr (fun p l e R s m args below meth c H locs cells slots Q ls rest x y hx hb kk => lv_ishr hx hb hd kk) hK
theorem ok_ushr (hd : decode M.2.1 pc = .ok (.iushr, 1)) (hK : m_ok Γ tab k M (pc + 1) K) : m_ok Γ tab k M pc (x_op m_ushr K) := ok_op (g := fun x y => (x.toUInt32 >>> (y.toUInt32 &&& Int32.toUInt32 31)).toInt32) mn_ushr (fun p l e R s m args below meth c H locs cells slots Q ls rest x y hx hb kk => lv_iushr hx hb hd rfl kk) hK
theorem ok_opz {f : Nat → Nat → Nat} {g : Int32 → Int32 → Int32} (hfg : ∀ a b, g (nI a) (nI b) = nI (f a b))
    (hrow : ∀ (p : Program) (l : Launch) (e : Env) (R : Room) (s : State) (m : MethodId) (args : Array Value) (below : List Frame) (meth : Method) (c : Code) (H : Heap) (locs : List Loc) (cells slots : Nat) (Q : State → Prop) (ls : Array Slot) (rest : List Value) (x y : Int32), p.tables.exec = Jvm.exec → c.code = M.2.1 → ¬ y = 0 → W p l e R s m args below meth c H locs cells slots Q (F0 m (pc + 1) ls (.int (g x y) :: rest)) → W p l e R s m args below meth c H locs cells slots Q (F0 m pc ls (.int y :: .int x :: rest)))
    (hK : m_ok Γ tab k M (pc + 1) K) : m_ok Γ tab k M pc (x_opz f K) := by
  refine ok_step hK ?_
  intro p l e R s m args below meth c A Q d fr go cl lv st h r hX
  obtain ⟨b, t, rfl, h2⟩ := mx_pi hX
  obtain ⟨hb0, h2⟩ := mx_iff h2
  obtain ⟨a, t, rfl, h3⟩ := mx_pi h2
  rw [mi_f] at h3
  clear h2
  have h2 := h3
  have hne : ¬ nI b = 0 := fun z => by
    rw [mn_beq.mpr (show nI b = nI 0 from z)] at hb0
    cases hb0
  refine ⟨lv, _, h2, fun ad ws tys H locs ls vs ad0 cells slots _ _ hh hl hv kk => ?_⟩
  obtain ⟨w1, vt, rfl, hw1, hv⟩ := hv
  obtain ⟨w2, vt, rfl, hw2, hv⟩ := hv
  cases (show w1 = .int (nI b) from hw1)
  cases (show w2 = .int (nI a) from hw2)
  exact hrow p l e R s m args below meth c H locs cells slots Q ls vt _ _ fr.1 fr.2.1 hne (kk ls _ hl ⟨_, _, rfl, congrArg _ (hfg a b), hv⟩)
theorem ok_div (hd : decode M.2.1 pc = .ok (.idiv, 1)) (hK : m_ok Γ tab k M (pc + 1) K) : m_ok Γ tab k M pc (x_opz m_div K) := ok_opz (g := fun x y => x / y) mn_div (fun p l e R s m args below meth c H locs cells slots Q ls rest x y hx hb hn kk => lv_idiv hx hb hd hn kk) hK
theorem ok_rem (hd : decode M.2.1 pc = .ok (.irem, 1)) (hK : m_ok Γ tab k M (pc + 1) K) : m_ok Γ tab k M pc (x_opz m_rem K) := ok_opz (g := fun x y => x - x / y * y) mn_rem (fun p l e R s m args below meth c H locs cells slots Q ls rest x y hx hb hn kk => lv_irem hx hb hd hn kk) hK
theorem ok_un {f : Nat → Nat} {g : Int32 → Int32} (hfg : ∀ a, g (nI a) = nI (f a))
    (hrow : ∀ (p : Program) (l : Launch) (e : Env) (R : Room) (s : State) (m : MethodId) (args : Array Value) (below : List Frame) (meth : Method) (c : Code) (H : Heap) (locs : List Loc) (cells slots : Nat) (Q : State → Prop) (ls : Array Slot) (rest : List Value) (x : Int32), p.tables.exec = Jvm.exec → c.code = M.2.1 → W p l e R s m args below meth c H locs cells slots Q (F0 m (pc + 1) ls (.int (g x) :: rest)) → W p l e R s m args below meth c H locs cells slots Q (F0 m pc ls (.int x :: rest)))
    (hK : m_ok Γ tab k M (pc + 1) K) : m_ok Γ tab k M pc (x_un f K) := by
  refine ok_step hK ?_
  intro p l e R s m args below meth c A Q d fr go cl lv st h r hX
  obtain ⟨a, t, rfl, h2⟩ := mx_pi hX
  rw [mi_f] at h2
  refine ⟨lv, _, h2, fun ad ws tys H locs ls vs ad0 cells slots _ _ hh hl hv kk => ?_⟩
  obtain ⟨w2, vt, rfl, hw2, hv⟩ := hv
  cases (show w2 = .int (nI a) from hw2)
  exact hrow p l e R s m args below meth c H locs cells slots Q ls vt _ fr.1 fr.2.1 (kk ls _ hl ⟨_, _, rfl, congrArg _ (hfg a), hv⟩)
theorem ok_neg (hd : decode M.2.1 pc = .ok (.ineg, 1)) (hK : m_ok Γ tab k M (pc + 1) K) : m_ok Γ tab k M pc (x_un m_neg K) := ok_un (g := fun x => -x) mn_neg (fun p l e R s m args below meth c H locs cells slots Q ls rest x hx hb kk => lv_ineg hx hb hd kk) hK
theorem ok_i2b (hd : decode M.2.1 pc = .ok (.i2b, 1)) (hK : m_ok Γ tab k M (pc + 1) K) : m_ok Γ tab k M pc (x_un m_i2b K) := ok_un (g := fun x => x.toInt8.toInt32) (fun a => (mn_n _).symm) (fun p l e R s m args below meth c H locs cells slots Q ls rest x hx hb kk => lv_i2b hx hb hd rfl kk) hK
theorem ok_i2s (hd : decode M.2.1 pc = .ok (.i2s, 1)) (hK : m_ok Γ tab k M (pc + 1) K) : m_ok Γ tab k M pc (x_un m_i2s K) := ok_un (g := fun x => x.toInt16.toInt32) (fun a => (mn_n _).symm) (fun p l e R s m args below meth c H locs cells slots Q ls rest x hx hb kk => lv_i2s hx hb hd rfl kk) hK
theorem mn_l (x : Int64) : lN x.toBitVec.toNat = x := by
  apply Int64.toBitVec_inj.mp
  apply BitVec.eq_of_toNat_eq
  show (BitVec.ofNat 64 _).toNat = _
  rw [BitVec.toNat_ofNat]
  exact Nat.mod_eq_of_lt x.toBitVec.isLt
theorem ok_i2l (hd : decode M.2.1 pc = .ok (.i2l, 1)) (hK : m_ok Γ tab k M (pc + 1) K) : m_ok Γ tab k M pc (x_i2l K) := by
  refine ok_step hK ?_
  intro p l e R s m args below meth c A Q d fr go cl lv st h r hX
  obtain ⟨a, t, rfl, h2⟩ := mx_pi hX
  rw [mi_f] at h2
  refine ⟨lv, _, h2, fun ad ws tys H locs ls vs ad0 cells slots _ _ hh hl hv kk => ?_⟩
  obtain ⟨w2, vt, rfl, hw2, hv⟩ := hv
  cases (show w2 = .int (nI a) from hw2)
  exact lv_i2l fr.1 fr.2.1 hd (mn_l _).symm (kk ls _ hl ⟨_, _, rfl, rfl, hv⟩)
theorem ok_lcmp (hd : decode M.2.1 pc = .ok (.lcmp, 1)) (hK : m_ok Γ tab k M (pc + 1) K) : m_ok Γ tab k M pc (x_lcmp K) := by
  refine ok_step hK ?_
  intro p l e R s m args below meth c A Q d fr go cl lv st h r hX
  obtain ⟨b, t, rfl, h2⟩ := mx_pl hX
  obtain ⟨a, t, rfl, h3⟩ := mx_pl h2
  rw [mi_f] at h3
  clear h2
  have h2 := h3
  refine ⟨lv, _, h2, fun ad ws tys H locs ls vs ad0 cells slots _ _ hh hl hv kk => ?_⟩
  obtain ⟨w1, vt, rfl, hw1, hv⟩ := hv
  obtain ⟨w2, vt, rfl, hw2, hv⟩ := hv
  cases (show w1 = .long (lN b) from hw1)
  cases (show w2 = .long (lN a) from hw2)
  exact W.lcmp fr.1 fr.2.1 hd (kk ls _ hl ⟨_, _, rfl, congrArg _ (mn_n _).symm, hv⟩)
theorem ok_dup (hd : decode M.2.1 pc = .ok (.dup, 1)) (hK : m_ok Γ tab k M (pc + 1) K) : m_ok Γ tab k M pc (x_dup K) := by
  refine ok_step hK ?_
  intro p l e R s m args below meth c A Q d fr go cl lv st h r hX
  obtain ⟨v, t, rfl, h2⟩ := mx_pv hX
  obtain ⟨hc, h2⟩ := mx_c1 h2
  refine ⟨lv, _, h2, fun ad ws tys H locs ls vs ad0 cells slots _ _ hh hl hv kk => ?_⟩
  obtain ⟨w, vt, rfl, hw, hv⟩ := hv
  exact lv_dup fr.1 fr.2.1 hd (mv_cat hw hc) (kk ls _ hl ⟨_, _, rfl, hw, _, _, rfl, hw, hv⟩)
theorem ok_dup2 (hd : decode M.2.1 pc = .ok (.dup2, 1)) (hK : m_ok Γ tab k M (pc + 1) K) : m_ok Γ tab k M pc (x_dup2 K) := by
  refine ok_step hK ?_
  intro p l e R s m args below meth c A Q d fr go cl lv st h r hX
  obtain ⟨v, t, rfl, h2⟩ := mx_pv hX
  obtain ⟨hc, h2⟩ := mx_c1 h2
  obtain ⟨v2, t, rfl, h2⟩ := mx_pv h2
  obtain ⟨hc2, h2⟩ := mx_c1 h2
  refine ⟨lv, _, h2, fun ad ws tys H locs ls vs ad0 cells slots _ _ hh hl hv kk => ?_⟩
  obtain ⟨w, vt, rfl, hw, hv⟩ := hv
  obtain ⟨w2, vt, rfl, hw2, hv⟩ := hv
  exact lv_dup2_11 fr.1 fr.2.1 hd (mv_cat hw hc) (mv_cat hw2 hc2) (kk ls _ hl ⟨_, _, rfl, hw, _, _, rfl, hw2, _, _, rfl, hw, _, _, rfl, hw2, hv⟩)
theorem ok_pop (hd : decode M.2.1 pc = .ok (.pop, 1)) (hK : m_ok Γ tab k M (pc + 1) K) : m_ok Γ tab k M pc (x_pop K) := by
  refine ok_step hK ?_
  intro p l e R s m args below meth c A Q d fr go cl lv st h r hX
  obtain ⟨v, t, rfl, h2⟩ := mx_pv hX
  obtain ⟨hc, h2⟩ := mx_c1 h2
  refine ⟨lv, _, h2, fun ad ws tys H locs ls vs ad0 cells slots _ _ hh hl hv kk => ?_⟩
  obtain ⟨w, vt, rfl, hw, hv⟩ := hv
  exact lv_pop fr.1 fr.2.1 hd (mv_cat hw hc) (kk ls _ hl hv)
/-- a jump, or on -/
theorem ok_jump {X : m_X} {pc2 t : Nat} (h4 : t < 4096) (hK : m_ok Γ tab k M pc2 K)
    (hs : ∀ (p : Program) (l : Launch) (e : Env) (R : Room) (s : State) (m : MethodId) (args : Array Value) (below : List Frame) (meth : Method) (c : Code) (A : Nat → Prop) (Q : State → Prop) (d : Nat), m_fr Γ M p l e R s m args meth c A d → ∀ (go : m_I) (cl : m_C) (lv st : List m_V) (h : m_H) (r : Option m_V × m_H), X go cl lv st h = some r →
      ∃ st2 pc3, ((pc3 = t ∧ go (4096 * k + t) lv st2 h = some r) ∨ (pc3 = pc2 ∧ K go cl lv st2 h = some r)) ∧ ∀ (ad : List Nat) (H : Heap) (locs : List Loc) (ls : Array Slot) (vs : List Value) (cells slots : Nat), m_rs Γ ad st vs →
        (∀ (vs2 : List Value), m_rs Γ ad st2 vs2 → W p l e R s m args below meth c H locs cells slots Q (F0 m pc3 ls vs2)) → W p l e R s m args below meth c H locs cells slots Q (F0 m pc ls vs)) : m_ok Γ tab k M pc X := by
  intro p l e R s m args below meth c A Q ad0 h0 d fr r h' hq go cl hgo hcl lv st h hX
  obtain ⟨st2, pc3, h1, h2⟩ := hs p l e R s m args below meth c A Q d fr go cl lv st h _ hX
  have key : m_tg Γ M p l e R s m args below meth c A Q ad0 h0 pc3 lv st2 h h' := by
    rcases h1 with ⟨rfl, h1⟩ | ⟨rfl, h1⟩
    · exact hgo _ lv st2 h h4 h1
    · exact hK p l e R s m args below meth c A Q ad0 h0 d fr r h' hq go cl hgo hcl lv st2 h h1
  obtain ⟨g1, g2, g3⟩ := key
  exact ⟨g1, g2, fun a1 a2 a3 a4 ad ws tys H locs ls vs hh hl hv => h2 ad H locs ls vs _ _ hv (fun vs2 b2 => g3 a1 a2 a3 a4 ad ws tys H locs ls vs2 hh hl b2)⟩
theorem ok_ci {f : Nat → Nat → Bool} {P : Int32 → Int32 → Prop} {t key : Nat} (h4 : t < 4096) (hkey : key = 4096 * k + t) (hP : ∀ a b, f a b = true ↔ P (nI a) (nI b))
    (hrow : ∀ (p : Program) (l : Launch) (e : Env) (R : Room) (s : State) (m : MethodId) (args : Array Value) (below : List Frame) (meth : Method) (c : Code) (H : Heap) (locs : List Loc) (cells slots : Nat) (Q : State → Prop) (ls : Array Slot) (rest : List Value) (x y : Int32), p.tables.exec = Jvm.exec → c.code = M.2.1 → (P x y → W p l e R s m args below meth c H locs cells slots Q (F0 m t ls rest)) → (¬ P x y → W p l e R s m args below meth c H locs cells slots Q (F0 m (pc + 3) ls rest)) → W p l e R s m args below meth c H locs cells slots Q (F0 m pc ls (.int y :: .int x :: rest)))
    (hK : m_ok Γ tab k M (pc + 3) K) : m_ok Γ tab k M pc (x_ci f key K) := by
  refine ok_jump (t := t) h4 hK ?_
  intro p l e R s m args below meth c A Q d fr go cl lv st h r hX
  obtain ⟨b, u, rfl, h2⟩ := mx_pi hX
  obtain ⟨a, u, rfl, h2⟩ := mx_pi h2
  rcases mx_if h2 with ⟨hc, h2⟩ | ⟨hc, h2⟩
  · refine ⟨u, t, Or.inl ⟨rfl, by rw [← hkey]; exact h2⟩, fun ad H locs ls vs cells slots hv kk => ?_⟩
    obtain ⟨w1, vt, rfl, hw1, hv⟩ := hv
    obtain ⟨w2, vt, rfl, hw2, hv⟩ := hv
    cases (show w1 = .int (nI b) from hw1)
    cases (show w2 = .int (nI a) from hw2)
    exact hrow p l e R s m args below meth c H locs cells slots Q ls vt _ _ fr.1 fr.2.1 (fun _ => kk _ hv) (fun z => absurd ((hP a b).mp hc) z)
  · refine ⟨u, pc + 3, Or.inr ⟨rfl, h2⟩, fun ad H locs ls vs cells slots hv kk => ?_⟩
    obtain ⟨w1, vt, rfl, hw1, hv⟩ := hv
    obtain ⟨w2, vt, rfl, hw2, hv⟩ := hv
    cases (show w1 = .int (nI b) from hw1)
    cases (show w2 = .int (nI a) from hw2)
    exact hrow p l e R s m args below meth c H locs cells slots Q ls vt _ _ fr.1 fr.2.1 (fun z => absurd ((hP a b).mpr z) (by rw [hc]; decide)) (fun _ => kk _ hv)
theorem ok_cz {f : Nat → Nat → Bool} {P : Int32 → Prop} {t key : Nat} (h4 : t < 4096) (hkey : key = 4096 * k + t) (hP : ∀ a, f a 0 = true ↔ P (nI a))
    (hrow : ∀ (p : Program) (l : Launch) (e : Env) (R : Room) (s : State) (m : MethodId) (args : Array Value) (below : List Frame) (meth : Method) (c : Code) (H : Heap) (locs : List Loc) (cells slots : Nat) (Q : State → Prop) (ls : Array Slot) (rest : List Value) (x : Int32), p.tables.exec = Jvm.exec → c.code = M.2.1 → (P x → W p l e R s m args below meth c H locs cells slots Q (F0 m t ls rest)) → (¬ P x → W p l e R s m args below meth c H locs cells slots Q (F0 m (pc + 3) ls rest)) → W p l e R s m args below meth c H locs cells slots Q (F0 m pc ls (.int x :: rest)))
    (hK : m_ok Γ tab k M (pc + 3) K) : m_ok Γ tab k M pc (x_cz f key K) := by
  refine ok_jump (t := t) h4 hK ?_
  intro p l e R s m args below meth c A Q d fr go cl lv st h r hX
  obtain ⟨a, u, rfl, h2⟩ := mx_pi hX
  rcases mx_if h2 with ⟨hc, h2⟩ | ⟨hc, h2⟩
  · refine ⟨u, t, Or.inl ⟨rfl, by rw [← hkey]; exact h2⟩, fun ad H locs ls vs cells slots hv kk => ?_⟩
    obtain ⟨w2, vt, rfl, hw2, hv⟩ := hv
    cases (show w2 = .int (nI a) from hw2)
    exact hrow p l e R s m args below meth c H locs cells slots Q ls vt _ fr.1 fr.2.1 (fun _ => kk _ hv) (fun z => absurd ((hP a).mp hc) z)
  · refine ⟨u, pc + 3, Or.inr ⟨rfl, h2⟩, fun ad H locs ls vs cells slots hv kk => ?_⟩
    obtain ⟨w2, vt, rfl, hw2, hv⟩ := hv
    cases (show w2 = .int (nI a) from hw2)
    exact hrow p l e R s m args below meth c H locs cells slots Q ls vt _ fr.1 fr.2.1 (fun z => absurd ((hP a).mpr z) (by rw [hc]; decide)) (fun _ => kk _ hv)
theorem ok_cieq {t key : Nat} {off : Int} (hd : decode M.2.1 pc = .ok (.if_icmp .eq off, 3)) (ht : (pc : Int) + off = (t : Int)) (h4 : t < 4096) (hkey : key = 4096 * k + t) (hK : m_ok Γ tab k M (pc + 3) K) : m_ok Γ tab k M pc (x_ci m_beq key K) := ok_ci (P := fun x y => x = y) h4 hkey (fun _ _ => mn_beq) (fun p l e R s m args below meth c H locs cells slots Q ls rest x y hx hb kt kf => lv_icmp_eq hx hb hd ht kt (kf)) hK
theorem ok_czeq {t key : Nat} {off : Int} (hd : decode M.2.1 pc = .ok (.ifCond .eq off, 3)) (ht : (pc : Int) + off = (t : Int)) (h4 : t < 4096) (hkey : key = 4096 * k + t) (hK : m_ok Γ tab k M (pc + 3) K) : m_ok Γ tab k M pc (x_cz m_beq key K) := ok_cz (P := fun x => x = 0) h4 hkey (fun _ => mn_beq) (fun p l e R s m args below meth c H locs cells slots Q ls rest x hx hb kt kf => lv_if_eq hx hb hd ht kt (kf)) hK
theorem ok_cine {t key : Nat} {off : Int} (hd : decode M.2.1 pc = .ok (.if_icmp .ne off, 3)) (ht : (pc : Int) + off = (t : Int)) (h4 : t < 4096) (hkey : key = 4096 * k + t) (hK : m_ok Γ tab k M (pc + 3) K) : m_ok Γ tab k M pc (x_ci m_bne key K) := ok_ci (P := fun x y => ¬ x = y) h4 hkey (fun _ _ => mn_bne) (fun p l e R s m args below meth c H locs cells slots Q ls rest x y hx hb kt kf => lv_icmp_ne hx hb hd ht kt (fun z => kf (fun w => w z))) hK
theorem ok_czne {t key : Nat} {off : Int} (hd : decode M.2.1 pc = .ok (.ifCond .ne off, 3)) (ht : (pc : Int) + off = (t : Int)) (h4 : t < 4096) (hkey : key = 4096 * k + t) (hK : m_ok Γ tab k M (pc + 3) K) : m_ok Γ tab k M pc (x_cz m_bne key K) := ok_cz (P := fun x => ¬ x = 0) h4 hkey (fun _ => mn_bne) (fun p l e R s m args below meth c H locs cells slots Q ls rest x hx hb kt kf => lv_if_ne hx hb hd ht kt (fun z => kf (fun w => w z))) hK
theorem ok_cilt {t key : Nat} {off : Int} (hd : decode M.2.1 pc = .ok (.if_icmp .lt off, 3)) (ht : (pc : Int) + off = (t : Int)) (h4 : t < 4096) (hkey : key = 4096 * k + t) (hK : m_ok Γ tab k M (pc + 3) K) : m_ok Γ tab k M pc (x_ci m_blt key K) := ok_ci (P := fun x y => x < y) h4 hkey (fun _ _ => mn_blt) (fun p l e R s m args below meth c H locs cells slots Q ls rest x y hx hb kt kf => lv_icmp_lt hx hb hd ht kt (kf)) hK
theorem ok_czlt {t key : Nat} {off : Int} (hd : decode M.2.1 pc = .ok (.ifCond .lt off, 3)) (ht : (pc : Int) + off = (t : Int)) (h4 : t < 4096) (hkey : key = 4096 * k + t) (hK : m_ok Γ tab k M (pc + 3) K) : m_ok Γ tab k M pc (x_cz m_blt key K) := ok_cz (P := fun x => x < 0) h4 hkey (fun _ => mn_blt) (fun p l e R s m args below meth c H locs cells slots Q ls rest x hx hb kt kf => lv_if_lt hx hb hd ht kt (kf)) hK
theorem ok_cige {t key : Nat} {off : Int} (hd : decode M.2.1 pc = .ok (.if_icmp .ge off, 3)) (ht : (pc : Int) + off = (t : Int)) (h4 : t < 4096) (hkey : key = 4096 * k + t) (hK : m_ok Γ tab k M (pc + 3) K) : m_ok Γ tab k M pc (x_ci m_bge key K) := ok_ci (P := fun x y => y ≤ x) h4 hkey (fun _ _ => mn_bge) (fun p l e R s m args below meth c H locs cells slots Q ls rest x y hx hb kt kf => lv_icmp_ge hx hb hd ht kt (kf)) hK
theorem ok_czge {t key : Nat} {off : Int} (hd : decode M.2.1 pc = .ok (.ifCond .ge off, 3)) (ht : (pc : Int) + off = (t : Int)) (h4 : t < 4096) (hkey : key = 4096 * k + t) (hK : m_ok Γ tab k M (pc + 3) K) : m_ok Γ tab k M pc (x_cz m_bge key K) := ok_cz (P := fun x => 0 ≤ x) h4 hkey (fun _ => mn_bge) (fun p l e R s m args below meth c H locs cells slots Q ls rest x hx hb kt kf => lv_if_ge hx hb hd ht kt (kf)) hK
theorem ok_cigt {t key : Nat} {off : Int} (hd : decode M.2.1 pc = .ok (.if_icmp .gt off, 3)) (ht : (pc : Int) + off = (t : Int)) (h4 : t < 4096) (hkey : key = 4096 * k + t) (hK : m_ok Γ tab k M (pc + 3) K) : m_ok Γ tab k M pc (x_ci m_bgt key K) := ok_ci (P := fun x y => y < x) h4 hkey (fun _ _ => mn_bgt) (fun p l e R s m args below meth c H locs cells slots Q ls rest x y hx hb kt kf => lv_icmp_gt hx hb hd ht kt (kf)) hK
theorem ok_czgt {t key : Nat} {off : Int} (hd : decode M.2.1 pc = .ok (.ifCond .gt off, 3)) (ht : (pc : Int) + off = (t : Int)) (h4 : t < 4096) (hkey : key = 4096 * k + t) (hK : m_ok Γ tab k M (pc + 3) K) : m_ok Γ tab k M pc (x_cz m_bgt key K) := ok_cz (P := fun x => 0 < x) h4 hkey (fun _ => mn_bgt) (fun p l e R s m args below meth c H locs cells slots Q ls rest x hx hb kt kf => lv_if_gt hx hb hd ht kt (kf)) hK
theorem ok_cile {t key : Nat} {off : Int} (hd : decode M.2.1 pc = .ok (.if_icmp .le off, 3)) (ht : (pc : Int) + off = (t : Int)) (h4 : t < 4096) (hkey : key = 4096 * k + t) (hK : m_ok Γ tab k M (pc + 3) K) : m_ok Γ tab k M pc (x_ci m_ble key K) := ok_ci (P := fun x y => x ≤ y) h4 hkey (fun _ _ => mn_ble) (fun p l e R s m args below meth c H locs cells slots Q ls rest x y hx hb kt kf => lv_icmp_le hx hb hd ht kt (kf)) hK
theorem ok_czle {t key : Nat} {off : Int} (hd : decode M.2.1 pc = .ok (.ifCond .le off, 3)) (ht : (pc : Int) + off = (t : Int)) (h4 : t < 4096) (hkey : key = 4096 * k + t) (hK : m_ok Γ tab k M (pc + 3) K) : m_ok Γ tab k M pc (x_cz m_ble key K) := ok_cz (P := fun x => x ≤ 0) h4 hkey (fun _ => mn_ble) (fun p l e R s m args below meth c H locs cells slots Q ls rest x hx hb kt kf => lv_if_le hx hb hd ht kt (kf)) hK
end OK2
