/-! SOUNDNESS: what is said of a place of a method -/
def m_strs : List (String × Nat × String) := [("NeverLike", 63, "may 1 - kept ; fee 0 ; joy 1 + near ;"), ("NeverLike$Reader", 116, "may"), ("NeverLike$Reader", 122, "fee"), ("NeverLike$Reader", 124, "joy"), ("NeverLike$Reader", 126, "or"), ("NeverLike$Reader", 128, "and"), ("NeverLike$Reader", 130, "not"), ("NeverLike$Reader", 132, "from"), ("NeverLike$Reader", 134, "to"), ("NeverLike$Reader", 136, "near"), ("NeverLike$Reader", 138, "spring"), ("NeverLike$Reader", 140, "kept"), ("NeverLike$Reader", 142, "house")]
def m_bytL : List (List Int32) := [[109, 97, 121, 32, 49, 32, 45, 32, 107, 101, 112, 116, 32, 59, 32, 102, 101, 101, 32, 48, 32, 59, 32, 106, 111, 121, 32, 49, 32, 43, 32, 110, 101, 97, 114, 32, 59], [109, 97, 121], [102, 101, 101], [106, 111, 121], [111, 114], [97, 110, 100], [110, 111, 116], [102, 114, 111, 109], [116, 111], [110, 101, 97, 114], [115, 112, 114, 105, 110, 103], [107, 101, 112, 116], [104, 111, 117, 115, 101]]
def m_lenL : List Nat := [37, 3, 3, 3, 2, 3, 3, 4, 2, 4, 6, 4, 5]
def m_nestF : List (String × Nat × String × String × String × String) := [("NeverLike", 348, "NeverLike$Search", "knowsPrices", "Z", "NeverLike"), ("NeverLike", 203, "NeverLike$Search", "found", "I", "NeverLike"), ("NeverLike", 174, "NeverLike$Reader", "size", "I", "NeverLike"), ("NeverLike", 177, "NeverLike$Reader", "fault", "I", "NeverLike")]
def m_nestM : List (String × Nat × MethodName × String) := [("NeverLike$Town", 32, ⟨"NeverLike", "townsOf", "(II)I"⟩, "NeverLike"), ("NeverLike", 36, ⟨"NeverLike$Reader", "<init>", "()V"⟩, "NeverLike")]
def m_cast : List (String × String) := [("NeverLike$Moody", "NeverLike$Painter"), ("NeverLike$Old", "NeverLike$Painter"), ("NeverLike$Green", "NeverLike$Painter"), ("NeverLike$Steep", "NeverLike$Painter"), ("NeverLike$Shy", "NeverLike$Painter"), ("NeverLike$Moody", "NeverLike$Steep"), ("NeverLike$Old", "NeverLike$Shy"), ("NeverLike$Green", "NeverLike$Shy")]
def m_ncast : List (String × String) := [("NeverLike$Green", "NeverLike$Steep"), ("NeverLike$Old", "NeverLike$Steep"), ("NeverLike$Painter", "NeverLike$Steep"), ("NeverLike$Shy", "NeverLike$Steep"), ("NeverLike$Moody", "NeverLike$Shy"), ("NeverLike$Painter", "NeverLike$Shy"), ("NeverLike$Steep", "NeverLike$Shy"), ("NeverLike$Green", "NeverLike$Moody"), ("NeverLike$Old", "NeverLike$Moody"), ("NeverLike$Painter", "NeverLike$Moody"), ("NeverLike$Shy", "NeverLike$Moody"), ("NeverLike$Steep", "NeverLike$Moody"), ("NeverLike$Green", "NeverLike$Old"), ("NeverLike$Moody", "NeverLike$Old"), ("NeverLike$Painter", "NeverLike$Old"), ("NeverLike$Shy", "NeverLike$Old"), ("NeverLike$Steep", "NeverLike$Old"), ("NeverLike$Moody", "NeverLike$Green"), ("NeverLike$Old", "NeverLike$Green"), ("NeverLike$Painter", "NeverLike$Green"), ("NeverLike$Shy", "NeverLike$Green"), ("NeverLike$Steep", "NeverLike$Green")]
def m_aoA (U : State) : Prop := (Cond.arrayOver (.array .int)).before #[] U = true
/-- what stays as it was through a whole run: String constants, a static, links between nest mates, classes of arrays -/
def m_Ev (Γ : m_G) (A : Nat → Prop) (U : State) : Prop :=
  (∃ adV : Nat → Nat, vk_S 13 m_lenL m_bytL Γ.2.2.1 adV A U U.heap) ∧ (∀ (i : Nat) (q : String × Nat × String), m_strs[i]? = some q → vk_R q.1 q.2.1 q.2.2 (Γ.2.2.1 i) U) ∧
  va_Z "java/lang/String" "COMPACT_STRINGS" "Z" (.int 1) A U U.heap ∧ va_Zq "jdk/internal/util/Preconditions" "SIOOBE_FORMATTER" "Ljava/util/function/BiFunction;" A U U.heap ∧
  (∀ q ∈ m_nestF, va_Nw (.fieldLinkNest q.1 q.2.1 q.2.2.1 q.2.2.2.1 q.2.2.2.2.1 q.2.2.2.2.2) U) ∧ (∀ q ∈ m_nestM, va_Nw (.methodLinkNest q.1 q.2.1 q.2.2.1 q.2.2.2) U) ∧
  va_AO "NeverLike$Painter" U ∧ va_AO "NeverLike$Text" U ∧ va_AO "NeverLike$Sheet" U ∧ m_aoA U ∧ (∀ q ∈ m_cast, va_Nw (.castable q.1 q.2) U) ∧ ∀ q ∈ m_ncast, va_Nc q.1 q.2 U
theorem m_aoA.moved {u U : State} (hvm : u.vm.Alike U.vm) (h : m_aoA u) : m_aoA U := by
  obtain ⟨comp, c, k, h1, h2, h3, h4, h5⟩ := arrayOverA_spec h
  obtain ⟨k', hk', he⟩ := hvm.2.2 _ _ h3
  have hi : (U.vm.classes.findIdx? fun (x : Class) => match x.kind with | .array component _ => component == comp | _ => false) = some c := by
    rw [hvm.findIdx?_eq _ (fun _ => rfl)]
    exact h2
  have hkind : k'.kind = .array comp (.array .int) := by rw [he]; exact h4
  have f1 : U.vm.findClass (FieldType.array .int).toString = some comp := by rw [hvm.findClass]; exact h1
  have f2 : U.vm.findClass ("[" ++ (FieldType.array .int).toString) = some c := by rw [hvm.findClass]; exact h5
  unfold m_aoA Cond.before Cond.holds
  simp only [Cond.value]
  rw [f1, Option.bind_some]
  refine (congrArg (fun o : Option Nat => (o.bind (fun c => (U.vm.classes[c]?).map fun (k : Class) => match k.kind with | .array _ ty => decide (ty = FieldType.array .int) && decide (U.vm.findClass ("[" ++ (FieldType.array .int).toString) = some c) | _ => false) == some true)) hi).trans ?_
  simp [hk', hkind, f2]
/-- at a call -/
theorem m_Ev.call {Γ : m_G} {A B : Nat → Prop} {s U : State} {H : Heap} {locs : List Loc} (h : m_Ev Γ A s) (hS : va_S A s.heap H locs) (hU : U.heap = H) (hW : s.WarmedH U.vm) (hAB : ∀ q, B q → A q) : m_Ev Γ B U := by
  obtain ⟨⟨adV, h1⟩, h2, h3, h4, h5, h6, h7, h8, h9, h10, h11, h12⟩ := h
  have hal := hW.alike
  have hk : ∀ a : Nat, a < s.heap.size → ¬ A a → U.heap[a]? = s.heap[a]? := fun a x y => by rw [hU]; exact hS.2.1 a x y
  exact ⟨⟨adV, vk_S.narrow (vk_S.moved hal (vk_S.kept h1 hk)) hAB⟩, fun i q hq => vk_R.warm hW (h2 i q hq), va_Z.narrow (va_Z.moved hal (va_Z.kept h3 hk)) hAB, va_Zq.narrow (va_Zq.moved hal (va_Zq.kept h4 hk)) hAB,
    fun q hq => va_Nw.warmF hW (h5 q hq), fun q hq => va_Nw.warmM hW (h6 q hq), va_AO.moved hal h7, va_AO.moved hal h8, va_AO.moved hal h9, m_aoA.moved hal h10, fun q hq => va_Nw.warmC hW (h11 q hq), fun q hq => va_Nc.moved hal (h12 q hq)⟩
theorem m_Ev.same {Γ : m_G} {A : Nat → Prop} {u U : State} (hv : U.vm = u.vm) (hh : U.heap = u.heap) (h : m_Ev Γ A u) : m_Ev Γ A U := by
  obtain ⟨⟨adV, h1⟩, h2, h3, h4, h5, h6, h7, h8, h9, h10, h11, h12⟩ := h
  have hal : u.vm.Alike U.vm := by rw [hv]; exact Vm.Alike.refl _
  have hk : ∀ a : Nat, a < u.heap.size → ¬ A a → U.heap[a]? = u.heap[a]? := fun a _ _ => by rw [hh]
  exact ⟨⟨adV, vk_S.moved hal (vk_S.kept h1 hk)⟩, fun i q hq => vk_R.same hv (h2 i q hq), va_Z.moved hal (va_Z.kept h3 hk), va_Zq.moved hal (va_Zq.kept h4 hk),
    fun q hq => va_Nw.same rfl hv.symm (h5 q hq), fun q hq => va_Nw.same rfl hv.symm (h6 q hq), va_AO.moved hal h7, va_AO.moved hal h8, va_AO.moved hal h9, m_aoA.moved hal h10, fun q hq => va_Nw.same rfl hv.symm (h11 q hq), fun q hq => va_Nc.moved hal (h12 q hq)⟩
/-- a method: its name, code, locals, answer -/
abbrev m_M : Type := MethodName × ByteArray × Nat × Option FieldType
/-- what is fixed while a method's frame runs -/
def m_fr (Γ : m_G) (M : m_M) (p : Program) (l : Launch) (e : Env) (R : Room) (s : State) (m : MethodId) (args : Array Value) (meth : Method) (c : Code) (A : Nat → Prop) (d : Nat) : Prop :=
  p.tables.exec = Jvm.exec ∧ c.code = M.2.1 ∧ c.maxLocals = M.2.2.1 ∧ s.vm.findClass M.1.cls = some m.cls ∧ (∀ w ∈ m_T, w.before args s = true) ∧ meth.locks = false ∧ meth.sig.returnType = M.2.2.2 ∧ (M.1.name = "<init>" → meth.name = "<init>") ∧ (∀ q : Nat, s.heap.size ≤ q → A q) ∧ m_Ev Γ A s ∧
  d + 7 ≤ R.frames ∧ 40 * (d + 7) ≤ R.locals ∧ (M.1.cls = "NeverLikeLaw" → ∃ xs : Nat → Int32, va_X Γ.2.1 Γ.2.2.2.2.length xs s s.heap ∧ Γ.2.1 < s.heap.size ∧ ¬ A Γ.2.1 ∧ Γ.2.2.2.2.length < 2 ^ 31 ∧ ∀ (j : Nat) (v : Nat), Γ.2.2.2.2[j]? = some v → xs j = nI v)
/-- the real heap at a plain one -/
def m_hh (Γ : m_G) (s : State) (A : Nat → Prop) (ad0 : List Nat) (h : m_H) (ad : List Nat) (ws : va_W) (tys : List (ClassId × FieldType)) (H : Heap) (locs : List Loc) : Prop :=
  m_pre ad0 ad ∧ m_rh Γ ad tys h ws ∧ va_P Γ.1 vwCl ws H ∧ va_K Γ.1 vwCl tys s ∧ va_D A ws ∧ va_S A s.heap H locs
/-- from a place of a method, with plain locals, stack, cells, that come to answer r and cells h' -/
def m_tg (Γ : m_G) (M : m_M) (p : Program) (l : Launch) (e : Env) (R : Room) (s : State) (m : MethodId) (args : Array Value) (below : List Frame) (meth : Method) (c : Code) (A : Nat → Prop) (Q : State → Prop) (ad0 : List Nat) (h0 : m_H) (pc : Nat) (lv st : List m_V) (h h' : m_H) : Prop :=
  h.1 ≤ h'.1 ∧ h.2.1 ≤ h'.2.1 ∧ (h0.1 ≤ h.1 → h0.2.1 ≤ h.2.1 → h'.1 - h0.1 ≤ R.cells → h'.2.1 - h0.2.1 ≤ R.slots →
    ∀ (ad : List Nat) (ws : va_W) (tys : List (ClassId × FieldType)) (H : Heap) (locs : List Loc) (ls : Array Slot) (vs : List Value), m_hh Γ s A ad0 h ad ws tys H locs → m_rl Γ ad M.2.2.1 lv ls → m_rs Γ ad st vs →
      W p l e R s m args below meth c H locs (h.1 - h0.1) (h.2.1 - h0.2.1) Q (F0 m pc ls vs))
def m_ro (Γ : m_G) (ad : List Nat) (r : Option m_V) (v : Option Value) : Prop := match r with
  | none => v = none
  | some x => ∃ w, v = some w ∧ m_rv Γ ad x w
/-- the instruction that gives an answer, and the method's type -/
def m_ri (M : m_M) (i : Instr) (r : Option m_V) : Prop := match r with
  | none => i = .return_ ∧ M.2.2.2 = none
  | some (.inl n) => i = .ireturn ∧ ∃ ty, M.2.2.2 = some ty ∧ narrow ty (.int (nI n)) = .int (nI n)
  | some (.inr (.inl _)) => i = .areturn ∧ ∃ ty, M.2.2.2 = some ty ∧ ((∃ n, ty = .object n) ∨ ∃ t, ty = .array t)
  | some (.inr (.inr (.inl _))) => i = .lreturn ∧ M.2.2.2 = some .long
  | some (.inr (.inr (.inr _))) => False
/-- what a return needs -/
def m_hq (Γ : m_G) (M : m_M) (p : Program) (l : Launch) (e : Env) (R : Room) (s : State) (m : MethodId) (args : Array Value) (below : List Frame) (meth : Method) (c : Code) (A : Nat → Prop) (Q : State → Prop) (ad0 : List Nat) (h0 : m_H) (r : Option m_V) (h' : m_H) : Prop :=
  ∀ (i : Instr) (ad : List Nat) (ws : va_W) (tys : List (ClassId × FieldType)) (H : Heap) (locs : List Loc) (ls : Array Slot) (pc : Nat) (v : Option Value), m_hh Γ s A ad0 h' ad ws tys H locs → h0.1 ≤ h'.1 → h0.2.1 ≤ h'.2.1 → h'.1 - h0.1 ≤ R.cells → h'.2.1 - h0.2.1 ≤ R.slots → m_ro Γ ad r v → m_ri M i r → decode M.2.1 pc = .ok (i, 1) →
    W p l e R s m args below meth c H locs (h'.1 - h0.1) (h'.2.1 - h0.2.1) Q (F0 m pc ls v.toList)
def m_Qc (Γ : m_G) (ad : List Nat) (ws : va_W) (sz : Nat) (r : Option m_V) (h' : m_H) : Array Value → State → Outcome → State → Prop := fun _ st oc t =>
  (∃ (v : Option Value) (ad' : List Nat) (ws' : va_W) (tys' : List (ClassId × FieldType)), oc = .returned v ∧ m_ro Γ ad' r v ∧ m_pre ad ad' ∧ m_rh Γ ad' tys' h' ws' ∧ va_P Γ.1 vwCl ws' t.heap ∧ va_K Γ.1 vwCl tys' t ∧ va_D (va_A ws sz) ws') ∧ va_F (va_A ws sz) st t
def m_w (M : m_M) : List Cond := .code M.1 M.2.1 M.2.2.1 M.2.2.2 :: m_T
def m_rm (d a b : Nat) : Room := { frames := d + 7, cells := a, slots := b, locals := 40 * (d + 7) }
/-- a call of method M with plain arguments: a contract -/
def m_ct (Γ : m_G) (l : Launch) (d : Nat) (M : m_M) (as : List m_V) (h : m_H) (r : Option m_V) (h' : m_H) : Prop :=
  ∀ (ad : List Nat) (ws : va_W) (tys : List (ClassId × FieldType)) (sz : Nat) (vs : List Value), m_rs Γ ad as vs → m_rh Γ ad tys h ws →
    Met l M.1 (m_w M) (m_rm d (h'.1 - h.1) (h'.2.1 - h.2.1)) (va_Pc vs (fun U => U.heap.size = sz ∧ va_P Γ.1 vwCl ws U.heap ∧ va_K Γ.1 vwCl tys U ∧ va_D (fun _ => True) ws ∧ m_Ev Γ (va_A ws sz) U)) (m_Qc Γ ad ws sz r h') (h'.1 - h.1) (h'.2.1 - h.2.1) (va_A ws sz)
def m_un (n : Nat) : List m_V := List.replicate n (.inr (.inr (.inl 0)))
/-- calls are right: tab gives the methods by their numbers -/
def m_ck (Γ : m_G) (l : Launch) (tab : Nat → Option m_M) (d : Nat) (cl : m_C) : Prop :=
  ∀ (k : Nat) (M : m_M) (as : List m_V) (h h' : m_H) (r : Option m_V), k ≠ 0 → tab k = some M → as.length ≤ M.2.2.1 → (∀ v ∈ as, m_cat v) → cl (4096 * k) (as ++ m_un (M.2.2.1 - as.length)) h = some (r, h') → ∃ d', d = d' + 1 ∧ m_ct Γ l d' M as h r h'
/-- the text X is right at a place of method number k -/
def m_ok (Γ : m_G) (tab : Nat → Option m_M) (k : Nat) (M : m_M) (pc : Nat) (X : m_X) : Prop :=
  ∀ (p : Program) (l : Launch) (e : Env) (R : Room) (s : State) (m : MethodId) (args : Array Value) (below : List Frame) (meth : Method) (c : Code) (A : Nat → Prop) (Q : State → Prop) (ad0 : List Nat) (h0 : m_H) (d : Nat), m_fr Γ M p l e R s m args meth c A d →
  ∀ (r : Option m_V) (h' : m_H), m_hq Γ M p l e R s m args below meth c A Q ad0 h0 r h' →
  ∀ (go : m_I) (cl : m_C), (∀ (t : Nat) (lv st : List m_V) (h : m_H), t < 4096 → go (4096 * k + t) lv st h = some (r, h') → m_tg Γ M p l e R s m args below meth c A Q ad0 h0 t lv st h h') → m_ck Γ l tab d cl →
  ∀ (lv st : List m_V) (h : m_H), X go cl lv st h = some (r, h') → m_tg Γ M p l e R s m args below meth c A Q ad0 h0 pc lv st h h'
section OK
variable {Γ : m_G} {tab : Nat → Option m_M} {k : Nat} {M : m_M} {pc : Nat} {K : m_X}
theorem ok_bad : m_ok Γ tab k M pc x_bad := by
  intro p l e R s m args below meth c A Q ad0 h0 d fr r h' hq go cl hgo hcl lv st h hX
  cases hX
/-- a step that only changes locals and stack -/
theorem ok_step {X : m_X} {pc2 : Nat} (hK : m_ok Γ tab k M pc2 K)
    (hs : ∀ (p : Program) (l : Launch) (e : Env) (R : Room) (s : State) (m : MethodId) (args : Array Value) (below : List Frame) (meth : Method) (c : Code) (A : Nat → Prop) (Q : State → Prop) (d : Nat), m_fr Γ M p l e R s m args meth c A d → ∀ (go : m_I) (cl : m_C) (lv st : List m_V) (h : m_H) (r : Option m_V × m_H), X go cl lv st h = some r →
      ∃ lv2 st2, K go cl lv2 st2 h = some r ∧ ∀ (ad : List Nat) (ws : va_W) (tys : List (ClassId × FieldType)) (H : Heap) (locs : List Loc) (ls : Array Slot) (vs : List Value) (ad0 : List Nat) (cells slots : Nat), cells ≤ R.cells → slots ≤ R.slots → m_hh Γ s A ad0 h ad ws tys H locs → m_rl Γ ad M.2.2.1 lv ls → m_rs Γ ad st vs →
        (∀ (ls2 : Array Slot) (vs2 : List Value), m_rl Γ ad M.2.2.1 lv2 ls2 → m_rs Γ ad st2 vs2 → W p l e R s m args below meth c H locs cells slots Q (F0 m pc2 ls2 vs2)) → W p l e R s m args below meth c H locs cells slots Q (F0 m pc ls vs)) : m_ok Γ tab k M pc X := by
  intro p l e R s m args below meth c A Q ad0 h0 d fr r h' hq go cl hgo hcl lv st h hX
  obtain ⟨lv2, st2, h1, h2⟩ := hs p l e R s m args below meth c A Q d fr go cl lv st h _ hX
  obtain ⟨g1, g2, g3⟩ := hK p l e R s m args below meth c A Q ad0 h0 d fr r h' hq go cl hgo hcl lv2 st2 h h1
  exact ⟨g1, g2, fun a1 a2 a3 a4 ad ws tys H locs ls vs hh hl hv => h2 ad ws tys H locs ls vs ad0 _ _ (by omega) (by omega) hh hl hv (fun ls2 vs2 b1 b2 => g3 a1 a2 a3 a4 ad ws tys H locs ls2 vs2 hh b1 b2)⟩
end OK
