/-! INSTRUCTIONS: jumps without a comparison, fields, cells that come -/
/-- a class has a field at a place -/
def m_fo (c j : Nat) (ref nm ds : String) : Prop := ∃ (C : String) (T : u_T) (N : Nat), vwCl[c]? = some (C, T, N) ∧ (∀ w ∈ u_ws C T N, w ∈ m_T) ∧ j < N ∧ (T j).2.1 = nm ∧ (T j).2.2.1 = ds ∧ ((T j).1 = ref ∨ Cond.sameField ref (T j).1 nm ds ∈ m_T)
/-- it may be written in method M -/
def m_fp (M : m_M) (c j : Nat) (ref nm ds : String) : Prop := ∃ (C : String) (T : u_T) (N : Nat) (ty0 : Nat → FieldType), vwCl[c]? = some (C, T, N) ∧ (∀ w ∈ u_ws C T N, w ∈ m_T) ∧ j < N ∧ (T j).2.1 = nm ∧ (T j).2.2.1 = ds ∧ (T j).1 = ref ∧ (∀ k, k < N → parseFieldDescriptor (T k).2.2.1 = some (ty0 k)) ∧ (∀ a, a < N → ∀ b, b < N → a ≠ b → (T a).2.1 ≠ (T b).2.1) ∧ ((T j).2.2.2 = false ∨ ((T j).2.2.2 = true ∧ M.1.name = "<init>" ∧ ref = M.1.cls))
theorem hh_set {Γ : m_G} {s : State} {A : Nat → Prop} {ad0 ad : List Nat} {h : m_H} {ws : va_W} {tys : List (ClassId × FieldType)} {H H1 : Heap} {locs locs1 : List Loc} {q a : Nat} {e : m_E} {w w0 : va_E} {l' : List (List m_E)} (hh : m_hh Γ s A ad0 h ad ws tys H locs) (hq : q < h.1) (haq : ad[q]? = some a) (he : m_at l' q = some e) (ho : ∀ p, p ≠ q → m_at l' p = m_at h.2.2 p) (hw : ∀ a, m_wf h.2.2 a → m_wf l' a) (hr : m_re Γ ad tys e w) (hP : va_P Γ.1 vwCl (ws.set q (a, w)) H1) (hD : va_D A (ws.set q (a, w))) (hS : va_S A s.heap H1 locs1) : m_hh Γ s A ad0 (h.1, h.2.1, l') ad (ws.set q (a, w)) tys H1 locs1 := by
  obtain ⟨b1, ⟨b2, b3, b4, b5⟩, -, b6, -, -⟩ := hh
  refine ⟨b1, ⟨b2, by rw [List.length_set]; exact b3, hw _ b4, fun p x hx => ?_⟩, hP, b6, hD, hS⟩
  replace hx : m_at l' p = some x := hx
  by_cases hp : p = q
  · subst hp
    cases he.symm.trans hx
    exact ⟨a, w, haq, List.getElem?_set_self (by omega), hr⟩
  · rw [ho p hp] at hx
    obtain ⟨a2, w2, g1, g2, g3⟩ := b5 p x hx
    exact ⟨a2, w2, g1, by rw [List.getElem?_set_ne (fun z => hp z.symm)]; exact g2, g3⟩
theorem hh_new {Γ : m_G} {s : State} {A : Nat → Prop} {ad0 ad : List Nat} {h : m_H} {ws : va_W} {tys ts : List (ClassId × FieldType)} {H H1 : Heap} {locs locs1 : List Loc} {a b' : Nat} {e : m_E} {w : va_E} {l' : List (List m_E)} (hh : m_hh Γ s A ad0 h ad ws tys H locs) (he : m_at l' h.1 = some e) (ho : ∀ p, p < h.1 → m_at l' p = m_at h.2.2 p) (hw : m_wf l' (h.1 + 1)) (hr : m_re Γ (ad ++ [a]) (tys ++ ts) e w) (hP : va_P Γ.1 vwCl (ws ++ [(a, w)]) H1) (hK : va_K Γ.1 vwCl (tys ++ ts) s) (hD : va_D A (ws ++ [(a, w)])) (hS : va_S A s.heap H1 locs1) : m_hh Γ s A ad0 (h.1 + 1, b', l') (ad ++ [a]) (ws ++ [(a, w)]) (tys ++ ts) H1 locs1 := by
  obtain ⟨b1, ⟨b2, b3, b4, b5⟩, -, b6, -, -⟩ := hh
  refine ⟨mp_tr b1 (mp_ap _ _), ⟨by rw [List.length_append, b2]; rfl, by rw [List.length_append, b3]; rfl, hw, fun p x hx => ?_⟩, hP, hK, hD, hS⟩
  replace hx : m_at l' p = some x := hx
  have hlt := mw_lt hw hx
  by_cases hp : p = h.1
  · subst hp
    cases he.symm.trans hx
    exact ⟨a, w, by rw [← b2]; simp, by rw [← b3]; simp, hr⟩
  · rw [ho p (by omega)] at hx
    obtain ⟨a2, w2, g1, g2, g3⟩ := b5 p x hx
    exact ⟨a2, w2, mp_ap _ _ _ _ g1, mp_ap _ _ _ _ g2, me_mono (mp_ap _ _) (mp_ap _ _) g3⟩
section OK3
variable {Γ : m_G} {tab : Nat → Option m_M} {k : Nat} {M : m_M} {pc : Nat} {K : m_X}
theorem ok_go {t key : Nat} {off : Int} (hd : decode M.2.1 pc = .ok (.goto off, 3)) (ht : (pc : Int) + off = (t : Int)) (h4 : t < 4096) (hkey : key = 4096 * k + t) : m_ok Γ tab k M pc (x_go key) := by
  intro p l e R s m args below meth c A Q ad0 h0 d fr r h' hq go cl hgo hcl lv st h hX
  subst hkey
  obtain ⟨g1, g2, g3⟩ := hgo t lv st h h4 hX
  exact ⟨g1, g2, fun a1 a2 a3 a4 ad ws tys H locs ls vs hh hl hv => lv_goto fr.1 fr.2.1 hd ht (g3 a1 a2 a3 a4 ad ws tys H locs ls vs hh hl hv)⟩
theorem ok_ifn {t key : Nat} {off : Int} (hd : decode M.2.1 pc = .ok (.ifnull off, 3)) (ht : (pc : Int) + off = (t : Int)) (h4 : t < 4096) (hkey : key = 4096 * k + t) (hK : m_ok Γ tab k M (pc + 3) K) : m_ok Γ tab k M pc (x_ifn key K) := by
  refine ok_jump (t := t) h4 hK ?_
  intro p l e R s m args below meth c A Q d fr go cl lv st h r hX
  obtain ⟨o, u, rfl, h2⟩ := mx_po hX
  cases o with
  | none =>
    refine ⟨u, t, Or.inl ⟨rfl, by rw [← hkey]; exact h2⟩, fun ad H locs ls vs cells slots hv kk => ?_⟩
    obtain ⟨w, vt, rfl, hw, hv⟩ := hv
    cases (show w = .null from hw)
    exact lv_ifnullN fr.1 fr.2.1 hd ht (kk _ hv)
  | some q =>
    refine ⟨u, pc + 3, Or.inr ⟨rfl, h2⟩, fun ad H locs ls vs cells slots hv kk => ?_⟩
    obtain ⟨w, vt, rfl, ⟨a, -, rfl⟩, hv⟩ := hv
    exact lv_ifnull fr.1 fr.2.1 hd (kk _ hv)
theorem ok_ifnn {t key : Nat} {off : Int} (hd : decode M.2.1 pc = .ok (.ifnonnull off, 3)) (ht : (pc : Int) + off = (t : Int)) (h4 : t < 4096) (hkey : key = 4096 * k + t) (hK : m_ok Γ tab k M (pc + 3) K) : m_ok Γ tab k M pc (x_ifnn key K) := by
  refine ok_jump (t := t) h4 hK ?_
  intro p l e R s m args below meth c A Q d fr go cl lv st h r hX
  obtain ⟨o, u, rfl, h2⟩ := mx_po hX
  cases o with
  | none =>
    refine ⟨u, pc + 3, Or.inr ⟨rfl, h2⟩, fun ad H locs ls vs cells slots hv kk => ?_⟩
    obtain ⟨w, vt, rfl, hw, hv⟩ := hv
    cases (show w = .null from hw)
    exact lv_ifnonnullN fr.1 fr.2.1 hd (kk _ hv)
  | some q =>
    refine ⟨u, t, Or.inl ⟨rfl, by rw [← hkey]; exact h2⟩, fun ad H locs ls vs cells slots hv kk => ?_⟩
    obtain ⟨w, vt, rfl, ⟨a, -, rfl⟩, hv⟩ := hv
    exact lv_ifnonnull fr.1 fr.2.1 hd ht (kk _ hv)
theorem ok_tsw {lo dk len : Nat} {ts : List Nat} {dflt lo' hi' : Int} {offs : Array Int} (hd : decode M.2.1 pc = .ok (.tableswitch dflt lo' hi' offs, len)) (hlo : lo' = lo) (hhi : hi' = lo + ts.length - 1) (hts : ts.all (fun t => Nat.ble (4096 * k) t && Nat.ble (Nat.succ t) (4096 * k + 4096)) = true) (hof : offs.toList = ts.map (fun t : Nat => (t : Int) - ((4096 * k : Nat) : Int) - (pc : Int))) (hdk : 4096 * k ≤ dk) (hdk4 : dk < 4096 * k + 4096) (hdf : dflt = (dk : Int) - (4096 * k : Nat) - pc) (hsm : lo + ts.length < 2147483648) : m_ok Γ tab k M pc (x_tsw lo ts dk) := by
  intro p l e R s m args below meth c A Q ad0 h0 d fr r h' hq go cl hgo hcl lv st h hX
  obtain ⟨a, u, rfl, h2⟩ := mx_pi hX
  have hI := mn_toInt a
  have hsg : m_sg a = (a + 2147483648) % 4294967296 := rfl
  have out : (¬ lo ≤ a % 4294967296 ∨ ¬ a % 4294967296 < lo + ts.length) → go dk lv u h = some (r, h') → m_tg Γ M p l e R s m args below meth c A Q ad0 h0 pc lv (.inl a :: u) h h' := by
    intro hout hg
    obtain ⟨t, ht⟩ : ∃ t, dk = 4096 * k + t := ⟨dk - 4096 * k, by omega⟩
    subst ht
    obtain ⟨g1, g2, g3⟩ := hgo t lv u h (by omega) hg
    refine ⟨g1, g2, fun a1 a2 a3 a4 ad ws tys H locs ls vs hh hl hv => ?_⟩
    obtain ⟨w, vt, rfl, hw, hv⟩ := hv
    cases (show w = .int (nI a) from hw)
    refine lv_tableOut fr.1 fr.2.1 hd ?_ (tgt := t) (by omega) (g3 a1 a2 a3 a4 ad ws tys H locs ls vt hh hl hv)
    rw [hI, hlo, hhi, hsg]
    omega
  rcases mx_if h2 with ⟨h3, h4⟩ | ⟨h3, h4⟩
  · replace h3 : lo ≤ a % 4294967296 := Nat.le_of_ble_eq_true h3
    rcases mx_if h4 with ⟨h5, h6⟩ | ⟨h5, h6⟩
    · replace h5 : a % 4294967296 < lo + ts.length := Nat.le_of_ble_eq_true h5
      obtain ⟨tk, h7, h8⟩ := mx_get h6
      replace h7 : ts[a % 4294967296 - lo]? = some tk := h7
      have hb2 := List.all_eq_true.mp hts tk (List.mem_of_getElem? h7)
      rw [Bool.and_eq_true] at hb2
      have hge : 4096 * k ≤ tk := Nat.le_of_ble_eq_true hb2.1
      have hge2 : tk < 4096 * k + 4096 := Nat.le_of_ble_eq_true hb2.2
      obtain ⟨t, ht⟩ : ∃ t, tk = 4096 * k + t := ⟨tk - 4096 * k, by omega⟩
      subst ht
      obtain ⟨g1, g2, g3⟩ := hgo t lv u h (by omega) h8
      refine ⟨g1, g2, fun a1 a2 a3 a4 ad ws tys H locs ls vs hh hl hv => ?_⟩
      obtain ⟨w, vt, rfl, hw, hv⟩ := hv
      cases (show w = .int (nI a) from hw)
      refine lv_tableIn (off := ((4096 * k + t : Nat) : Int) - (4096 * k : Nat) - pc) (tgt := t) fr.1 fr.2.1 hd (by rw [hI, hlo, hsg]; omega) (by rw [hI, hhi, hsg]; omega) ?_ (by omega) (g3 a1 a2 a3 a4 ad ws tys H locs ls vt hh hl hv)
      have hz : (nI a).toInt = ((a % 4294967296 : Nat) : Int) := by rw [hI, hsg]; omega
      have hn : ((nI a).toInt - lo').toNat = a % 4294967296 - lo := by
        rw [hz, hlo]
        generalize a % 4294967296 = z at h3 ⊢
        omega
      rw [hn, ← Array.getElem?_toList, hof, List.getElem?_map, h7]
      rfl
    · exact out (Or.inr (fun z => by rw [Nat.ble_eq_true_of_le (show Nat.succ (Nat.mod a 4294967296) ≤ Nat.add lo ts.length from z)] at h5; cases h5)) h6
  · exact out (Or.inl (fun z => by rw [Nat.ble_eq_true_of_le (show lo ≤ Nat.mod a 4294967296 from z)] at h3; cases h3)) h4
/-- a step that changes the cells -/
theorem ok_gen {X : m_X} {pc2 : Nat} (hK : m_ok Γ tab k M pc2 K)
    (hs : ∀ (p : Program) (l : Launch) (e : Env) (R : Room) (s : State) (m : MethodId) (args : Array Value) (below : List Frame) (meth : Method) (c : Code) (A : Nat → Prop) (Q : State → Prop) (d : Nat), m_fr Γ M p l e R s m args meth c A d → ∀ (go : m_I) (cl : m_C), m_ck Γ l tab d cl → ∀ (lv st : List m_V) (h : m_H) (r : Option m_V × m_H), X go cl lv st h = some r →
      ∃ lv2 st2 h2, K go cl lv2 st2 h2 = some r ∧ h.1 ≤ h2.1 ∧ h.2.1 ≤ h2.2.1 ∧ ∀ (ad : List Nat) (ws : va_W) (tys : List (ClassId × FieldType)) (H : Heap) (locs : List Loc) (ls : Array Slot) (vs : List Value) (ad0 : List Nat) (cells slots : Nat), m_hh Γ s A ad0 h ad ws tys H locs → m_rl Γ ad M.2.2.1 lv ls → m_rs Γ ad st vs → cells + (h2.1 - h.1) ≤ R.cells → slots + (h2.2.1 - h.2.1) ≤ R.slots →
        (∀ (ad2 : List Nat) (ws2 : va_W) (tys2 : List (ClassId × FieldType)) (H2 : Heap) (locs2 : List Loc) (ls2 : Array Slot) (vs2 : List Value), m_hh Γ s A ad0 h2 ad2 ws2 tys2 H2 locs2 → m_rl Γ ad2 M.2.2.1 lv2 ls2 → m_rs Γ ad2 st2 vs2 → W p l e R s m args below meth c H2 locs2 (cells + (h2.1 - h.1)) (slots + (h2.2.1 - h.2.1)) Q (F0 m pc2 ls2 vs2)) → W p l e R s m args below meth c H locs cells slots Q (F0 m pc ls vs)) : m_ok Γ tab k M pc X := by
  intro p l e R s m args below meth c A Q ad0 h0 d fr r h' hq go cl hgo hcl lv st h hX
  obtain ⟨lv2, st2, h2, h1, i1, i2, h3⟩ := hs p l e R s m args below meth c A Q d fr go cl hcl lv st h _ hX
  obtain ⟨g1, g2, g3⟩ := hK p l e R s m args below meth c A Q ad0 h0 d fr r h' hq go cl hgo hcl lv2 st2 h2 h1
  refine ⟨Nat.le_trans i1 g1, Nat.le_trans i2 g2, fun a1 a2 a3 a4 ad ws tys H locs ls vs hh hl hv => ?_⟩
  have e1 : h.1 - h0.1 + (h2.1 - h.1) = h2.1 - h0.1 := by omega
  have e2 : h.2.1 - h0.2.1 + (h2.2.1 - h.2.1) = h2.2.1 - h0.2.1 := by omega
  refine h3 ad ws tys H locs ls vs ad0 _ _ hh hl hv (by omega) (by omega) (fun ad2 ws2 tys2 H2 locs2 ls2 vs2 b1 b2 b3 => ?_)
  rw [e1, e2]
  exact g3 (by omega) (by omega) a3 a4 ad2 ws2 tys2 H2 locs2 ls2 vs2 b1 b2 b3
theorem hh_obj {s : State} {A : Nat → Prop} {ad0 ad : List Nat} {h : m_H} {ws : va_W} {tys : List (ClassId × FieldType)} {H : Heap} {locs : List Loc} {q c : Nat} {fs : List m_V} (hh : m_hh Γ s A ad0 h ad ws tys H locs) (he : m_at h.2.2 q = some (.inr (.inr (c, fs)))) : ∃ a gs, ad[q]? = some a ∧ ws[q]? = some (a, .inr (c, gs)) ∧ m_rs Γ ad fs gs := by
  obtain ⟨a, w, g1, g2, gs, rfl, g3⟩ := hh.2.1.2.2.2 q _ he
  exact ⟨a, gs, g1, g2, g3⟩
theorem ml_getf {cs : Nat → Bool} {j : Nat} {go : m_I} {cl : m_C} {lv st : List m_V} {h : m_H} {r : Option m_V × m_H} (hX : x_getf cs j K go cl lv st h = some r) : ∃ q t c fs v, st = .inr (.inl (some q)) :: t ∧ m_at h.2.2 q = some (.inr (.inr (c, fs))) ∧ cs c = true ∧ fs[j]? = some v ∧ K go cl lv (v :: t) h = some r := by
  obtain ⟨q, t, rfl, h2⟩ := mx_pr hX
  obtain ⟨e, h3, h4⟩ := mx_hg h2
  obtain ⟨c, fs, rfl, h5⟩ := mx_obj h4
  obtain ⟨h6, h7⟩ := mx_ift h5
  obtain ⟨v, h8, h9⟩ := mx_get h7
  exact ⟨q, t, c, fs, v, rfl, h3, h6, h8, h9⟩
theorem ok_getf {cs : Nat → Bool} {j i : Nat} {ref nm ds : String} (hd : decode M.2.1 pc = .ok (.getfield i, 3)) (hw : Cond.fieldLink M.1.cls i ref nm ds ∈ m_T) (hcs : ∀ c, cs c = true → m_fo c j ref nm ds) (hK : m_ok Γ tab k M (pc + 3) K) : m_ok Γ tab k M pc (x_getf cs j K) := by
  refine ok_step hK ?_
  intro p l e R s m args below meth c A Q d fr go cl lv st h r hX
  obtain ⟨q, t, ci, fs, v, rfl, h3, h6, h8, h9⟩ := ml_getf hX
  refine ⟨lv, _, h9, fun ad ws tys H locs ls vs ad0 cells slots _ _ hh hl hv kk => ?_⟩
  obtain ⟨w, vt, rfl, ⟨a, ha, rfl⟩, hv⟩ := hv
  obtain ⟨a2, gs, g1, g2, g3⟩ := hh_obj hh h3
  cases ha.symm.trans g1
  obtain ⟨x, hx, hxv⟩ := ms_get g3 h8
  obtain ⟨C, T, N, f1, f2, f3, rfl, rfl, f4⟩ := hcs ci h6
  refine va_get (ref := ref) fr.1 fr.2.1 fr.2.2.2.2.1 f2 fr.2.2.2.1 hh.2.2.2.1 hh.2.2.1 q g2 f1 j f3 (fr.2.2.2.2.1 _ hw) (fun y hy => ?_) hx hd (kk ls _ hl ⟨_, _, rfl, hxv, hv⟩)
  rcases f4 with f4 | f4
  · rw [← f4]; exact hy
  · exact u_same (fr.2.2.2.2.1 _ f4) y hy
theorem ok_getfN {cs : Nat → Bool} {j i : Nat} {ref nm ds host : String} (hd : decode M.2.1 pc = .ok (.getfield i, 3)) (hw : (M.1.cls, i, ref, nm, ds, host) ∈ m_nestF) (hcs : ∀ c, cs c = true → m_fo c j ref nm ds) (hK : m_ok Γ tab k M (pc + 3) K) : m_ok Γ tab k M pc (x_getf cs j K) := by
  refine ok_step hK ?_
  intro p l e R s m args below meth c A Q d fr go cl lv st h r hX
  obtain ⟨q, t, ci, fs, v, rfl, h3, h6, h8, h9⟩ := ml_getf hX
  refine ⟨lv, _, h9, fun ad ws tys H locs ls vs ad0 cells slots _ _ hh hl hv kk => ?_⟩
  obtain ⟨w, vt, rfl, ⟨a, ha, rfl⟩, hv⟩ := hv
  obtain ⟨a2, gs, g1, g2, g3⟩ := hh_obj hh h3
  cases ha.symm.trans g1
  obtain ⟨x, hx, hxv⟩ := ms_get g3 h8
  obtain ⟨C, T, N, f1, f2, f3, rfl, rfl, f4⟩ := hcs ci h6
  have hE := fr.2.2.2.2.2.2.2.2.2.1
  refine va_getN (ref := ref) (host := host) fr.1 fr.2.1 fr.2.2.2.2.1 f2 fr.2.2.2.1 hh.2.2.2.1 hh.2.2.1 q g2 f1 j f3 (va_Nw.use rfl (hE.2.2.2.2.1 _ hw)) (fun y hy => ?_) hx hd (kk ls _ hl ⟨_, _, rfl, hxv, hv⟩)
  rcases f4 with f4 | f4
  · rw [← f4]; exact hy
  · exact u_same (fr.2.2.2.2.1 _ f4) y hy
theorem ml_putf {cs : Nat → Bool} {ty : m_V → Bool} {j : Nat} {go : m_I} {cl : m_C} {lv st : List m_V} {h : m_H} {r : Option m_V × m_H} (hX : x_putf cs ty j K go cl lv st h = some r) : ∃ v q t c fs l', st = v :: .inr (.inl (some q)) :: t ∧ ty v = true ∧ m_at h.2.2 q = some (.inr (.inr (c, fs))) ∧ cs c = true ∧ j < fs.length ∧ m_at l' q = some (.inr (.inr (c, fs.set j v))) ∧ (∀ p, p ≠ q → m_at l' p = m_at h.2.2 p) ∧ (∀ a, m_wf h.2.2 a → m_wf l' a) ∧ K go cl lv t (h.1, h.2.1, l') = some r := by
  obtain ⟨v, t, rfl, h2⟩ := mx_pv hX
  obtain ⟨h3, h4⟩ := mx_ift h2
  obtain ⟨q, t, rfl, h5⟩ := mx_pr h4
  replace h5 : m_hg h.2.2 q (fun e => m_obj e (fun c fs => m_if (cs c) (m_if (Nat.ble (Nat.succ j) fs.length) (m_set fs j v (fun fs' => m_hs h.2.2 q (.inr (.inr (c, fs'))) (fun l' => K go cl lv t (h.1, h.2.1, l')))) none) none)) = some r := h5
  obtain ⟨e, h6, h7⟩ := mx_hg h5
  obtain ⟨c, fs, rfl, h8⟩ := mx_obj h7
  obtain ⟨h9, h10⟩ := mx_ift h8
  obtain ⟨h11, h12⟩ := mx_ift h10
  rw [mi_set] at h12
  obtain ⟨l', h13, h14, h15, h16⟩ := mx_hs h12 h6
  exact ⟨v, q, t, c, fs, l', rfl, h3, h6, h9, Nat.le_of_ble_eq_true h11, h14, h15, h16, h13⟩
/-- what may be written in a field of a type -/
def m_vt (f : m_V → Bool) (ty : FieldType) : Prop := ∀ (Γ : m_G) (ad : List Nat) (v : m_V) (w : Value), f v = true → m_rv Γ ad v w → narrow ty w = w ∧ fits ty w = true
theorem ok_putf {cs : Nat → Bool} {tf : m_V → Bool} {ty : FieldType} {j i : Nat} {ref nm ds : String} (hd : decode M.2.1 pc = .ok (.putfield i, 3)) (hw : Cond.fieldLink M.1.cls i ref nm ds ∈ m_T) (hcs : ∀ c, cs c = true → m_fp M c j ref nm ds) (hty : parseFieldDescriptor ds = some ty) (hvt : m_vt tf ty) (hK : m_ok Γ tab k M (pc + 3) K) : m_ok Γ tab k M pc (x_putf cs tf j K) := by
  refine ok_gen hK ?_
  intro p l e R s m args below meth c A Q d fr go cl hck lv st h r hX
  obtain ⟨v, q, t, ci, fs, l', rfl, h3, h6, h9, h11, h14, h15, h16, h13⟩ := ml_putf hX
  refine ⟨lv, t, _, h13, Nat.le_refl _, Nat.le_refl _, fun ad ws tys H locs ls vs ad0 cells slots hh hl hv hc1 hc2 kk => ?_⟩
  obtain ⟨x, vt, rfl, hxv, hv⟩ := hv
  obtain ⟨w, vt, rfl, ⟨a, ha, rfl⟩, hv⟩ := hv
  obtain ⟨a2, gs, g1, g2, g3⟩ := hh_obj hh h6
  cases ha.symm.trans g1
  obtain ⟨C, T, N, ty0, f1, f2, f3, rfl, rfl, rfl, f7, f8, f9⟩ := hcs ci h9
  obtain ⟨n1, n2⟩ := hvt Γ ad v x h3 hxv
  have hjl : j < gs.length := by rw [ms_len g3]; exact h11
  have hq := mw_lt hh.2.1.2.2.1 h6
  have fin : ∀ (H1 : Heap) (locs1 : List Loc), va_P Γ.1 vwCl (ws.set q (a, .inr (ci, gs.set j x))) H1 → va_D A (ws.set q (a, .inr (ci, gs.set j x))) → va_S A s.heap H1 locs1 → W p l e R s m args below meth c H1 locs1 cells slots Q (F0 m (pc + 3) ls vt) := by
    intro H1 locs1 hP1 hD1 hS1
    have := kk ad _ tys H1 locs1 ls vt (hh_set (w0 := .inr (ci, gs)) hh hq ha h14 h15 h16 ⟨_, rfl, ms_set j g3 hxv⟩ hP1 hD1 hS1) hl hv
    simpa using this
  rcases f9 with f9 | ⟨f9, f10, f11⟩
  · exact va_put (ref := (T j).1) fr.1 fr.2.1 fr.2.2.2.2.1 f2 ty0 f7 f8 fr.2.2.2.1 hh.2.2.2.1 hh.2.2.1 hh.2.2.2.2.1 hh.2.2.2.2.2 q g2 f1 j f3 (fr.2.2.2.2.1 _ hw) (fun y hy => hy) f9 hty n1 n2 hjl hd fin
  · exact va_putF (ref := (T j).1) fr.1 fr.2.1 fr.2.2.2.2.1 f2 ty0 f7 f8 fr.2.2.2.1 hh.2.2.2.1 hh.2.2.1 hh.2.2.2.2.1 hh.2.2.2.2.2 q g2 f1 j f3 (fr.2.2.2.2.1 _ hw) (fun y hy => hy) f9 (fr.2.2.2.2.2.2.2.1 f10) f11 hty n1 n2 hjl hd fin
theorem ok_putfN {cs : Nat → Bool} {tf : m_V → Bool} {ty : FieldType} {j i : Nat} {ref nm ds host : String} (hd : decode M.2.1 pc = .ok (.putfield i, 3)) (hw : (M.1.cls, i, ref, nm, ds, host) ∈ m_nestF) (hcs : ∀ c, cs c = true → m_fp M c j ref nm ds) (hnf : ref ≠ M.1.cls) (hty : parseFieldDescriptor ds = some ty) (hvt : m_vt tf ty) (hK : m_ok Γ tab k M (pc + 3) K) : m_ok Γ tab k M pc (x_putf cs tf j K) := by
  refine ok_gen hK ?_
  intro p l e R s m args below meth c A Q d fr go cl hck lv st h r hX
  obtain ⟨v, q, t, ci, fs, l', rfl, h3, h6, h9, h11, h14, h15, h16, h13⟩ := ml_putf hX
  refine ⟨lv, t, _, h13, Nat.le_refl _, Nat.le_refl _, fun ad ws tys H locs ls vs ad0 cells slots hh hl hv hc1 hc2 kk => ?_⟩
  obtain ⟨x, vt, rfl, hxv, hv⟩ := hv
  obtain ⟨w, vt, rfl, ⟨a, ha, rfl⟩, hv⟩ := hv
  obtain ⟨a2, gs, g1, g2, g3⟩ := hh_obj hh h6
  cases ha.symm.trans g1
  obtain ⟨C, T, N, ty0, f1, f2, f3, rfl, rfl, rfl, f7, f8, f9⟩ := hcs ci h9
  obtain ⟨n1, n2⟩ := hvt Γ ad v x h3 hxv
  have hjl : j < gs.length := by rw [ms_len g3]; exact h11
  have hq := mw_lt hh.2.1.2.2.1 h6
  have hE := fr.2.2.2.2.2.2.2.2.2.1
  have fin : ∀ (H1 : Heap) (locs1 : List Loc), va_P Γ.1 vwCl (ws.set q (a, .inr (ci, gs.set j x))) H1 → va_D A (ws.set q (a, .inr (ci, gs.set j x))) → va_S A s.heap H1 locs1 → W p l e R s m args below meth c H1 locs1 cells slots Q (F0 m (pc + 3) ls vt) := by
    intro H1 locs1 hP1 hD1 hS1
    have := kk ad _ tys H1 locs1 ls vt (hh_set (w0 := .inr (ci, gs)) hh hq ha h14 h15 h16 ⟨_, rfl, ms_set j g3 hxv⟩ hP1 hD1 hS1) hl hv
    simpa using this
  rcases f9 with f9 | ⟨f9, f10, f11⟩
  · exact va_putN (ref := (T j).1) (host := host) fr.1 fr.2.1 fr.2.2.2.2.1 f2 ty0 f7 f8 fr.2.2.2.1 hh.2.2.2.1 hh.2.2.1 hh.2.2.2.2.1 hh.2.2.2.2.2 q g2 f1 j f3 (va_Nw.use rfl (hE.2.2.2.2.1 _ hw)) (fun y hy => hy) f9 hty n1 n2 hjl hd fin
  · exact absurd f11 hnf
end OK3
