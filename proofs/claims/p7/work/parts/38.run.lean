/-! THE PLAIN MACHINE'S RUNS are the real one's: calls are contracts -/
theorem lg_one : ∀ (vs : List Value), (∀ v ∈ vs, v.category = 1) → (lg_sl vs).length = vs.length := by
  intro vs
  induction vs with
  | nil => intro _; rfl
  | cons v vs ih =>
    intro h
    have h1 := h v List.mem_cons_self
    have h2 := ih (fun x hx => h x (List.mem_cons_of_mem _ hx))
    unfold lg_sl at h2 ⊢
    rw [List.flatMap_cons, List.length_append, h2]
    simp [h1]
    omega
theorem lv_one : ∀ (vs : List Value) (j : Nat), (∀ v ∈ vs, v.category = 1) → ∀ (i : Nat) (w : Value), vs[i]? = some w → (j + i, w) ∈ lv_args j vs := by
  intro vs
  induction vs with
  | nil => intro j _ i w h; simp at h
  | cons v vs ih =>
    intro j h i w hw
    have h1 := h v List.mem_cons_self
    have e : lv_args j (v :: vs) = (j, v) :: lv_args (j + 1) vs := by
      show (j, v) :: lv_args (if v.category = 2 then j + 2 else j + 1) vs = _
      rw [if_neg (by rw [h1]; decide)]
    rw [e]
    cases i with
    | zero => cases hw; exact List.mem_cons_self
    | succ i =>
      refine List.mem_cons_of_mem _ ?_
      have := ih (j + 1) (fun x hx => h x (List.mem_cons_of_mem _ hx)) i w hw
      rw [show j + (i + 1) = j + 1 + i by omega]
      exact this
theorem ms_cat {Γ : m_G} {ad : List Nat} : ∀ {as : List m_V} {vs : List Value}, m_rs Γ ad as vs → (∀ v ∈ as, m_cat v) → ∀ v ∈ vs, v.category = 1 := by
  intro as
  induction as with
  | nil => intro vs h _ v hv; rw [show vs = [] from h] at hv; cases hv
  | cons a as ih =>
    intro vs h hc v hv
    obtain ⟨w, t, rfl, h1, h2⟩ := h
    rcases List.mem_cons.mp hv with rfl | hv
    · exact mv_cat h1 (hc a List.mem_cons_self)
    · exact ih h2 (fun x hx => hc x (List.mem_cons_of_mem _ hx)) v hv
theorem ml_entry {Γ : m_G} {ad : List Nat} {as : List m_V} {vs : List Value} {n : Nat} (h : m_rs Γ ad as vs) (hc : ∀ v ∈ as, m_cat v) (hn : as.length ≤ n) : m_rl Γ ad n (as ++ m_un (n - as.length)) ((lg_sl vs ++ List.replicate (n - (lg_sl vs).length) Slot.unset).toArray) := by
  have hv := ms_cat h hc
  have hlen := ms_len h
  obtain ⟨h1, h2, h3⟩ := lv_entry vs (n := n) (by rw [lg_one vs hv]; omega)
  refine ⟨h1, h2, fun i v hi hcv => ?_⟩
  by_cases hl : i < as.length
  · rw [List.getElem?_append_left hl] at hi
    obtain ⟨w, g1, g2⟩ := ms_get h hi
    have := h3 (0 + i, w) (lv_one vs 0 hv i w g1)
    rw [Nat.zero_add] at this
    exact ⟨w, this, g2⟩
  · rw [List.getElem?_append_right (by omega)] at hi
    have hm := List.mem_of_getElem? hi
    unfold m_un at hm
    rw [List.eq_of_mem_replicate hm] at hcv
    exact absurd rfl (hcv 0)
theorem mx_call {cg : Nat → m_X} {n d key : Nat} {lv : List m_V} {h : m_H} {r : Option m_V × m_H} (hX : (Nat.rec (motive := fun _ => m_R) none (fun d' _ => m_run cg n d' key lv [] h) d : m_R) = some r) : ∃ d', d = d' + 1 ∧ m_run cg n d' key lv [] h = some r := by
  cases d with
  | zero => cases hX
  | succ d' => exact ⟨d', rfl, hX⟩
/-- the table of methods is sound: names can be called, no law among them -/
def m_tk (tab : Nat → Option m_M) : Prop := ∀ (k : Nat) (M : m_M), tab k = some M → k ≠ 0 → plainFor M.1 = true ∧ M.1.cls ≠ "NeverLikeLaw"
theorem ck_of {Γ : m_G} {tab : Nat → Option m_M} {cg : Nat → m_X} (htk : m_tk tab) {n : Nat} (ih : ∀ (d k pc : Nat) (M : m_M) (lv st : List m_V) (h : m_H) (r : Option m_V) (h' : m_H), tab k = some M → pc < 4096 → m_run cg n d (4096 * k + pc) lv st h = some (r, h') →
    ∀ (p : Program) (l : Launch) (e : Env) (R : Room) (s : State) (m : MethodId) (args : Array Value) (below : List Frame) (meth : Method) (c : Code) (A : Nat → Prop) (Q : State → Prop) (ad0 : List Nat) (h0 : m_H), m_fr Γ M p l e R s m args meth c A d → m_hq Γ M p l e R s m args below meth c A Q ad0 h0 r h' → m_tg Γ M p l e R s m args below meth c A Q ad0 h0 pc lv st h h') (l : Launch) (d : Nat) :
    m_ck Γ l tab d (fun key' lv' h' => (Nat.rec (motive := fun _ => m_R) none (fun d' _ => m_run cg n d' key' lv' [] h') d : m_R)) := by
    intro k2 M2 as h2 h3 r2 hk0 hk2 has hcat hcl
    obtain ⟨d', rfl, hrun⟩ := mx_call hcl
    refine ⟨d', rfl, ?_⟩
    intro ad ws tys sz vs hvs hrh
    obtain ⟨hpl, hnl⟩ := htk k2 M2 hk2 hk0
    refine va_MetF (cc := M2.2.1) (maxL := M2.2.2.1) (ret := M2.2.2.2) hpl rfl ?_
    intro p e s m args below meth c s₁ B hml hv
    obtain ⟨rfl, hsz, hP, hK, hD0, hE⟩ := hv
    subst hsz
    have hts := atoms_spec (ws := m_w M2) B.pre
    have hD : va_D (va_A ws s.heap.size) ws := hD0.self
    have hA : ∀ q : Nat, s.heap.size ≤ q → va_A ws s.heap.size q := fun q h => Or.inr h
    have fr2 : m_fr Γ M2 p l e (headSpec (m_w M2) (m_rm d' (h3.1 - h2.1) (h3.2.1 - h2.2.1))).room s m vs.toArray meth c (va_A ws s.heap.size) d' := ⟨B.exec, B.bytes, hml, findClass_of_methodNamed B.named, fun w hw => hts w (List.mem_cons_of_mem _ hw), B.notSynchronized, B.returns, fun hn => (name_of_methodNamed B.named B.method).1.trans hn, hA, hE, Nat.le_refl _, Nat.le_refl _, fun hl => absurd hl hnl⟩
    have hq2 : m_hq Γ M2 p l e (headSpec (m_w M2) (m_rm d' (h3.1 - h2.1) (h3.2.1 - h2.2.1))).room s m vs.toArray below meth c (va_A ws s.heap.size) (MQ below (m_Qc Γ ad ws s.heap.size r2 h3) vs.toArray s (h3.1 - h2.1) (h3.2.1 - h2.2.1) (va_A ws s.heap.size)) ad h2 r2 h3 := by
      intro i ad2 ws2 tys2 H2 locs2 ls2 pc2 w hh a1 a2 a3 a4 hro hri hdec
      have hQc : ∀ t : State, t.heap = H2 → s.WarmedH t.vm → m_Qc Γ ad ws s.heap.size r2 h3 vs.toArray s (.returned w) t := fun t ht hW => ⟨⟨w, ad2, ws2, tys2, rfl, hro, hh.1, hh.2.1, by rw [ht]; exact hh.2.2.1, va_K.moved hW.alike hh.2.2.2.1, hh.2.2.2.2.1⟩, hh.2.2.2.2.2.F ht⟩
      have hlocs := hh.2.2.2.2.2.2.2
      have hlk := B.notSynchronized
      rcases r2 with _ | (nn | o | nn | sp)
      · cases (show w = none from hro)
        obtain ⟨rfl, hr⟩ := hri
        exact W.vret (cc := M2.2.1) B.exec B.bytes (B.returns.trans hr) hQc hlocs hdec hlk
      · obtain ⟨x, rfl, hx⟩ := hro
        cases (show x = .int (nI nn) from hx)
        obtain ⟨rfl, ty, hr, hnar⟩ := hri
        exact W.zret (cc := M2.2.1) (ty := ty) B.exec B.bytes (B.returns.trans hr) hnar hQc hlocs hdec hlk
      · obtain ⟨x, rfl, hx⟩ := hro
        obtain ⟨rfl, ty, hr, hty⟩ := hri
        exact W.aret (cc := M2.2.1) (rt := ty) B.exec B.bytes (B.returns.trans hr) hty (mv_ref hx) hQc hlocs hdec hlk
      · obtain ⟨x, rfl, hx⟩ := hro
        cases (show x = .long (lN nn) from hx)
        obtain ⟨rfl, hr⟩ := hri
        exact W.lret (cc := M2.2.1) B.exec B.bytes (B.returns.trans hr) hQc hlocs hdec hlk
      · exact hri.elim
    have key := ih d' k2 0 M2 (as ++ m_un (M2.2.2.1 - as.length)) [] h2 r2 h3 hk2 (by decide) hrun p l e _ s m vs.toArray below meth c (va_A ws s.heap.size) _ ad h2 fr2 hq2
    obtain ⟨-, -, g3⟩ := key
    have := g3 (Nat.le_refl _) (Nat.le_refl _) (Nat.le_refl _) (Nat.le_refl _) ad ws tys s.heap [] _ [] ⟨mp_rf ad, hrh, hP, hK, hD, va_S.rf⟩ (ml_entry hvs hcat has) rfl
    rw [Nat.sub_self, Nat.sub_self] at this
    rw [lg_entry_eq]
    exact this
theorem run_ok {Γ : m_G} {tab : Nat → Option m_M} {cg : Nat → m_X} (hcg : ∀ (k pc : Nat) (M : m_M), tab k = some M → pc < 4096 → m_ok Γ tab k M pc (cg (4096 * k + pc))) (htk : m_tk tab) : ∀ (n d k pc : Nat) (M : m_M) (lv st : List m_V) (h : m_H) (r : Option m_V) (h' : m_H), tab k = some M → pc < 4096 → m_run cg n d (4096 * k + pc) lv st h = some (r, h') →
    ∀ (p : Program) (l : Launch) (e : Env) (R : Room) (s : State) (m : MethodId) (args : Array Value) (below : List Frame) (meth : Method) (c : Code) (A : Nat → Prop) (Q : State → Prop) (ad0 : List Nat) (h0 : m_H), m_fr Γ M p l e R s m args meth c A d → m_hq Γ M p l e R s m args below meth c A Q ad0 h0 r h' → m_tg Γ M p l e R s m args below meth c A Q ad0 h0 pc lv st h h' := by
  intro n
  induction n with
  | zero => intro d k pc M lv st h r h' _ _ hX; cases hX
  | succ n ih =>
    intro d k pc M lv st h r h' hk hpc hX p l e R s m args below meth c A Q ad0 h0 fr hq
    replace hX : cg (4096 * k + pc) (m_run cg n d) (fun key' lv' h' => Nat.rec (motive := fun _ => m_R) none (fun d' _ => m_run cg n d' key' lv' [] h') d) lv st h = some (r, h') := hX
    exact hcg k pc M hk hpc p l e R s m args below meth c A Q ad0 h0 d fr r h' hq (m_run cg n d) _ (fun t lv st h ht hg => ih d k t M lv st h r h' hk ht hg p l e R s m args below meth c A Q ad0 h0 fr hq) (ck_of htk ih l d) lv st h hX
/-- the law's own run: N how far its calls go -/
noncomputable def m_lr (tl : Nat → m_X) (cg : Nat → m_X) (N d n : Nat) : m_I :=
  Nat.rec (motive := fun _ => m_I) (fun _ _ _ _ => none) (fun _ ih key lv st h => tl key ih (fun key' lv' h' => m_run cg N d key' lv' [] h') lv st h) n
theorem lr_ok {Γ : m_G} {tab : Nat → Option m_M} {tl cg : Nat → m_X} {M : m_M} (hM : tab 0 = some M) (htl : ∀ pc : Nat, pc < 4096 → m_ok Γ tab 0 M pc (tl (4096 * 0 + pc))) (hcg : ∀ (k pc : Nat) (M : m_M), tab k = some M → pc < 4096 → m_ok Γ tab k M pc (cg (4096 * k + pc))) (htk : m_tk tab) {N d : Nat} : ∀ (n pc : Nat) (lv st : List m_V) (h : m_H) (r : Option m_V) (h' : m_H), pc < 4096 → m_lr tl cg N d n (4096 * 0 + pc) lv st h = some (r, h') →
    ∀ (p : Program) (l : Launch) (e : Env) (R : Room) (s : State) (m : MethodId) (args : Array Value) (below : List Frame) (meth : Method) (c : Code) (A : Nat → Prop) (Q : State → Prop) (ad0 : List Nat) (h0 : m_H), m_fr Γ M p l e R s m args meth c A (d + 1) → m_hq Γ M p l e R s m args below meth c A Q ad0 h0 r h' → m_tg Γ M p l e R s m args below meth c A Q ad0 h0 pc lv st h h' := by
  intro n
  induction n with
  | zero => intro pc lv st h r h' _ hX; cases hX
  | succ n ih =>
    intro pc lv st h r h' hpc hX p l e R s m args below meth c A Q ad0 h0 fr hq
    exact htl pc hpc p l e R s m args below meth c A Q ad0 h0 (d + 1) fr r h' hq (m_lr tl cg N d n) _ (fun t lv st h ht hg => ih t lv st h r h' ht hg p l e R s m args below meth c A Q ad0 h0 fr hq) (ck_of htk (run_ok hcg htk N) l (d + 1)) lv st h hX
