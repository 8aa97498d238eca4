/-! WHAT HOLDS OF EVERY CELL (written by wip/gen/inv.py) -/
/-- what a run keeps in mind: ints and functions by their numbers -/
abbrev w_G : Type := (Nat → Int) × (Nat → Int → Int) × (Nat → Nat)
/-- what a cell is for, and a length -/
abbrev w_O : Type := Nat → Nat × Nat
def g_H (g : w_G) : Int := g.1 0
def g_C (g : w_G) : Int := g.1 1
def g_N (g : w_G) : Int := g.1 2
def g_np (g : w_G) : Int := g.1 3
def g_nt (g : w_G) : Int := g.1 4
def g_hi (g : w_G) : Int := g.1 5
def g_mH (g : w_G) : Int := g.1 6
def g_mC (g : w_G) : Int := g.1 7
def g_mN (g : w_G) : Int := g.1 8
def g_mnp (g : w_G) : Int := g.1 9
def g_mnt (g : w_G) : Int := g.1 10
def g_mhi (g : w_G) : Int := g.1 11
def g_L (g : w_G) : Int := g.1 12
def g_T (g : w_G) (j : Int) : Int := g.2.1 0 j
def g_PK (g : w_G) (j : Int) : Int := g.2.1 1 j
def g_PN (g : w_G) (j : Int) : Int := g.2.1 2 j
def g_mT (g : w_G) (j : Int) : Int := g.2.1 3 j
def g_mPK (g : w_G) (j : Int) : Int := g.2.1 4 j
def g_mPN (g : w_G) (j : Int) : Int := g.2.1 5 j
def g_mCL (g : w_G) (j : Int) : Int := g.2.1 6 j
def g_rw (g : w_G) : Nat := g.2.2 0
def g_stp (g : w_G) : Nat := g.2.2 1
def g_ahd (g : w_G) : Nat := g.2.2 2
def g_cst (g : w_G) : Nat := g.2.2 3
def g_chp (g : w_G) : Nat := g.2.2 4
/-- a row of deeds: how many values lie on the stack behind n of them; that there always are enough -/
def w_dp (A : Nat) (i : Int) (n : Nat) : Int := Nat.rec (motive := fun _ => Int) 0 (fun k ih => if a_g A (170 * i + k) < 30000 then ih + 1 else if a_g A (170 * i + k) = 30008 ∨ a_g A (170 * i + k) = 30009 then ih else ih - 1) n
def w_rp (A : Nat) (i n : Int) : Prop := 0 ≤ n ∧ n ≤ 170 ∧ ∀ k : Nat, (k : Int) < n → (a_g A (170 * i + k) < 30000 ∨ (1 ≤ w_dp A i k ∧ (a_g A (170 * i + k) = 30008 ∨ a_g A (170 * i + k) = 30009)) ∨ 2 ≤ w_dp A i k)
def w_pw (c n : Int) : Int := c ^ n.toNat
def w_wf (g : w_G) : Prop := 1 ≤ g_H g ∧ g_H g ≤ 6 ∧ 2 ≤ g_C g ∧ g_C g ≤ 5 ∧ g_N g = w_pw (g_C g) (g_H g) ∧ 2 ≤ g_N g ∧ g_N g ≤ 4096 ∧ 0 ≤ g_np g ∧ g_np g ≤ 5 ∧ 1 ≤ g_nt g ∧ g_nt g ≤ 6 ∧ 0 ≤ g_hi g ∧ g_hi g ≤ 1 ∧ (∀ j : Int, 0 ≤ j → j < 6 → 0 ≤ g_T g j ∧ g_T g j ≤ 63) ∧
  1 ≤ g_mH g ∧ g_mH g ≤ 6 ∧ 2 ≤ g_mC g ∧ g_mC g ≤ 5 ∧ g_mN g = w_pw (g_mC g) (g_mH g) ∧ 2 ≤ g_mN g ∧ g_mN g ≤ 4096 ∧ 0 ≤ g_mnp g ∧ g_mnp g ≤ 5 ∧ 1 ≤ g_mnt g ∧ g_mnt g ≤ 6 ∧ 0 ≤ g_mhi g ∧ g_mhi g ≤ 1 ∧ (∀ j : Int, 0 ≤ j → j < 6 → 0 ≤ g_mT g j ∧ g_mT g j ≤ 63) ∧ ∀ j : Int, 0 ≤ j → j < g_mnp g → 0 ≤ g_mPK g j ∧ g_mPK g j ≤ 5 ∧ 0 ≤ g_mPN g j ∧ g_mPN g j ≤ 9
def c_0 (g : w_G) (o : w_O) (q : Nat) (e : m_E) : Prop := e = .inr (.inr (11, [.inr (.inl (some 1)), .inr (.inl (some 5)), .inl (w_i (g_hi g)), .inr (.inl (some 9)), .inr (.inl (some 17)), .inl (w_i (g_np g)), .inr (.inl (some 18)), .inr (.inl (some 23)), .inl (w_i (g_nt g)), .inr (.inl (some 24)), .inr (.inl (some 25)), .inr (.inl (some 26)), .inr (.inl (some 27))]))
def c_1 (g : w_G) (o : w_O) (q : Nat) (e : m_E) : Prop := ∃ kp sp rl : Int, e = .inr (.inr (10, [.inl (w_i (g_H g)), .inl (w_i (g_C g)), .inl (w_i (g_N g)), .inr (.inl (some 2)), .inr (.inl (some 3)), .inr (.inl (some 4)), .inl (w_i kp), .inl (w_i sp), .inl (w_i rl)])) ∧ -2147483648 ≤ kp ∧ kp ≤ 2147483647 ∧ -2147483648 ≤ sp ∧ sp ≤ 2147483647 ∧ -2147483648 ≤ rl ∧ rl ≤ 2147483647 ∧ 0 ≤ rl ∧ rl < g_nt g
def c_2 (g : w_G) (o : w_O) (q : Nat) (e : m_E) : Prop := ∃ A : Nat, e = .inl (false, 6, A) ∧ (∀ j : Int, 0 ≤ j → j < 6 → a_g A j = g_T g j)
def c_3 (g : w_G) (o : w_O) (q : Nat) (e : m_E) : Prop := ∃ A : Nat, e = .inl (false, 6, A) ∧ (∀ j : Int, 0 ≤ j → j < 6 → 0 ≤ a_g A j ∧ a_g A j < g_C g)
def c_4 (g : w_G) (o : w_O) (q : Nat) (e : m_E) : Prop := ∃ A : Nat, e = .inl (false, 6, A)
def c_5 (g : w_G) (o : w_O) (q : Nat) (e : m_E) : Prop := ∃ kp sp rl : Int, e = .inr (.inr (10, [.inl (w_i (4)), .inl (w_i (3)), .inl (w_i (81)), .inr (.inl (some 6)), .inr (.inl (some 7)), .inr (.inl (some 8)), .inl (w_i kp), .inl (w_i sp), .inl (w_i rl)])) ∧ -2147483648 ≤ kp ∧ kp ≤ 2147483647 ∧ -2147483648 ≤ sp ∧ sp ≤ 2147483647 ∧ -2147483648 ≤ rl ∧ rl ≤ 2147483647 ∧ 0 ≤ rl ∧ rl < g_nt g
def c_6 (g : w_G) (o : w_O) (q : Nat) (e : m_E) : Prop := ∃ A : Nat, e = .inl (false, 6, A)
def c_7 (g : w_G) (o : w_O) (q : Nat) (e : m_E) : Prop := ∃ A : Nat, e = .inl (false, 6, A) ∧ (∀ j : Int, 0 ≤ j → j < 6 → g_hi g = 1 → 0 ≤ a_g A j ∧ a_g A j < g_C g)
def c_8 (g : w_G) (o : w_O) (q : Nat) (e : m_E) : Prop := ∃ A : Nat, e = .inl (false, 6, A)
def c_9 (g : w_G) (o : w_O) (q : Nat) (e : m_E) : Prop := ∃ kpr sta fnd kco : Int, e = .inr (.inr (5, [.inr (.inl (some 1)), .inr (.inl (some 10)), .inl (w_i kpr), .inr (.inl (some 11)), .inl (w_i sta), .inr (.inl (some (g_rw g))), .inl (w_i fnd), .inr (.inl (some (g_stp g))), .inr (.inl (some (g_ahd g))), .inr (.inl (some (g_cst g))), .inr (.inl (some (g_chp g))), .inl (w_i kco)])) ∧ -2147483648 ≤ kpr ∧ kpr ≤ 2147483647 ∧ -2147483648 ≤ sta ∧ sta ≤ 2147483647 ∧ -2147483648 ≤ fnd ∧ fnd ≤ 2147483647 ∧ -2147483648 ≤ kco ∧ kco ≤ 2147483647 ∧ 0 ≤ kpr ∧ kpr ≤ 1 ∧ 0 ≤ kco ∧ kco ≤ 1 ∧ 0 ≤ fnd ∧ fnd ≤ g_L g ∧ (sta = -1 ∨ (0 ≤ sta ∧ sta < g_N g ∧ g_N g ≤ g_L g ∧ 1 ≤ fnd))
def c_10 (g : w_G) (o : w_O) (q : Nat) (e : m_E) : Prop := ∃ A : Nat, e = .inl (false, 150, A)
def c_11 (g : w_G) (o : w_O) (q : Nat) (e : m_E) : Prop := ∃ A : Nat, e = .inl (false, 6, A) ∧ (∀ j : Int, 0 ≤ j → j < 6 → 0 ≤ a_g A j ∧ a_g A j < 5)
def c_17 (g : w_G) (o : w_O) (q : Nat) (e : m_E) : Prop := ∃ l : List (Option Nat), e = .inr (.inl (3, 5, l)) ∧ l.length = 5 ∧ (∀ i : Nat, i < 5 → (i : Int) < g_np g → ∃ p : Nat, l[i]? = some (some p) ∧ o p = (120, i)) ∧ ∀ i : Nat, i < 5 → g_np g ≤ i → l[i]? = some none
def c_18 (g : w_G) (o : w_O) (q : Nat) (e : m_E) : Prop := ∃ siz atp tok flt wri : Int, e = .inr (.inr (4, [.inr (.inl (some 19)), .inl (w_i siz), .inr (.inl (some 20)), .inr (.inl (some 21)), .inl (w_i atp), .inl (w_i tok), .inl (w_i flt), .inr (.inl (some 22)), .inl (w_i wri)])) ∧ -2147483648 ≤ siz ∧ siz ≤ 2147483647 ∧ -2147483648 ≤ atp ∧ atp ≤ 2147483647 ∧ -2147483648 ≤ tok ∧ tok ≤ 2147483647 ∧ -2147483648 ≤ flt ∧ flt ≤ 2147483647 ∧ -2147483648 ≤ wri ∧ wri ≤ 2147483647 ∧ 0 ≤ siz ∧ siz ≤ 160 ∧ 0 ≤ atp ∧ atp ≤ 160 ∧ 0 ≤ tok ∧ 0 ≤ wri ∧ wri ≤ 160
def c_19 (g : w_G) (o : w_O) (q : Nat) (e : m_E) : Prop := ∃ A : Nat, e = .inl (false, 160, A) ∧ (∀ j : Int, 0 ≤ j → j < 160 → 0 ≤ a_g A j ∧ a_g A j ≤ 255)
def c_20 (g : w_G) (o : w_O) (q : Nat) (e : m_E) : Prop := ∃ A : Nat, e = .inl (false, 161, A) ∧ (∀ j : Int, 0 ≤ j → j < 161 → 0 ≤ a_g A j)
def c_21 (g : w_G) (o : w_O) (q : Nat) (e : m_E) : Prop := ∃ A : Nat, e = .inl (false, 161, A)
def c_22 (g : w_G) (o : w_O) (q : Nat) (e : m_E) : Prop := ∃ A : Nat, e = .inl (false, 160, A) ∧ (∀ j : Int, 0 ≤ j → j < 160 → 0 ≤ a_g A j)
def c_23 (g : w_G) (o : w_O) (q : Nat) (e : m_E) : Prop := ∃ l : List (Option Nat), e = .inr (.inl (9, 6, l)) ∧ l.length = 6 ∧ (∀ i : Nat, i < 6 → (i : Int) < g_nt g → ∃ p : Nat, l[i]? = some (some p) ∧ (o p).1 = 110) ∧ ∀ i : Nat, i < 6 → g_nt g ≤ i → l[i]? = some none
def c_24 (g : w_G) (o : w_O) (q : Nat) (e : m_E) : Prop := ∃ l : List (Option Nat), e = .inr (.inl (6, 4, l)) ∧ l.length = 4 ∧ ∀ i : Nat, i < 4 → (l[i]? = some none ∨ ∃ p : Nat, l[i]? = some (some p) ∧ (o p).1 = 130)
def c_25 (g : w_G) (o : w_O) (q : Nat) (e : m_E) : Prop := ∃ A : Nat, e = .inl (false, 6, A)
def c_26 (g : w_G) (o : w_O) (q : Nat) (e : m_E) : Prop := ∃ A : Nat, e = .inl (false, 6, A)
def c_27 (g : w_G) (o : w_O) (q : Nat) (e : m_E) : Prop := ∃ A : Nat, e = .inl (false, 6, A)
def c_31 (g : w_G) (o : w_O) (q : Nat) (e : m_E) : Prop := ∃ spr kee rul tpd nxt tok tka val opn hm row ksp kke kru : Int, e = .inr (.inr (12, [.inr (.inl (some 32)), .inr (.inl (some 33)), .inr (.inl (some 34)), .inr (.inl (some 35)), .inr (.inl (some 36)), .inl (w_i (g_mH g)), .inl (w_i (g_mC g)), .inl (w_i spr), .inl (w_i kee), .inl (w_i (g_mnp g)), .inl (w_i rul), .inl (w_i (g_mhi g)), .inr (.inl (some 37)), .inr (.inl (some 50)), .inr (.inl (some 51)), .inr (.inl (some 52)), .inr (.inl (some 53)), .inr (.inl (some 54)), .inl (w_i tpd), .inl (w_i (g_mnt g)), .inl (w_i nxt), .inl (w_i tok), .inl (w_i tka), .inl (w_i val), .inl (w_i opn), .inl (w_i hm), .inl (w_i row), .inr (.inl (some 55)), .inr (.inl (some 56)), .inr (.inl (some 57)), .inr (.inl (some 58)), .inr (.inl (some 59)), .inr (.inl (some 60)), .inr (.inl (some 61)), .inr (.inl (some 62)), .inl (w_i ksp), .inl (w_i kke), .inl (w_i kru), .inr (.inl (some 63)), .inr (.inl (some 64)), .inr (.inl (some 65)), .inr (.inl (some 66))])) ∧ -2147483648 ≤ spr ∧ spr ≤ 2147483647 ∧ -2147483648 ≤ kee ∧ kee ≤ 2147483647 ∧ -2147483648 ≤ rul ∧ rul ≤ 2147483647 ∧ -2147483648 ≤ tpd ∧ tpd ≤ 2147483647 ∧ -2147483648 ≤ nxt ∧ nxt ≤ 2147483647 ∧ -2147483648 ≤ tok ∧ tok ≤ 2147483647 ∧ -2147483648 ≤ tka ∧ tka ≤ 2147483647 ∧ -2147483648 ≤ val ∧ val ≤ 2147483647 ∧ -2147483648 ≤ opn ∧ opn ≤ 2147483647 ∧ -2147483648 ≤ hm ∧ hm ≤ 2147483647 ∧ -2147483648 ≤ row ∧ row ≤ 2147483647 ∧ -2147483648 ≤ ksp ∧ ksp ≤ 2147483647 ∧ -2147483648 ≤ kke ∧ kke ≤ 2147483647 ∧ -2147483648 ≤ kru ∧ kru ≤ 2147483647 ∧ 0 ≤ rul ∧ rul < g_mnt g ∧ 0 ≤ tpd ∧ tpd ≤ 160 ∧ 0 ≤ kru ∧ kru < g_mnt g ∧ 0 ≤ spr ∧ spr ≤ 999 ∧ 0 ≤ ksp ∧ ksp ≤ 999
def c_32 (g : w_G) (o : w_O) (q : Nat) (e : m_E) : Prop := ∃ A : Nat, e = .inl (false, 6, A) ∧ (∀ j : Int, 0 ≤ j → j < 6 → a_g A j = g_mT g j)
def c_33 (g : w_G) (o : w_O) (q : Nat) (e : m_E) : Prop := ∃ A : Nat, e = .inl (false, 6, A) ∧ (∀ j : Int, 0 ≤ j → j < 6 → 0 ≤ a_g A j ∧ a_g A j < g_mC g)
def c_34 (g : w_G) (o : w_O) (q : Nat) (e : m_E) : Prop := ∃ A : Nat, e = .inl (false, 6, A)
def c_35 (g : w_G) (o : w_O) (q : Nat) (e : m_E) : Prop := ∃ A : Nat, e = .inl (false, 5, A) ∧ (∀ j : Int, 0 ≤ j → j < 5 → j < g_mnp g → a_g A j = g_mPK g j)
def c_36 (g : w_G) (o : w_O) (q : Nat) (e : m_E) : Prop := ∃ A : Nat, e = .inl (false, 5, A) ∧ (∀ j : Int, 0 ≤ j → j < 5 → j < g_mnp g → a_g A j = g_mPN g j)
def c_37 (g : w_G) (o : w_O) (q : Nat) (e : m_E) : Prop := e = .inr (.inl (99, 12, [some 38, some 39, some 40, some 41, some 42, some 43, some 44, some 45, some 46, some 47, some 48, some 49]))
def c_50 (g : w_G) (o : w_O) (q : Nat) (e : m_E) : Prop := ∃ A : Nat, e = .inl (false, 160, A)
def c_51 (g : w_G) (o : w_O) (q : Nat) (e : m_E) : Prop := ∃ A : Nat, e = .inl (false, 3060, A) ∧ ∀ i : Int, 0 ≤ i → i < 3 * g_mnt g → w_rp A i (g_mCL g i)
def c_52 (g : w_G) (o : w_O) (q : Nat) (e : m_E) : Prop := ∃ A : Nat, e = .inl (false, 18, A) ∧ (∀ j : Int, 0 ≤ j → j < 18 → 0 ≤ a_g A j ∧ a_g A j ≤ 170 ∧ (j < 3 * g_mnt g → a_g A j = g_mCL g j))
def c_53 (g : w_G) (o : w_O) (q : Nat) (e : m_E) : Prop := ∃ A : Nat, e = .inl (false, 200, A)
def c_54 (g : w_G) (o : w_O) (q : Nat) (e : m_E) : Prop := ∃ A : Nat, e = .inl (false, 200, A)
def c_55 (g : w_G) (o : w_O) (q : Nat) (e : m_E) : Prop := ∃ A : Nat, e = .inl (false, 150, A) ∧ (∀ j : Int, 0 ≤ j → j < 150 → a_g A j ≤ 2000)
def c_56 (g : w_G) (o : w_O) (q : Nat) (e : m_E) : Prop := ∃ A : Nat, e = .inl (false, 7, A)
def c_57 (g : w_G) (o : w_O) (q : Nat) (e : m_E) : Prop := ∃ A : Nat, e = .inl (false, 4096, A)
def c_58 (g : w_G) (o : w_O) (q : Nat) (e : m_E) : Prop := ∃ A : Nat, e = .inl (false, 4096, A)
def c_59 (g : w_G) (o : w_O) (q : Nat) (e : m_E) : Prop := ∃ A : Nat, e = .inl (false, 4097, A)
def c_60 (g : w_G) (o : w_O) (q : Nat) (e : m_E) : Prop := ∃ A : Nat, e = .inl (false, 4096, A)
def c_61 (g : w_G) (o : w_O) (q : Nat) (e : m_E) : Prop := ∃ A : Nat, e = .inl (false, 6, A) ∧ (∀ j : Int, 0 ≤ j → j < 6 → g_mhi g = 1 → 0 ≤ a_g A j ∧ a_g A j < g_mC g)
def c_62 (g : w_G) (o : w_O) (q : Nat) (e : m_E) : Prop := ∃ A : Nat, e = .inl (false, 6, A)
def c_63 (g : w_G) (o : w_O) (q : Nat) (e : m_E) : Prop := ∃ A : Nat, e = .inl (false, 4, A) ∧ (∀ j : Int, 0 ≤ j → j < 4 → -1 ≤ a_g A j ∧ a_g A j ≤ 2)
def c_64 (g : w_G) (o : w_O) (q : Nat) (e : m_E) : Prop := ∃ A : Nat, e = .inl (false, 4, A) ∧ (∀ j : Int, 0 ≤ j → j < 4 → 0 ≤ a_g A j ∧ a_g A j ≤ 40)
def c_65 (g : w_G) (o : w_O) (q : Nat) (e : m_E) : Prop := ∃ A : Nat, e = .inl (false, 160, A)
def c_66 (g : w_G) (o : w_O) (q : Nat) (e : m_E) : Prop := ∃ A : Nat, e = .inl (false, 40, A)
def c_100 (g : w_G) (o : w_O) (q : Nat) (e : m_E) : Prop := ∃ A : Nat, e = .inl (false, (o q).2, A) ∧ (∀ j : Int, 0 ≤ j → j < ((o q).2 : Int) → 0 ≤ a_g A j ∧ a_g A j < ((o q).2 : Int)) ∧ (o q).2 ≤ 4096
def c_101 (g : w_G) (o : w_O) (q : Nat) (e : m_E) : Prop := ∃ A : Nat, e = .inl (false, (o q).2, A) ∧ (o q).2 ≤ 4096
def c_102 (g : w_G) (o : w_O) (q : Nat) (e : m_E) : Prop := ∃ A : Nat, e = .inl (false, (o q).2, A) ∧ (o q).2 ≤ 4096
def c_103 (g : w_G) (o : w_O) (q : Nat) (e : m_E) : Prop := ∃ A : Nat, e = .inl (false, (o q).2, A) ∧ (o q).2 ≤ 4096
def c_104 (g : w_G) (o : w_O) (q : Nat) (e : m_E) : Prop := ∃ A : Nat, e = .inl (true, (o q).2, A) ∧ (∀ j : Int, 0 ≤ j → j < ((o q).2 : Int) → 0 ≤ a_g A j ∧ a_g A j ≤ 1) ∧ (o q).2 ≤ 4096
def c_110 (g : w_G) (o : w_O) (q : Nat) (e : m_E) : Prop := ∃ me fe : Int, ∃ cod stk : Nat, e = .inr (.inr (9, [.inr (.inl (some cod)), .inl (w_i me), .inl (w_i fe), .inr (.inl (some stk))])) ∧ -2147483648 ≤ me ∧ me ≤ 2147483647 ∧ -2147483648 ≤ fe ∧ fe ≤ 2147483647 ∧ 0 ≤ me ∧ me ≤ fe ∧ fe ≤ ((o cod).2 : Int) ∧ (o cod).1 = 111 ∧ (o stk).1 = 112
def c_111 (g : w_G) (o : w_O) (q : Nat) (e : m_E) : Prop := ∃ A : Nat, e = .inl (false, (o q).2, A) ∧ (∀ j : Int, 0 ≤ j → j < ((o q).2 : Int) → 0 ≤ a_g A j) ∧ (o q).2 ≤ 160
def c_112 (g : w_G) (o : w_O) (q : Nat) (e : m_E) : Prop := ∃ A : Nat, e = .inl (false, 31, A)
def c_120 (g : w_G) (o : w_O) (q : Nat) (e : m_E) : Prop := ∃ c : Nat, e = .inr (.inr (c, [.inl (w_i (g_PN g ((o q).2 : Int))), .inl (w_i (1 + g_PN g ((o q).2 : Int)))])) ∧ 0 ≤ g_PN g ((o q).2 : Int) ∧ g_PN g ((o q).2 : Int) ≤ 9 ∧ ((o q).2 : Int) < g_np g ∧ ((g_PK g ((o q).2 : Int) = 0 ∧ c = 3) ∨ (g_PK g ((o q).2 : Int) = 1 ∧ c = 8) ∨ (g_PK g ((o q).2 : Int) = 2 ∧ c = 7) ∨ (g_PK g ((o q).2 : Int) = 3 ∧ c = 1) ∨ (g_PK g ((o q).2 : Int) = 4 ∧ c = 2) ∨ (g_PK g ((o q).2 : Int) = 5 ∧ c = 0))
def c_130 (g : w_G) (o : w_O) (q : Nat) (e : m_E) : Prop := ∃ srt : Int, ∃ itm : Nat, e = .inr (.inr (6, [.inl (w_i srt), .inr (.inl (some itm))])) ∧ -2147483648 ≤ srt ∧ srt ≤ 2147483647 ∧ (o itm).1 = 131
def c_131 (g : w_G) (o : w_O) (q : Nat) (e : m_E) : Prop := ∃ A : Nat, e = .inl (false, (o q).2, A) ∧ (o q).2 ≤ 40
def c_140 (g : w_G) (o : w_O) (q : Nat) (e : m_E) : Prop := ∃ A : Nat, e = .inl (false, (o q).2, A) ∧ (o q).2 ≤ 6
def w_ty (g : w_G) (o : w_O) (q : Nat) (e : m_E) : Prop := match (o q).1 with
  | 0 => c_0 g o q e
  | 1 => c_1 g o q e
  | 2 => c_2 g o q e
  | 3 => c_3 g o q e
  | 4 => c_4 g o q e
  | 5 => c_5 g o q e
  | 6 => c_6 g o q e
  | 7 => c_7 g o q e
  | 8 => c_8 g o q e
  | 9 => c_9 g o q e
  | 10 => c_10 g o q e
  | 11 => c_11 g o q e
  | 17 => c_17 g o q e
  | 18 => c_18 g o q e
  | 19 => c_19 g o q e
  | 20 => c_20 g o q e
  | 21 => c_21 g o q e
  | 22 => c_22 g o q e
  | 23 => c_23 g o q e
  | 24 => c_24 g o q e
  | 25 => c_25 g o q e
  | 26 => c_26 g o q e
  | 27 => c_27 g o q e
  | 31 => c_31 g o q e
  | 32 => c_32 g o q e
  | 33 => c_33 g o q e
  | 34 => c_34 g o q e
  | 35 => c_35 g o q e
  | 36 => c_36 g o q e
  | 37 => c_37 g o q e
  | 50 => c_50 g o q e
  | 51 => c_51 g o q e
  | 52 => c_52 g o q e
  | 53 => c_53 g o q e
  | 54 => c_54 g o q e
  | 55 => c_55 g o q e
  | 56 => c_56 g o q e
  | 57 => c_57 g o q e
  | 58 => c_58 g o q e
  | 59 => c_59 g o q e
  | 60 => c_60 g o q e
  | 61 => c_61 g o q e
  | 62 => c_62 g o q e
  | 63 => c_63 g o q e
  | 64 => c_64 g o q e
  | 65 => c_65 g o q e
  | 66 => c_66 g o q e
  | 100 => c_100 g o q e
  | 101 => c_101 g o q e
  | 102 => c_102 g o q e
  | 103 => c_103 g o q e
  | 104 => c_104 g o q e
  | 110 => c_110 g o q e
  | 111 => c_111 g o q e
  | 112 => c_112 g o q e
  | 120 => c_120 g o q e
  | 130 => c_130 g o q e
  | 131 => c_131 g o q e
  | 140 => c_140 g o q e
  | _ => False
def o_0 : List (Nat × Nat) := [(0, 0), (1, 0), (2, 0), (3, 0), (4, 0), (5, 0), (6, 0), (7, 0), (8, 0), (9, 0), (10, 0), (11, 0), (100, 0), (101, 0), (102, 0), (103, 0), (104, 0), (17, 0), (18, 0), (19, 0), (20, 0), (21, 0), (22, 0), (23, 0), (24, 0), (25, 0), (26, 0), (27, 0), (111, 7), (110, 0), (112, 0), (31, 0), (32, 0), (33, 0), (34, 0), (35, 0), (36, 0), (37, 0), (140, 4), (140, 2), (140, 4), (140, 6), (140, 4), (140, 5), (140, 3), (140, 3), (140, 3), (140, 2), (140, 3), (140, 3), (50, 0), (51, 0), (52, 0), (53, 0), (54, 0), (55, 0), (56, 0), (57, 0), (58, 0), (59, 0), (60, 0), (61, 0), (62, 0), (63, 0), (64, 0), (65, 0), (66, 0)]
/-- the search's rows -/
def w_wo (g : w_G) (o : w_O) : Prop := 0 ≤ g_L g ∧ g_L g ≤ 4096 ∧ (o (g_rw g)).1 = 100 ∧ (o (g_stp g)).1 = 101 ∧ (o (g_ahd g)).1 = 102 ∧ (o (g_cst g)).1 = 103 ∧ (o (g_chp g)).1 = 104 ∧ ((o (g_rw g)).2 : Int) = g_L g ∧ ((o (g_stp g)).2 : Int) = g_L g ∧ ((o (g_ahd g)).2 : Int) = g_L g ∧ ((o (g_cst g)).2 : Int) = g_L g ∧ ((o (g_chp g)).2 : Int) = g_L g ∧ ∀ q, 67 ≤ q → 100 ≤ (o q).1
def w_Inv (g : w_G) (o : w_O) (h : m_H) : Prop := m_wf h.2.2 h.1 ∧ w_wf g ∧ (∀ q, q < 67 → o q = o_0.getD q (0, 0)) ∧ (∀ q, h.1 ≤ q → (o q).1 = 999) ∧ 67 ≤ h.1 ∧ (∀ q e, m_at h.2.2 q = some e → w_ty g o q e) ∧ w_wo g o
theorem wf_ex {l : List (List m_E)} {a q : Nat} (hw : m_wf l a) (hq : q < a) : ∃ e, m_at l q = some e := by
  have hl : q / 8 < l.length := by rw [hw.1]; omega
  have h1 : l[q / 8]? = some l[q / 8] := List.getElem?_eq_getElem hl
  have h2 := hw.2 _ _ h1
  have hc : q % 8 < (l[q / 8]).length := by omega
  exact ⟨_, mw_of h1 (List.getElem?_eq_getElem hc)⟩
section
variable {g : w_G} {o : w_O} {h h' : m_H} {q : Nat} {e : m_E}
theorem iv_at (iv : w_Inv g o h) (hq : (o q).1 ≠ 999) : ∃ e, m_at h.2.2 q = some e ∧ w_ty g o q e := by
  have hl : q < h.1 := Nat.lt_of_not_le fun hn => hq (iv.2.2.2.1 q hn)
  obtain ⟨e, he⟩ := wf_ex iv.1 hl
  exact ⟨e, he, iv.2.2.2.2.2.1 q e he⟩
theorem iv_st (iv : w_Inv g o h) (hs : h_st h q e h') (hc : w_ty g o q e) : w_Inv g o h' := by
  obtain ⟨i1, i2, i3, i4, i5, i6, i7⟩ := iv
  obtain ⟨s1, s2, s3, s4, s5⟩ := hs
  refine ⟨s5 i1, i2, i3, fun p hp => i4 p (by omega), by omega, fun p e' hp => ?_, i7⟩
  by_cases hpq : p = q
  · subst hpq
    cases s3.symm.trans hp
    exact hc
  · exact i6 p e' ((s4 p hpq).symm.trans hp)
/-- which cells stay: all but those of some tags -/
def w_fr (o : w_O) (W : List Nat) (h h' : m_H) : Prop := h'.1 = h.1 ∧ h'.2.1 = h.2.1 ∧ ∀ p, p < h.1 → W.contains (o p).1 = false → m_at h'.2.2 p = m_at h.2.2 p
theorem fr_rf {W : List Nat} : w_fr o W h h := ⟨rfl, rfl, fun _ _ _ => rfl⟩
theorem fr_st {W : List Nat} {h0 : m_H} (hf : w_fr o W h0 h) (hs : h_st h q e h') (hq : W.contains (o q).1 = true) : w_fr o W h0 h' := by
  refine ⟨hs.1.trans hf.1, hs.2.1.trans hf.2.1, fun p hp hw => ?_⟩
  rw [← hf.2.2 p hp hw]
  refine hs.2.2.2.1 p (fun e => ?_)
  subst e
  rw [hq] at hw
  cases hw
theorem fr_ca {W W' : List Nat} {h0 : m_H} (hf : w_fr o W h0 h) (hs : w_fr o W' h h') (hW : ∀ t, W'.contains t = true → W.contains t = true) : w_fr o W h0 h' := by
  refine ⟨hs.1.trans hf.1, hs.2.1.trans hf.2.1, fun p hp hw => ?_⟩
  rw [← hf.2.2 p hp hw]
  refine hs.2.2 p (by rw [hf.1]; exact hp) ?_
  rcases hc : W'.contains (o p).1 with _ | _
  · rfl
  · rw [hW _ hc] at hw; cases hw
theorem fr_at {W : List Nat} {x : Option m_E} (hf : w_fr o W h h') (ha : m_at h.2.2 q = x) (iv : w_Inv g o h) {t : Nat} (ht : (o q).1 = t) (hW : W.contains t = false) (h9 : Nat.beq t 999 = false) : m_at h'.2.2 q = x := by
  have hl : q < h.1 := Nat.lt_of_not_le fun hn => by
    rw [iv.2.2.2.1 q hn] at ht
    subst ht
    cases h9
  exact (hf.2.2 q hl (by rw [ht]; exact hW)).trans ha
theorem ne_tag {p q a b : Nat} (hp : (o p).1 = a) (hq : (o q).1 = b) (hab : Nat.beq a b = false) : p ≠ q := by
  intro e
  subst e
  have : a = b := hp.symm.trans hq
  subst this
  rw [Nat.beq_refl] at hab
  cases hab
theorem iv_wo (iv : w_Inv g o h) : 0 ≤ g_L g ∧ g_L g ≤ 4096 ∧ ((o (g_rw g)).2 : Int) = g_L g ∧ ((o (g_stp g)).2 : Int) = g_L g ∧ ((o (g_ahd g)).2 : Int) = g_L g ∧ ((o (g_cst g)).2 : Int) = g_L g ∧ ((o (g_chp g)).2 : Int) = g_L g := by
  obtain ⟨a1, a2, -, -, -, -, -, b1, b2, b3, b4, b5, -⟩ := iv.2.2.2.2.2.2
  exact ⟨a1, a2, b1, b2, b3, b4, b5⟩
theorem ow_rw (iv : w_Inv g o h) : (o (g_rw g)).1 = 100 := iv.2.2.2.2.2.2.2.2.1
theorem ow_stp (iv : w_Inv g o h) : (o (g_stp g)).1 = 101 := iv.2.2.2.2.2.2.2.2.2.1
theorem ow_ahd (iv : w_Inv g o h) : (o (g_ahd g)).1 = 102 := iv.2.2.2.2.2.2.2.2.2.2.1
theorem ow_cst (iv : w_Inv g o h) : (o (g_cst g)).1 = 103 := iv.2.2.2.2.2.2.2.2.2.2.2.1
theorem ow_chp (iv : w_Inv g o h) : (o (g_chp g)).1 = 104 := iv.2.2.2.2.2.2.2.2.2.2.2.2.1
theorem iv_wc (iv : w_Inv g o h) : 1 ≤ g_H g ∧ g_H g ≤ 6 ∧ 2 ≤ g_C g ∧ g_C g ≤ 5 ∧ 2 ≤ g_N g ∧ g_N g ≤ 4096 ∧ 0 ≤ g_np g ∧ g_np g ≤ 5 ∧ 1 ≤ g_nt g ∧ g_nt g ≤ 6 ∧ 0 ≤ g_hi g ∧ g_hi g ≤ 1 := by
  obtain ⟨_, hw, _⟩ := iv
  unfold w_wf at hw
  omega
theorem iv_wm (iv : w_Inv g o h) : 1 ≤ g_mH g ∧ g_mH g ≤ 6 ∧ 2 ≤ g_mC g ∧ g_mC g ≤ 5 ∧ 2 ≤ g_mN g ∧ g_mN g ≤ 4096 ∧ 0 ≤ g_mnp g ∧ g_mnp g ≤ 5 ∧ 1 ≤ g_mnt g ∧ g_mnt g ≤ 6 ∧ 0 ≤ g_mhi g ∧ g_mhi g ≤ 1 := by
  obtain ⟨_, hw, _⟩ := iv
  unfold w_wf at hw
  omega
theorem ow_0 (iv : w_Inv g o h) : (o 0).1 = 0 := by rw [iv.2.2.1 0 (Nat.le_of_ble_eq_true rfl)]; rfl
theorem ow_1 (iv : w_Inv g o h) : (o 1).1 = 1 := by rw [iv.2.2.1 1 (Nat.le_of_ble_eq_true rfl)]; rfl
theorem ow_2 (iv : w_Inv g o h) : (o 2).1 = 2 := by rw [iv.2.2.1 2 (Nat.le_of_ble_eq_true rfl)]; rfl
theorem ow_3 (iv : w_Inv g o h) : (o 3).1 = 3 := by rw [iv.2.2.1 3 (Nat.le_of_ble_eq_true rfl)]; rfl
theorem ow_4 (iv : w_Inv g o h) : (o 4).1 = 4 := by rw [iv.2.2.1 4 (Nat.le_of_ble_eq_true rfl)]; rfl
theorem ow_5 (iv : w_Inv g o h) : (o 5).1 = 5 := by rw [iv.2.2.1 5 (Nat.le_of_ble_eq_true rfl)]; rfl
theorem ow_6 (iv : w_Inv g o h) : (o 6).1 = 6 := by rw [iv.2.2.1 6 (Nat.le_of_ble_eq_true rfl)]; rfl
theorem ow_7 (iv : w_Inv g o h) : (o 7).1 = 7 := by rw [iv.2.2.1 7 (Nat.le_of_ble_eq_true rfl)]; rfl
theorem ow_8 (iv : w_Inv g o h) : (o 8).1 = 8 := by rw [iv.2.2.1 8 (Nat.le_of_ble_eq_true rfl)]; rfl
theorem ow_9 (iv : w_Inv g o h) : (o 9).1 = 9 := by rw [iv.2.2.1 9 (Nat.le_of_ble_eq_true rfl)]; rfl
theorem ow_10 (iv : w_Inv g o h) : (o 10).1 = 10 := by rw [iv.2.2.1 10 (Nat.le_of_ble_eq_true rfl)]; rfl
theorem ow_11 (iv : w_Inv g o h) : (o 11).1 = 11 := by rw [iv.2.2.1 11 (Nat.le_of_ble_eq_true rfl)]; rfl
theorem ow_12 (iv : w_Inv g o h) : (o 12).1 = 100 := by rw [iv.2.2.1 12 (Nat.le_of_ble_eq_true rfl)]; rfl
theorem ow_13 (iv : w_Inv g o h) : (o 13).1 = 101 := by rw [iv.2.2.1 13 (Nat.le_of_ble_eq_true rfl)]; rfl
theorem ow_14 (iv : w_Inv g o h) : (o 14).1 = 102 := by rw [iv.2.2.1 14 (Nat.le_of_ble_eq_true rfl)]; rfl
theorem ow_15 (iv : w_Inv g o h) : (o 15).1 = 103 := by rw [iv.2.2.1 15 (Nat.le_of_ble_eq_true rfl)]; rfl
theorem ow_16 (iv : w_Inv g o h) : (o 16).1 = 104 := by rw [iv.2.2.1 16 (Nat.le_of_ble_eq_true rfl)]; rfl
theorem ow_17 (iv : w_Inv g o h) : (o 17).1 = 17 := by rw [iv.2.2.1 17 (Nat.le_of_ble_eq_true rfl)]; rfl
theorem ow_18 (iv : w_Inv g o h) : (o 18).1 = 18 := by rw [iv.2.2.1 18 (Nat.le_of_ble_eq_true rfl)]; rfl
theorem ow_19 (iv : w_Inv g o h) : (o 19).1 = 19 := by rw [iv.2.2.1 19 (Nat.le_of_ble_eq_true rfl)]; rfl
theorem ow_20 (iv : w_Inv g o h) : (o 20).1 = 20 := by rw [iv.2.2.1 20 (Nat.le_of_ble_eq_true rfl)]; rfl
theorem ow_21 (iv : w_Inv g o h) : (o 21).1 = 21 := by rw [iv.2.2.1 21 (Nat.le_of_ble_eq_true rfl)]; rfl
theorem ow_22 (iv : w_Inv g o h) : (o 22).1 = 22 := by rw [iv.2.2.1 22 (Nat.le_of_ble_eq_true rfl)]; rfl
theorem ow_23 (iv : w_Inv g o h) : (o 23).1 = 23 := by rw [iv.2.2.1 23 (Nat.le_of_ble_eq_true rfl)]; rfl
theorem ow_24 (iv : w_Inv g o h) : (o 24).1 = 24 := by rw [iv.2.2.1 24 (Nat.le_of_ble_eq_true rfl)]; rfl
theorem ow_25 (iv : w_Inv g o h) : (o 25).1 = 25 := by rw [iv.2.2.1 25 (Nat.le_of_ble_eq_true rfl)]; rfl
theorem ow_26 (iv : w_Inv g o h) : (o 26).1 = 26 := by rw [iv.2.2.1 26 (Nat.le_of_ble_eq_true rfl)]; rfl
theorem ow_27 (iv : w_Inv g o h) : (o 27).1 = 27 := by rw [iv.2.2.1 27 (Nat.le_of_ble_eq_true rfl)]; rfl
theorem ow_28 (iv : w_Inv g o h) : (o 28).1 = 111 := by rw [iv.2.2.1 28 (Nat.le_of_ble_eq_true rfl)]; rfl
theorem ow_29 (iv : w_Inv g o h) : (o 29).1 = 110 := by rw [iv.2.2.1 29 (Nat.le_of_ble_eq_true rfl)]; rfl
theorem ow_30 (iv : w_Inv g o h) : (o 30).1 = 112 := by rw [iv.2.2.1 30 (Nat.le_of_ble_eq_true rfl)]; rfl
theorem ow_31 (iv : w_Inv g o h) : (o 31).1 = 31 := by rw [iv.2.2.1 31 (Nat.le_of_ble_eq_true rfl)]; rfl
theorem ow_32 (iv : w_Inv g o h) : (o 32).1 = 32 := by rw [iv.2.2.1 32 (Nat.le_of_ble_eq_true rfl)]; rfl
theorem ow_33 (iv : w_Inv g o h) : (o 33).1 = 33 := by rw [iv.2.2.1 33 (Nat.le_of_ble_eq_true rfl)]; rfl
theorem ow_34 (iv : w_Inv g o h) : (o 34).1 = 34 := by rw [iv.2.2.1 34 (Nat.le_of_ble_eq_true rfl)]; rfl
theorem ow_35 (iv : w_Inv g o h) : (o 35).1 = 35 := by rw [iv.2.2.1 35 (Nat.le_of_ble_eq_true rfl)]; rfl
theorem ow_36 (iv : w_Inv g o h) : (o 36).1 = 36 := by rw [iv.2.2.1 36 (Nat.le_of_ble_eq_true rfl)]; rfl
theorem ow_37 (iv : w_Inv g o h) : (o 37).1 = 37 := by rw [iv.2.2.1 37 (Nat.le_of_ble_eq_true rfl)]; rfl
theorem ow_38 (iv : w_Inv g o h) : (o 38).1 = 140 := by rw [iv.2.2.1 38 (Nat.le_of_ble_eq_true rfl)]; rfl
theorem ow_39 (iv : w_Inv g o h) : (o 39).1 = 140 := by rw [iv.2.2.1 39 (Nat.le_of_ble_eq_true rfl)]; rfl
theorem ow_40 (iv : w_Inv g o h) : (o 40).1 = 140 := by rw [iv.2.2.1 40 (Nat.le_of_ble_eq_true rfl)]; rfl
theorem ow_41 (iv : w_Inv g o h) : (o 41).1 = 140 := by rw [iv.2.2.1 41 (Nat.le_of_ble_eq_true rfl)]; rfl
theorem ow_42 (iv : w_Inv g o h) : (o 42).1 = 140 := by rw [iv.2.2.1 42 (Nat.le_of_ble_eq_true rfl)]; rfl
theorem ow_43 (iv : w_Inv g o h) : (o 43).1 = 140 := by rw [iv.2.2.1 43 (Nat.le_of_ble_eq_true rfl)]; rfl
theorem ow_44 (iv : w_Inv g o h) : (o 44).1 = 140 := by rw [iv.2.2.1 44 (Nat.le_of_ble_eq_true rfl)]; rfl
theorem ow_45 (iv : w_Inv g o h) : (o 45).1 = 140 := by rw [iv.2.2.1 45 (Nat.le_of_ble_eq_true rfl)]; rfl
theorem ow_46 (iv : w_Inv g o h) : (o 46).1 = 140 := by rw [iv.2.2.1 46 (Nat.le_of_ble_eq_true rfl)]; rfl
theorem ow_47 (iv : w_Inv g o h) : (o 47).1 = 140 := by rw [iv.2.2.1 47 (Nat.le_of_ble_eq_true rfl)]; rfl
theorem ow_48 (iv : w_Inv g o h) : (o 48).1 = 140 := by rw [iv.2.2.1 48 (Nat.le_of_ble_eq_true rfl)]; rfl
theorem ow_49 (iv : w_Inv g o h) : (o 49).1 = 140 := by rw [iv.2.2.1 49 (Nat.le_of_ble_eq_true rfl)]; rfl
theorem ow_50 (iv : w_Inv g o h) : (o 50).1 = 50 := by rw [iv.2.2.1 50 (Nat.le_of_ble_eq_true rfl)]; rfl
theorem ow_51 (iv : w_Inv g o h) : (o 51).1 = 51 := by rw [iv.2.2.1 51 (Nat.le_of_ble_eq_true rfl)]; rfl
theorem ow_52 (iv : w_Inv g o h) : (o 52).1 = 52 := by rw [iv.2.2.1 52 (Nat.le_of_ble_eq_true rfl)]; rfl
theorem ow_53 (iv : w_Inv g o h) : (o 53).1 = 53 := by rw [iv.2.2.1 53 (Nat.le_of_ble_eq_true rfl)]; rfl
theorem ow_54 (iv : w_Inv g o h) : (o 54).1 = 54 := by rw [iv.2.2.1 54 (Nat.le_of_ble_eq_true rfl)]; rfl
theorem ow_55 (iv : w_Inv g o h) : (o 55).1 = 55 := by rw [iv.2.2.1 55 (Nat.le_of_ble_eq_true rfl)]; rfl
theorem ow_56 (iv : w_Inv g o h) : (o 56).1 = 56 := by rw [iv.2.2.1 56 (Nat.le_of_ble_eq_true rfl)]; rfl
theorem ow_57 (iv : w_Inv g o h) : (o 57).1 = 57 := by rw [iv.2.2.1 57 (Nat.le_of_ble_eq_true rfl)]; rfl
theorem ow_58 (iv : w_Inv g o h) : (o 58).1 = 58 := by rw [iv.2.2.1 58 (Nat.le_of_ble_eq_true rfl)]; rfl
theorem ow_59 (iv : w_Inv g o h) : (o 59).1 = 59 := by rw [iv.2.2.1 59 (Nat.le_of_ble_eq_true rfl)]; rfl
theorem ow_60 (iv : w_Inv g o h) : (o 60).1 = 60 := by rw [iv.2.2.1 60 (Nat.le_of_ble_eq_true rfl)]; rfl
theorem ow_61 (iv : w_Inv g o h) : (o 61).1 = 61 := by rw [iv.2.2.1 61 (Nat.le_of_ble_eq_true rfl)]; rfl
theorem ow_62 (iv : w_Inv g o h) : (o 62).1 = 62 := by rw [iv.2.2.1 62 (Nat.le_of_ble_eq_true rfl)]; rfl
theorem ow_63 (iv : w_Inv g o h) : (o 63).1 = 63 := by rw [iv.2.2.1 63 (Nat.le_of_ble_eq_true rfl)]; rfl
theorem ow_64 (iv : w_Inv g o h) : (o 64).1 = 64 := by rw [iv.2.2.1 64 (Nat.le_of_ble_eq_true rfl)]; rfl
theorem ow_65 (iv : w_Inv g o h) : (o 65).1 = 65 := by rw [iv.2.2.1 65 (Nat.le_of_ble_eq_true rfl)]; rfl
theorem ow_66 (iv : w_Inv g o h) : (o 66).1 = 66 := by rw [iv.2.2.1 66 (Nat.le_of_ble_eq_true rfl)]; rfl
theorem iv_0 (iv : w_Inv g o h) : ∃ e, m_at h.2.2 0 = some e ∧ c_0 g o 0 e := by
  obtain ⟨e, h1, h2⟩ := iv_at (q := 0) iv (by rw [ow_0 iv]; decide)
  unfold w_ty at h2
  rw [ow_0 iv] at h2
  exact ⟨e, h1, h2⟩
theorem is_0 (iv : w_Inv g o h) (hs : h_st h 0 e h') (hc : c_0 g o 0 e) : w_Inv g o h' := iv_st iv hs (by unfold w_ty; rw [ow_0 iv]; exact hc)
theorem iv_1 (iv : w_Inv g o h) : ∃ e, m_at h.2.2 1 = some e ∧ c_1 g o 1 e := by
  obtain ⟨e, h1, h2⟩ := iv_at (q := 1) iv (by rw [ow_1 iv]; decide)
  unfold w_ty at h2
  rw [ow_1 iv] at h2
  exact ⟨e, h1, h2⟩
theorem is_1 (iv : w_Inv g o h) (hs : h_st h 1 e h') (hc : c_1 g o 1 e) : w_Inv g o h' := iv_st iv hs (by unfold w_ty; rw [ow_1 iv]; exact hc)
theorem iv_2 (iv : w_Inv g o h) : ∃ e, m_at h.2.2 2 = some e ∧ c_2 g o 2 e := by
  obtain ⟨e, h1, h2⟩ := iv_at (q := 2) iv (by rw [ow_2 iv]; decide)
  unfold w_ty at h2
  rw [ow_2 iv] at h2
  exact ⟨e, h1, h2⟩
theorem is_2 (iv : w_Inv g o h) (hs : h_st h 2 e h') (hc : c_2 g o 2 e) : w_Inv g o h' := iv_st iv hs (by unfold w_ty; rw [ow_2 iv]; exact hc)
theorem iv_3 (iv : w_Inv g o h) : ∃ e, m_at h.2.2 3 = some e ∧ c_3 g o 3 e := by
  obtain ⟨e, h1, h2⟩ := iv_at (q := 3) iv (by rw [ow_3 iv]; decide)
  unfold w_ty at h2
  rw [ow_3 iv] at h2
  exact ⟨e, h1, h2⟩
theorem is_3 (iv : w_Inv g o h) (hs : h_st h 3 e h') (hc : c_3 g o 3 e) : w_Inv g o h' := iv_st iv hs (by unfold w_ty; rw [ow_3 iv]; exact hc)
theorem iv_4 (iv : w_Inv g o h) : ∃ e, m_at h.2.2 4 = some e ∧ c_4 g o 4 e := by
  obtain ⟨e, h1, h2⟩ := iv_at (q := 4) iv (by rw [ow_4 iv]; decide)
  unfold w_ty at h2
  rw [ow_4 iv] at h2
  exact ⟨e, h1, h2⟩
theorem is_4 (iv : w_Inv g o h) (hs : h_st h 4 e h') (hc : c_4 g o 4 e) : w_Inv g o h' := iv_st iv hs (by unfold w_ty; rw [ow_4 iv]; exact hc)
theorem iv_5 (iv : w_Inv g o h) : ∃ e, m_at h.2.2 5 = some e ∧ c_5 g o 5 e := by
  obtain ⟨e, h1, h2⟩ := iv_at (q := 5) iv (by rw [ow_5 iv]; decide)
  unfold w_ty at h2
  rw [ow_5 iv] at h2
  exact ⟨e, h1, h2⟩
theorem is_5 (iv : w_Inv g o h) (hs : h_st h 5 e h') (hc : c_5 g o 5 e) : w_Inv g o h' := iv_st iv hs (by unfold w_ty; rw [ow_5 iv]; exact hc)
theorem iv_6 (iv : w_Inv g o h) : ∃ e, m_at h.2.2 6 = some e ∧ c_6 g o 6 e := by
  obtain ⟨e, h1, h2⟩ := iv_at (q := 6) iv (by rw [ow_6 iv]; decide)
  unfold w_ty at h2
  rw [ow_6 iv] at h2
  exact ⟨e, h1, h2⟩
theorem is_6 (iv : w_Inv g o h) (hs : h_st h 6 e h') (hc : c_6 g o 6 e) : w_Inv g o h' := iv_st iv hs (by unfold w_ty; rw [ow_6 iv]; exact hc)
theorem iv_7 (iv : w_Inv g o h) : ∃ e, m_at h.2.2 7 = some e ∧ c_7 g o 7 e := by
  obtain ⟨e, h1, h2⟩ := iv_at (q := 7) iv (by rw [ow_7 iv]; decide)
  unfold w_ty at h2
  rw [ow_7 iv] at h2
  exact ⟨e, h1, h2⟩
theorem is_7 (iv : w_Inv g o h) (hs : h_st h 7 e h') (hc : c_7 g o 7 e) : w_Inv g o h' := iv_st iv hs (by unfold w_ty; rw [ow_7 iv]; exact hc)
theorem iv_8 (iv : w_Inv g o h) : ∃ e, m_at h.2.2 8 = some e ∧ c_8 g o 8 e := by
  obtain ⟨e, h1, h2⟩ := iv_at (q := 8) iv (by rw [ow_8 iv]; decide)
  unfold w_ty at h2
  rw [ow_8 iv] at h2
  exact ⟨e, h1, h2⟩
theorem is_8 (iv : w_Inv g o h) (hs : h_st h 8 e h') (hc : c_8 g o 8 e) : w_Inv g o h' := iv_st iv hs (by unfold w_ty; rw [ow_8 iv]; exact hc)
theorem iv_9 (iv : w_Inv g o h) : ∃ e, m_at h.2.2 9 = some e ∧ c_9 g o 9 e := by
  obtain ⟨e, h1, h2⟩ := iv_at (q := 9) iv (by rw [ow_9 iv]; decide)
  unfold w_ty at h2
  rw [ow_9 iv] at h2
  exact ⟨e, h1, h2⟩
theorem is_9 (iv : w_Inv g o h) (hs : h_st h 9 e h') (hc : c_9 g o 9 e) : w_Inv g o h' := iv_st iv hs (by unfold w_ty; rw [ow_9 iv]; exact hc)
theorem iv_10 (iv : w_Inv g o h) : ∃ e, m_at h.2.2 10 = some e ∧ c_10 g o 10 e := by
  obtain ⟨e, h1, h2⟩ := iv_at (q := 10) iv (by rw [ow_10 iv]; decide)
  unfold w_ty at h2
  rw [ow_10 iv] at h2
  exact ⟨e, h1, h2⟩
theorem is_10 (iv : w_Inv g o h) (hs : h_st h 10 e h') (hc : c_10 g o 10 e) : w_Inv g o h' := iv_st iv hs (by unfold w_ty; rw [ow_10 iv]; exact hc)
theorem iv_11 (iv : w_Inv g o h) : ∃ e, m_at h.2.2 11 = some e ∧ c_11 g o 11 e := by
  obtain ⟨e, h1, h2⟩ := iv_at (q := 11) iv (by rw [ow_11 iv]; decide)
  unfold w_ty at h2
  rw [ow_11 iv] at h2
  exact ⟨e, h1, h2⟩
theorem is_11 (iv : w_Inv g o h) (hs : h_st h 11 e h') (hc : c_11 g o 11 e) : w_Inv g o h' := iv_st iv hs (by unfold w_ty; rw [ow_11 iv]; exact hc)
theorem iv_17 (iv : w_Inv g o h) : ∃ e, m_at h.2.2 17 = some e ∧ c_17 g o 17 e := by
  obtain ⟨e, h1, h2⟩ := iv_at (q := 17) iv (by rw [ow_17 iv]; decide)
  unfold w_ty at h2
  rw [ow_17 iv] at h2
  exact ⟨e, h1, h2⟩
theorem is_17 (iv : w_Inv g o h) (hs : h_st h 17 e h') (hc : c_17 g o 17 e) : w_Inv g o h' := iv_st iv hs (by unfold w_ty; rw [ow_17 iv]; exact hc)
theorem iv_18 (iv : w_Inv g o h) : ∃ e, m_at h.2.2 18 = some e ∧ c_18 g o 18 e := by
  obtain ⟨e, h1, h2⟩ := iv_at (q := 18) iv (by rw [ow_18 iv]; decide)
  unfold w_ty at h2
  rw [ow_18 iv] at h2
  exact ⟨e, h1, h2⟩
theorem is_18 (iv : w_Inv g o h) (hs : h_st h 18 e h') (hc : c_18 g o 18 e) : w_Inv g o h' := iv_st iv hs (by unfold w_ty; rw [ow_18 iv]; exact hc)
theorem iv_19 (iv : w_Inv g o h) : ∃ e, m_at h.2.2 19 = some e ∧ c_19 g o 19 e := by
  obtain ⟨e, h1, h2⟩ := iv_at (q := 19) iv (by rw [ow_19 iv]; decide)
  unfold w_ty at h2
  rw [ow_19 iv] at h2
  exact ⟨e, h1, h2⟩
theorem is_19 (iv : w_Inv g o h) (hs : h_st h 19 e h') (hc : c_19 g o 19 e) : w_Inv g o h' := iv_st iv hs (by unfold w_ty; rw [ow_19 iv]; exact hc)
theorem iv_20 (iv : w_Inv g o h) : ∃ e, m_at h.2.2 20 = some e ∧ c_20 g o 20 e := by
  obtain ⟨e, h1, h2⟩ := iv_at (q := 20) iv (by rw [ow_20 iv]; decide)
  unfold w_ty at h2
  rw [ow_20 iv] at h2
  exact ⟨e, h1, h2⟩
theorem is_20 (iv : w_Inv g o h) (hs : h_st h 20 e h') (hc : c_20 g o 20 e) : w_Inv g o h' := iv_st iv hs (by unfold w_ty; rw [ow_20 iv]; exact hc)
theorem iv_21 (iv : w_Inv g o h) : ∃ e, m_at h.2.2 21 = some e ∧ c_21 g o 21 e := by
  obtain ⟨e, h1, h2⟩ := iv_at (q := 21) iv (by rw [ow_21 iv]; decide)
  unfold w_ty at h2
  rw [ow_21 iv] at h2
  exact ⟨e, h1, h2⟩
theorem is_21 (iv : w_Inv g o h) (hs : h_st h 21 e h') (hc : c_21 g o 21 e) : w_Inv g o h' := iv_st iv hs (by unfold w_ty; rw [ow_21 iv]; exact hc)
theorem iv_22 (iv : w_Inv g o h) : ∃ e, m_at h.2.2 22 = some e ∧ c_22 g o 22 e := by
  obtain ⟨e, h1, h2⟩ := iv_at (q := 22) iv (by rw [ow_22 iv]; decide)
  unfold w_ty at h2
  rw [ow_22 iv] at h2
  exact ⟨e, h1, h2⟩
theorem is_22 (iv : w_Inv g o h) (hs : h_st h 22 e h') (hc : c_22 g o 22 e) : w_Inv g o h' := iv_st iv hs (by unfold w_ty; rw [ow_22 iv]; exact hc)
theorem iv_23 (iv : w_Inv g o h) : ∃ e, m_at h.2.2 23 = some e ∧ c_23 g o 23 e := by
  obtain ⟨e, h1, h2⟩ := iv_at (q := 23) iv (by rw [ow_23 iv]; decide)
  unfold w_ty at h2
  rw [ow_23 iv] at h2
  exact ⟨e, h1, h2⟩
theorem is_23 (iv : w_Inv g o h) (hs : h_st h 23 e h') (hc : c_23 g o 23 e) : w_Inv g o h' := iv_st iv hs (by unfold w_ty; rw [ow_23 iv]; exact hc)
theorem iv_24 (iv : w_Inv g o h) : ∃ e, m_at h.2.2 24 = some e ∧ c_24 g o 24 e := by
  obtain ⟨e, h1, h2⟩ := iv_at (q := 24) iv (by rw [ow_24 iv]; decide)
  unfold w_ty at h2
  rw [ow_24 iv] at h2
  exact ⟨e, h1, h2⟩
theorem is_24 (iv : w_Inv g o h) (hs : h_st h 24 e h') (hc : c_24 g o 24 e) : w_Inv g o h' := iv_st iv hs (by unfold w_ty; rw [ow_24 iv]; exact hc)
theorem iv_25 (iv : w_Inv g o h) : ∃ e, m_at h.2.2 25 = some e ∧ c_25 g o 25 e := by
  obtain ⟨e, h1, h2⟩ := iv_at (q := 25) iv (by rw [ow_25 iv]; decide)
  unfold w_ty at h2
  rw [ow_25 iv] at h2
  exact ⟨e, h1, h2⟩
theorem is_25 (iv : w_Inv g o h) (hs : h_st h 25 e h') (hc : c_25 g o 25 e) : w_Inv g o h' := iv_st iv hs (by unfold w_ty; rw [ow_25 iv]; exact hc)
theorem iv_26 (iv : w_Inv g o h) : ∃ e, m_at h.2.2 26 = some e ∧ c_26 g o 26 e := by
  obtain ⟨e, h1, h2⟩ := iv_at (q := 26) iv (by rw [ow_26 iv]; decide)
  unfold w_ty at h2
  rw [ow_26 iv] at h2
  exact ⟨e, h1, h2⟩
theorem is_26 (iv : w_Inv g o h) (hs : h_st h 26 e h') (hc : c_26 g o 26 e) : w_Inv g o h' := iv_st iv hs (by unfold w_ty; rw [ow_26 iv]; exact hc)
theorem iv_27 (iv : w_Inv g o h) : ∃ e, m_at h.2.2 27 = some e ∧ c_27 g o 27 e := by
  obtain ⟨e, h1, h2⟩ := iv_at (q := 27) iv (by rw [ow_27 iv]; decide)
  unfold w_ty at h2
  rw [ow_27 iv] at h2
  exact ⟨e, h1, h2⟩
theorem is_27 (iv : w_Inv g o h) (hs : h_st h 27 e h') (hc : c_27 g o 27 e) : w_Inv g o h' := iv_st iv hs (by unfold w_ty; rw [ow_27 iv]; exact hc)
theorem iv_31 (iv : w_Inv g o h) : ∃ e, m_at h.2.2 31 = some e ∧ c_31 g o 31 e := by
  obtain ⟨e, h1, h2⟩ := iv_at (q := 31) iv (by rw [ow_31 iv]; decide)
  unfold w_ty at h2
  rw [ow_31 iv] at h2
  exact ⟨e, h1, h2⟩
theorem is_31 (iv : w_Inv g o h) (hs : h_st h 31 e h') (hc : c_31 g o 31 e) : w_Inv g o h' := iv_st iv hs (by unfold w_ty; rw [ow_31 iv]; exact hc)
theorem iv_32 (iv : w_Inv g o h) : ∃ e, m_at h.2.2 32 = some e ∧ c_32 g o 32 e := by
  obtain ⟨e, h1, h2⟩ := iv_at (q := 32) iv (by rw [ow_32 iv]; decide)
  unfold w_ty at h2
  rw [ow_32 iv] at h2
  exact ⟨e, h1, h2⟩
theorem is_32 (iv : w_Inv g o h) (hs : h_st h 32 e h') (hc : c_32 g o 32 e) : w_Inv g o h' := iv_st iv hs (by unfold w_ty; rw [ow_32 iv]; exact hc)
theorem iv_33 (iv : w_Inv g o h) : ∃ e, m_at h.2.2 33 = some e ∧ c_33 g o 33 e := by
  obtain ⟨e, h1, h2⟩ := iv_at (q := 33) iv (by rw [ow_33 iv]; decide)
  unfold w_ty at h2
  rw [ow_33 iv] at h2
  exact ⟨e, h1, h2⟩
theorem is_33 (iv : w_Inv g o h) (hs : h_st h 33 e h') (hc : c_33 g o 33 e) : w_Inv g o h' := iv_st iv hs (by unfold w_ty; rw [ow_33 iv]; exact hc)
theorem iv_34 (iv : w_Inv g o h) : ∃ e, m_at h.2.2 34 = some e ∧ c_34 g o 34 e := by
  obtain ⟨e, h1, h2⟩ := iv_at (q := 34) iv (by rw [ow_34 iv]; decide)
  unfold w_ty at h2
  rw [ow_34 iv] at h2
  exact ⟨e, h1, h2⟩
theorem is_34 (iv : w_Inv g o h) (hs : h_st h 34 e h') (hc : c_34 g o 34 e) : w_Inv g o h' := iv_st iv hs (by unfold w_ty; rw [ow_34 iv]; exact hc)
theorem iv_35 (iv : w_Inv g o h) : ∃ e, m_at h.2.2 35 = some e ∧ c_35 g o 35 e := by
  obtain ⟨e, h1, h2⟩ := iv_at (q := 35) iv (by rw [ow_35 iv]; decide)
  unfold w_ty at h2
  rw [ow_35 iv] at h2
  exact ⟨e, h1, h2⟩
theorem is_35 (iv : w_Inv g o h) (hs : h_st h 35 e h') (hc : c_35 g o 35 e) : w_Inv g o h' := iv_st iv hs (by unfold w_ty; rw [ow_35 iv]; exact hc)
theorem iv_36 (iv : w_Inv g o h) : ∃ e, m_at h.2.2 36 = some e ∧ c_36 g o 36 e := by
  obtain ⟨e, h1, h2⟩ := iv_at (q := 36) iv (by rw [ow_36 iv]; decide)
  unfold w_ty at h2
  rw [ow_36 iv] at h2
  exact ⟨e, h1, h2⟩
theorem is_36 (iv : w_Inv g o h) (hs : h_st h 36 e h') (hc : c_36 g o 36 e) : w_Inv g o h' := iv_st iv hs (by unfold w_ty; rw [ow_36 iv]; exact hc)
theorem iv_37 (iv : w_Inv g o h) : ∃ e, m_at h.2.2 37 = some e ∧ c_37 g o 37 e := by
  obtain ⟨e, h1, h2⟩ := iv_at (q := 37) iv (by rw [ow_37 iv]; decide)
  unfold w_ty at h2
  rw [ow_37 iv] at h2
  exact ⟨e, h1, h2⟩
theorem is_37 (iv : w_Inv g o h) (hs : h_st h 37 e h') (hc : c_37 g o 37 e) : w_Inv g o h' := iv_st iv hs (by unfold w_ty; rw [ow_37 iv]; exact hc)
theorem iv_50 (iv : w_Inv g o h) : ∃ e, m_at h.2.2 50 = some e ∧ c_50 g o 50 e := by
  obtain ⟨e, h1, h2⟩ := iv_at (q := 50) iv (by rw [ow_50 iv]; decide)
  unfold w_ty at h2
  rw [ow_50 iv] at h2
  exact ⟨e, h1, h2⟩
theorem is_50 (iv : w_Inv g o h) (hs : h_st h 50 e h') (hc : c_50 g o 50 e) : w_Inv g o h' := iv_st iv hs (by unfold w_ty; rw [ow_50 iv]; exact hc)
theorem iv_51 (iv : w_Inv g o h) : ∃ e, m_at h.2.2 51 = some e ∧ c_51 g o 51 e := by
  obtain ⟨e, h1, h2⟩ := iv_at (q := 51) iv (by rw [ow_51 iv]; decide)
  unfold w_ty at h2
  rw [ow_51 iv] at h2
  exact ⟨e, h1, h2⟩
theorem is_51 (iv : w_Inv g o h) (hs : h_st h 51 e h') (hc : c_51 g o 51 e) : w_Inv g o h' := iv_st iv hs (by unfold w_ty; rw [ow_51 iv]; exact hc)
theorem iv_52 (iv : w_Inv g o h) : ∃ e, m_at h.2.2 52 = some e ∧ c_52 g o 52 e := by
  obtain ⟨e, h1, h2⟩ := iv_at (q := 52) iv (by rw [ow_52 iv]; decide)
  unfold w_ty at h2
  rw [ow_52 iv] at h2
  exact ⟨e, h1, h2⟩
theorem is_52 (iv : w_Inv g o h) (hs : h_st h 52 e h') (hc : c_52 g o 52 e) : w_Inv g o h' := iv_st iv hs (by unfold w_ty; rw [ow_52 iv]; exact hc)
theorem iv_53 (iv : w_Inv g o h) : ∃ e, m_at h.2.2 53 = some e ∧ c_53 g o 53 e := by
  obtain ⟨e, h1, h2⟩ := iv_at (q := 53) iv (by rw [ow_53 iv]; decide)
  unfold w_ty at h2
  rw [ow_53 iv] at h2
  exact ⟨e, h1, h2⟩
theorem is_53 (iv : w_Inv g o h) (hs : h_st h 53 e h') (hc : c_53 g o 53 e) : w_Inv g o h' := iv_st iv hs (by unfold w_ty; rw [ow_53 iv]; exact hc)
theorem iv_54 (iv : w_Inv g o h) : ∃ e, m_at h.2.2 54 = some e ∧ c_54 g o 54 e := by
  obtain ⟨e, h1, h2⟩ := iv_at (q := 54) iv (by rw [ow_54 iv]; decide)
  unfold w_ty at h2
  rw [ow_54 iv] at h2
  exact ⟨e, h1, h2⟩
theorem is_54 (iv : w_Inv g o h) (hs : h_st h 54 e h') (hc : c_54 g o 54 e) : w_Inv g o h' := iv_st iv hs (by unfold w_ty; rw [ow_54 iv]; exact hc)
theorem iv_55 (iv : w_Inv g o h) : ∃ e, m_at h.2.2 55 = some e ∧ c_55 g o 55 e := by
  obtain ⟨e, h1, h2⟩ := iv_at (q := 55) iv (by rw [ow_55 iv]; decide)
  unfold w_ty at h2
  rw [ow_55 iv] at h2
  exact ⟨e, h1, h2⟩
theorem is_55 (iv : w_Inv g o h) (hs : h_st h 55 e h') (hc : c_55 g o 55 e) : w_Inv g o h' := iv_st iv hs (by unfold w_ty; rw [ow_55 iv]; exact hc)
theorem iv_56 (iv : w_Inv g o h) : ∃ e, m_at h.2.2 56 = some e ∧ c_56 g o 56 e := by
  obtain ⟨e, h1, h2⟩ := iv_at (q := 56) iv (by rw [ow_56 iv]; decide)
  unfold w_ty at h2
  rw [ow_56 iv] at h2
  exact ⟨e, h1, h2⟩
theorem is_56 (iv : w_Inv g o h) (hs : h_st h 56 e h') (hc : c_56 g o 56 e) : w_Inv g o h' := iv_st iv hs (by unfold w_ty; rw [ow_56 iv]; exact hc)
theorem iv_57 (iv : w_Inv g o h) : ∃ e, m_at h.2.2 57 = some e ∧ c_57 g o 57 e := by
  obtain ⟨e, h1, h2⟩ := iv_at (q := 57) iv (by rw [ow_57 iv]; decide)
  unfold w_ty at h2
  rw [ow_57 iv] at h2
  exact ⟨e, h1, h2⟩
theorem is_57 (iv : w_Inv g o h) (hs : h_st h 57 e h') (hc : c_57 g o 57 e) : w_Inv g o h' := iv_st iv hs (by unfold w_ty; rw [ow_57 iv]; exact hc)
theorem iv_58 (iv : w_Inv g o h) : ∃ e, m_at h.2.2 58 = some e ∧ c_58 g o 58 e := by
  obtain ⟨e, h1, h2⟩ := iv_at (q := 58) iv (by rw [ow_58 iv]; decide)
  unfold w_ty at h2
  rw [ow_58 iv] at h2
  exact ⟨e, h1, h2⟩
theorem is_58 (iv : w_Inv g o h) (hs : h_st h 58 e h') (hc : c_58 g o 58 e) : w_Inv g o h' := iv_st iv hs (by unfold w_ty; rw [ow_58 iv]; exact hc)
theorem iv_59 (iv : w_Inv g o h) : ∃ e, m_at h.2.2 59 = some e ∧ c_59 g o 59 e := by
  obtain ⟨e, h1, h2⟩ := iv_at (q := 59) iv (by rw [ow_59 iv]; decide)
  unfold w_ty at h2
  rw [ow_59 iv] at h2
  exact ⟨e, h1, h2⟩
theorem is_59 (iv : w_Inv g o h) (hs : h_st h 59 e h') (hc : c_59 g o 59 e) : w_Inv g o h' := iv_st iv hs (by unfold w_ty; rw [ow_59 iv]; exact hc)
theorem iv_60 (iv : w_Inv g o h) : ∃ e, m_at h.2.2 60 = some e ∧ c_60 g o 60 e := by
  obtain ⟨e, h1, h2⟩ := iv_at (q := 60) iv (by rw [ow_60 iv]; decide)
  unfold w_ty at h2
  rw [ow_60 iv] at h2
  exact ⟨e, h1, h2⟩
theorem is_60 (iv : w_Inv g o h) (hs : h_st h 60 e h') (hc : c_60 g o 60 e) : w_Inv g o h' := iv_st iv hs (by unfold w_ty; rw [ow_60 iv]; exact hc)
theorem iv_61 (iv : w_Inv g o h) : ∃ e, m_at h.2.2 61 = some e ∧ c_61 g o 61 e := by
  obtain ⟨e, h1, h2⟩ := iv_at (q := 61) iv (by rw [ow_61 iv]; decide)
  unfold w_ty at h2
  rw [ow_61 iv] at h2
  exact ⟨e, h1, h2⟩
theorem is_61 (iv : w_Inv g o h) (hs : h_st h 61 e h') (hc : c_61 g o 61 e) : w_Inv g o h' := iv_st iv hs (by unfold w_ty; rw [ow_61 iv]; exact hc)
theorem iv_62 (iv : w_Inv g o h) : ∃ e, m_at h.2.2 62 = some e ∧ c_62 g o 62 e := by
  obtain ⟨e, h1, h2⟩ := iv_at (q := 62) iv (by rw [ow_62 iv]; decide)
  unfold w_ty at h2
  rw [ow_62 iv] at h2
  exact ⟨e, h1, h2⟩
theorem is_62 (iv : w_Inv g o h) (hs : h_st h 62 e h') (hc : c_62 g o 62 e) : w_Inv g o h' := iv_st iv hs (by unfold w_ty; rw [ow_62 iv]; exact hc)
theorem iv_63 (iv : w_Inv g o h) : ∃ e, m_at h.2.2 63 = some e ∧ c_63 g o 63 e := by
  obtain ⟨e, h1, h2⟩ := iv_at (q := 63) iv (by rw [ow_63 iv]; decide)
  unfold w_ty at h2
  rw [ow_63 iv] at h2
  exact ⟨e, h1, h2⟩
theorem is_63 (iv : w_Inv g o h) (hs : h_st h 63 e h') (hc : c_63 g o 63 e) : w_Inv g o h' := iv_st iv hs (by unfold w_ty; rw [ow_63 iv]; exact hc)
theorem iv_64 (iv : w_Inv g o h) : ∃ e, m_at h.2.2 64 = some e ∧ c_64 g o 64 e := by
  obtain ⟨e, h1, h2⟩ := iv_at (q := 64) iv (by rw [ow_64 iv]; decide)
  unfold w_ty at h2
  rw [ow_64 iv] at h2
  exact ⟨e, h1, h2⟩
theorem is_64 (iv : w_Inv g o h) (hs : h_st h 64 e h') (hc : c_64 g o 64 e) : w_Inv g o h' := iv_st iv hs (by unfold w_ty; rw [ow_64 iv]; exact hc)
theorem iv_65 (iv : w_Inv g o h) : ∃ e, m_at h.2.2 65 = some e ∧ c_65 g o 65 e := by
  obtain ⟨e, h1, h2⟩ := iv_at (q := 65) iv (by rw [ow_65 iv]; decide)
  unfold w_ty at h2
  rw [ow_65 iv] at h2
  exact ⟨e, h1, h2⟩
theorem is_65 (iv : w_Inv g o h) (hs : h_st h 65 e h') (hc : c_65 g o 65 e) : w_Inv g o h' := iv_st iv hs (by unfold w_ty; rw [ow_65 iv]; exact hc)
theorem iv_66 (iv : w_Inv g o h) : ∃ e, m_at h.2.2 66 = some e ∧ c_66 g o 66 e := by
  obtain ⟨e, h1, h2⟩ := iv_at (q := 66) iv (by rw [ow_66 iv]; decide)
  unfold w_ty at h2
  rw [ow_66 iv] at h2
  exact ⟨e, h1, h2⟩
theorem is_66 (iv : w_Inv g o h) (hs : h_st h 66 e h') (hc : c_66 g o 66 e) : w_Inv g o h' := iv_st iv hs (by unfold w_ty; rw [ow_66 iv]; exact hc)
theorem iv_100 (iv : w_Inv g o h) (ht : (o q).1 = 100) : ∃ e, m_at h.2.2 q = some e ∧ c_100 g o q e := by
  obtain ⟨e, h1, h2⟩ := iv_at (q := q) iv (by rw [ht]; decide)
  unfold w_ty at h2
  rw [ht] at h2
  exact ⟨e, h1, h2⟩
theorem is_100 (iv : w_Inv g o h) (ht : (o q).1 = 100) (hs : h_st h q e h') (hc : c_100 g o q e) : w_Inv g o h' := iv_st iv hs (by unfold w_ty; rw [ht]; exact hc)
theorem iv_101 (iv : w_Inv g o h) (ht : (o q).1 = 101) : ∃ e, m_at h.2.2 q = some e ∧ c_101 g o q e := by
  obtain ⟨e, h1, h2⟩ := iv_at (q := q) iv (by rw [ht]; decide)
  unfold w_ty at h2
  rw [ht] at h2
  exact ⟨e, h1, h2⟩
theorem is_101 (iv : w_Inv g o h) (ht : (o q).1 = 101) (hs : h_st h q e h') (hc : c_101 g o q e) : w_Inv g o h' := iv_st iv hs (by unfold w_ty; rw [ht]; exact hc)
theorem iv_102 (iv : w_Inv g o h) (ht : (o q).1 = 102) : ∃ e, m_at h.2.2 q = some e ∧ c_102 g o q e := by
  obtain ⟨e, h1, h2⟩ := iv_at (q := q) iv (by rw [ht]; decide)
  unfold w_ty at h2
  rw [ht] at h2
  exact ⟨e, h1, h2⟩
theorem is_102 (iv : w_Inv g o h) (ht : (o q).1 = 102) (hs : h_st h q e h') (hc : c_102 g o q e) : w_Inv g o h' := iv_st iv hs (by unfold w_ty; rw [ht]; exact hc)
theorem iv_103 (iv : w_Inv g o h) (ht : (o q).1 = 103) : ∃ e, m_at h.2.2 q = some e ∧ c_103 g o q e := by
  obtain ⟨e, h1, h2⟩ := iv_at (q := q) iv (by rw [ht]; decide)
  unfold w_ty at h2
  rw [ht] at h2
  exact ⟨e, h1, h2⟩
theorem is_103 (iv : w_Inv g o h) (ht : (o q).1 = 103) (hs : h_st h q e h') (hc : c_103 g o q e) : w_Inv g o h' := iv_st iv hs (by unfold w_ty; rw [ht]; exact hc)
theorem iv_104 (iv : w_Inv g o h) (ht : (o q).1 = 104) : ∃ e, m_at h.2.2 q = some e ∧ c_104 g o q e := by
  obtain ⟨e, h1, h2⟩ := iv_at (q := q) iv (by rw [ht]; decide)
  unfold w_ty at h2
  rw [ht] at h2
  exact ⟨e, h1, h2⟩
theorem is_104 (iv : w_Inv g o h) (ht : (o q).1 = 104) (hs : h_st h q e h') (hc : c_104 g o q e) : w_Inv g o h' := iv_st iv hs (by unfold w_ty; rw [ht]; exact hc)
theorem iv_110 (iv : w_Inv g o h) (ht : (o q).1 = 110) : ∃ e, m_at h.2.2 q = some e ∧ c_110 g o q e := by
  obtain ⟨e, h1, h2⟩ := iv_at (q := q) iv (by rw [ht]; decide)
  unfold w_ty at h2
  rw [ht] at h2
  exact ⟨e, h1, h2⟩
theorem is_110 (iv : w_Inv g o h) (ht : (o q).1 = 110) (hs : h_st h q e h') (hc : c_110 g o q e) : w_Inv g o h' := iv_st iv hs (by unfold w_ty; rw [ht]; exact hc)
theorem iv_111 (iv : w_Inv g o h) (ht : (o q).1 = 111) : ∃ e, m_at h.2.2 q = some e ∧ c_111 g o q e := by
  obtain ⟨e, h1, h2⟩ := iv_at (q := q) iv (by rw [ht]; decide)
  unfold w_ty at h2
  rw [ht] at h2
  exact ⟨e, h1, h2⟩
theorem is_111 (iv : w_Inv g o h) (ht : (o q).1 = 111) (hs : h_st h q e h') (hc : c_111 g o q e) : w_Inv g o h' := iv_st iv hs (by unfold w_ty; rw [ht]; exact hc)
theorem iv_112 (iv : w_Inv g o h) (ht : (o q).1 = 112) : ∃ e, m_at h.2.2 q = some e ∧ c_112 g o q e := by
  obtain ⟨e, h1, h2⟩ := iv_at (q := q) iv (by rw [ht]; decide)
  unfold w_ty at h2
  rw [ht] at h2
  exact ⟨e, h1, h2⟩
theorem is_112 (iv : w_Inv g o h) (ht : (o q).1 = 112) (hs : h_st h q e h') (hc : c_112 g o q e) : w_Inv g o h' := iv_st iv hs (by unfold w_ty; rw [ht]; exact hc)
theorem iv_120 (iv : w_Inv g o h) (ht : (o q).1 = 120) : ∃ e, m_at h.2.2 q = some e ∧ c_120 g o q e := by
  obtain ⟨e, h1, h2⟩ := iv_at (q := q) iv (by rw [ht]; decide)
  unfold w_ty at h2
  rw [ht] at h2
  exact ⟨e, h1, h2⟩
theorem is_120 (iv : w_Inv g o h) (ht : (o q).1 = 120) (hs : h_st h q e h') (hc : c_120 g o q e) : w_Inv g o h' := iv_st iv hs (by unfold w_ty; rw [ht]; exact hc)
theorem iv_130 (iv : w_Inv g o h) (ht : (o q).1 = 130) : ∃ e, m_at h.2.2 q = some e ∧ c_130 g o q e := by
  obtain ⟨e, h1, h2⟩ := iv_at (q := q) iv (by rw [ht]; decide)
  unfold w_ty at h2
  rw [ht] at h2
  exact ⟨e, h1, h2⟩
theorem is_130 (iv : w_Inv g o h) (ht : (o q).1 = 130) (hs : h_st h q e h') (hc : c_130 g o q e) : w_Inv g o h' := iv_st iv hs (by unfold w_ty; rw [ht]; exact hc)
theorem iv_131 (iv : w_Inv g o h) (ht : (o q).1 = 131) : ∃ e, m_at h.2.2 q = some e ∧ c_131 g o q e := by
  obtain ⟨e, h1, h2⟩ := iv_at (q := q) iv (by rw [ht]; decide)
  unfold w_ty at h2
  rw [ht] at h2
  exact ⟨e, h1, h2⟩
theorem is_131 (iv : w_Inv g o h) (ht : (o q).1 = 131) (hs : h_st h q e h') (hc : c_131 g o q e) : w_Inv g o h' := iv_st iv hs (by unfold w_ty; rw [ht]; exact hc)
theorem iv_140 (iv : w_Inv g o h) (ht : (o q).1 = 140) : ∃ e, m_at h.2.2 q = some e ∧ c_140 g o q e := by
  obtain ⟨e, h1, h2⟩ := iv_at (q := q) iv (by rw [ht]; decide)
  unfold w_ty at h2
  rw [ht] at h2
  exact ⟨e, h1, h2⟩
theorem is_140 (iv : w_Inv g o h) (ht : (o q).1 = 140) (hs : h_st h q e h') (hc : c_140 g o q e) : w_Inv g o h' := iv_st iv hs (by unfold w_ty; rw [ht]; exact hc)
end
