theorem pw_add {c a b : Int} (ha : 0 ≤ a) (hb : 0 ≤ b) : w_pw c (a + b) = w_pw c a * w_pw c b := by
  unfold w_pw
  rw [Int.toNat_add ha hb, Int.pow_add]
/-- one digit of a town changes, and a town it is -/
theorem dig_st {c i n x t : Int} (hc : 1 ≤ c) (i0 : 0 ≤ i) (i1 : i < n) (x0 : 0 ≤ x) (x1 : x < w_pw c n) (t0 : 0 ≤ t) (t1 : t < c) : 0 ≤ x + w_pw c i * (t - x / w_pw c i % c) ∧ x + w_pw c i * (t - x / w_pw c i % c) < w_pw c n := by
  have hu := pw_pos hc i
  have hM := pw_pos hc (n - 1 - i)
  have eN : w_pw c n = w_pw c i * (c * w_pw c (n - 1 - i)) := by
    have e1 := pw_add (c := c) (a := i + 1) (b := n - 1 - i) (by omega) (by omega)
    rw [show i + 1 + (n - 1 - i) = n from by omega, pw_s i0] at e1
    rw [e1, Int.mul_assoc]
  rw [eN] at x1 ⊢
  generalize w_pw c i = u at *
  generalize w_pw c (n - 1 - i) = M at *
  have hq : x / u < c * M := Int.ediv_lt_of_lt_mul (by omega) (by rw [Int.mul_comm]; exact x1)
  have hq0 : 0 ≤ x / u := Int.ediv_nonneg x0 (by omega)
  have e1 : u * (x / u) + x % u = x := by have := Int.emod_def x u; omega
  have r0 : 0 ≤ x % u := Int.emod_nonneg _ (by omega)
  have r1 : x % u < u := Int.emod_lt_of_pos _ (by omega)
  generalize x / u = q at *
  have hp : q / c < M := Int.ediv_lt_of_lt_mul (by omega) (by rw [Int.mul_comm]; exact hq)
  have hp0 : 0 ≤ q / c := Int.ediv_nonneg hq0 (by omega)
  have e2 : q - q % c = c * (q / c) := by have := Int.emod_def q c; omega
  generalize q / c = p at *
  generalize q % c = d at *
  have a1 : c * p ≤ c * (M - 1) := Int.mul_le_mul_of_nonneg_left (by omega) (by omega)
  have a2 : c * (M - 1) = c * M - c := by rw [Int.mul_sub, Int.mul_one]
  have a3 : 0 ≤ c * p := Int.mul_nonneg (by omega) hp0
  have a4 : u * (c * p + t) ≤ u * (c * M - 1) := Int.mul_le_mul_of_nonneg_left (by omega) (by omega)
  have a5 : u * (c * M - 1) = u * (c * M) - u := by rw [Int.mul_sub, Int.mul_one]
  have a6 : 0 ≤ u * (c * p + t) := Int.mul_nonneg (by omega) (by omega)
  have a7 : u * (c * p + t) = u * q + u * (t - d) := by rw [← e2, ← Int.mul_add]; congr 1; omega
  omega
/-- a town's digit, and the town behind a step -/
def w_dg (g : w_G) (x i : Int) : Int := x / w_pw (g_mC g) i % g_mC g
def w_bs (g : w_G) (x i t : Int) : Int := x + w_pw (g_mC g) i * (t - w_dg g x i)
