theorem vi_a {x b : Int32} {n : Nat} (hb : b.toInt = (n : Int)) (h0 : ¬ x < 0) (h : x < b) : vp_in x n := by
  rw [vp_in_iff]
  rw [Int32.lt_iff_toInt_lt] at h0 h
  have e : (0 : Int32).toInt = 0 := by decide
  omega
theorem vi_b {x b : Int32} {n : Nat} (hb : b.toInt = (n : Int)) (h0 : ¬ x < 0) (h : ¬ b ≤ x) : vp_in x n := by
  rw [vp_in_iff]
  rw [Int32.lt_iff_toInt_lt] at h0
  rw [Int32.le_iff_toInt_le] at h
  have e : (0 : Int32).toInt = 0 := by decide
  omega
theorem i_rng (x : Int32) : -2147483648 ≤ x.toInt ∧ x.toInt < 2147483648 := by
  have h1 := Int32.le_toInt x
  have h2 := Int32.toInt_lt x
  omega
theorem i_bmod {z : Int} (h1 : -2147483648 ≤ z) (h2 : z < 2147483648) : z.bmod (2 ^ 32) = z := by
  rw [Int.bmod_def]; omega
theorem i_sub {x y : Int32} (h1 : -2147483648 ≤ x.toInt - y.toInt) (h2 : x.toInt - y.toInt < 2147483648) : (x - y).toInt = x.toInt - y.toInt := by
  rw [Int32.toInt_sub, i_bmod h1 h2]
theorem i_add {x y : Int32} (h1 : -2147483648 ≤ x.toInt + y.toInt) (h2 : x.toInt + y.toInt < 2147483648) : (x + y).toInt = x.toInt + y.toInt := by
  rw [Int32.toInt_add, i_bmod h1 h2]
theorem vi_c {x b : Int32} {n : Nat} (hb : b.toInt = (n : Int)) (h0 : ¬ x ≤ 0) (h : ¬ b < x) : vp_in (x - 1) n := by
  rw [vp_in_iff]
  rw [Int32.le_iff_toInt_le] at h0
  rw [Int32.lt_iff_toInt_lt] at h
  have e : (0 : Int32).toInt = 0 := by decide
  have e1 : (1 : Int32).toInt = 1 := by decide
  have r := i_rng x
  rw [i_sub (by omega) (by omega)]
  omega
theorem nar_z {x : Int32} (h : x = 0 ∨ x = 1) : vp_nar .boolean x = x := by
  rcases h with rfl | rfl <;> rfl
theorem nar_b {x : Int32} (h : x = 0 ∨ x = 1) : narrow .boolean (.int x) = .int x := by
  rcases h with rfl | rfl <;> rfl
theorem nar_i (x : Int32) : narrow .int (.int x) = .int x := rfl
theorem lt_nI {x : Int32} {i : Nat} (h : x.toInt < (i : Int)) (hi : i < 2 ^ 31) : x < nI i := by
  rw [Int32.lt_iff_toInt_lt, nI_toInt hi]; exact h
theorem nI_self {x : Int32} (h : ¬ x < 0) : x = nI x.toNatClampNeg := by
  obtain ⟨j, hj, rfl⟩ := nI_of h
  rw [nI_clamp hj]
theorem nI_self1 {x : Int32} (h : ¬ x < 1) : x = nI x.toNatClampNeg := nI_self (fun h2 => h (by
  rw [Int32.lt_iff_toInt_lt] at h2 ⊢
  have e : (0 : Int32).toInt = 0 := by decide
  have e1 : (1 : Int32).toInt = 1 := by decide
  omega))
theorem cl_le {x b : Int32} {n : Nat} (hb : b.toInt = (n : Int)) (h : ¬ b < x) : x.toNatClampNeg ≤ n := by
  rw [Int32.lt_iff_toInt_lt] at h
  have : x.toNatClampNeg = x.toInt.toNat := rfl
  omega
theorem cl_le' {x b : Int32} {n : Nat} (hb : b.toInt = (n : Int)) (h : x ≤ b) : x.toNatClampNeg ≤ n := by
  rw [Int32.le_iff_toInt_le] at h
  have : x.toNatClampNeg = x.toInt.toNat := rfl
  omega
theorem ne0_of_ge {x : Int32} (h : 1 ≤ x) : ¬ x = 0 := by
  intro h2; rw [h2] at h; exact absurd h (by decide)
theorem shl_pow : ∀ n, n < 31 → shl 1 (nI n) = nI (2 ^ n) := by decide +kernel
theorem pow7 : ∀ n, n ≤ 7 → 2 ^ n ≤ 128 := by decide
def kA : Int64 := 6364136223846793005
def kB : Int64 := 1442695040888963407
def sdN (s : Int64) : Int64 := s * kA + kB
def sdX (s : Int64) : Int32 := (jrl (ushl s (33 : Int32)) (16 : Int64)).toInt32
