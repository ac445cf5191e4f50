theorem jr_nI {a d : Nat} (ha : a < 2 ^ 31) (h0 : 0 < d) (hd : d < 2 ^ 31) : jr (nI a) (nI d) = nI (a % d) := pk_rem ha h0 hd
theorem le_nI {x : Int32} {i : Nat} (h : x.toInt ≤ (i : Int)) (hi : i < 2 ^ 31) : x ≤ nI i := by
  rw [Int32.le_iff_toInt_le, nI_toInt hi]; exact h
theorem jr_toInt (x y : Int32) (hy : ¬ y = 0) : (jr x y).toInt = x.toInt.tmod y.toInt := by
  have hy0 : y.toInt ≠ 0 := fun h => hy (Int32.toInt_inj.mp h)
  have ry := i_rng y
  have h1 : (jr x y).toInt = (x.toInt - x.toInt.tdiv y.toInt * y.toInt).bmod (2 ^ 32) := by
    unfold jr
    rw [Int32.toInt_sub, Int32.toInt_mul, Int32.toInt_div]
    simp only [Int.sub_bmod_bmod, Int.bmod_mul_bmod]
  have h2 : x.toInt - x.toInt.tdiv y.toInt * y.toInt = x.toInt.tmod y.toInt := by
    have := Int.tmod_def x.toInt y.toInt
    rw [this, Int.mul_comm]
  rw [h1, h2]
  have h3 : (x.toInt.tmod y.toInt).natAbs < y.toInt.natAbs := by
    rw [Int.natAbs_tmod]
    exact Nat.mod_lt _ (by omega)
  exact i_bmod (by omega) (by omega)
theorem jr_lt {x y : Int32} (hy : ¬ y = 0) : (jr x y).toInt.natAbs < y.toInt.natAbs := by
  rw [jr_toInt x y hy, Int.natAbs_tmod]
  have hy0 : y.toInt ≠ 0 := fun h => hy (Int32.toInt_inj.mp h)
  exact Nat.mod_lt _ (by omega)
theorem i0_of {x : Int32} (h : x.toInt.natAbs ≤ 0) : x = 0 := Int32.toInt_inj.mp (by
  have e : (0 : Int32).toInt = 0 := by decide
  omega)
theorem lgc_lt {x y : Int64} : lg_cmp x y < 0 ↔ x.toInt < y.toInt := by
  unfold lg_cmp
  by_cases h1 : x > y
  · rw [if_pos h1]
    have h2 : y.toInt < x.toInt := Int64.lt_iff_toInt_lt.mp h1
    exact ⟨fun h => absurd h (by decide), fun h => by omega⟩
  · rw [if_neg h1]
    have h3 : ¬ y.toInt < x.toInt := fun h => h1 (Int64.lt_iff_toInt_lt.mpr h)
    by_cases h2 : x = y
    · rw [if_pos h2]
      have h4 : x.toInt = y.toInt := by rw [h2]
      exact ⟨fun h => absurd h (by decide), fun h => by omega⟩
    · rw [if_neg h2]
      have h4 : ¬ x.toInt = y.toInt := fun h => h2 (Int64.toInt_inj.mp h)
      exact ⟨fun h => by omega, fun h => by decide⟩
theorem lgc_gt {x y : Int64} : 0 < lg_cmp x y ↔ y.toInt < x.toInt := by
  unfold lg_cmp
  by_cases h1 : x > y
  · rw [if_pos h1]
    have h2 : y.toInt < x.toInt := Int64.lt_iff_toInt_lt.mp h1
    exact ⟨fun h => h2, fun h => by decide⟩
  · rw [if_neg h1]
    have h3 : ¬ y.toInt < x.toInt := fun h => h1 (Int64.lt_iff_toInt_lt.mpr h)
    by_cases h2 : x = y
    · rw [if_pos h2]
      exact ⟨fun h => absurd h (by decide), fun h => absurd h h3⟩
    · rw [if_neg h2]
      exact ⟨fun h => absurd h (by decide), fun h => absurd h h3⟩
theorem MW_ad {cI cZ : ClassId} {q : Nat → Nat} {thrown textSize place stock parts readStock readCells readParts acts tried soonMany soonWhich kindMany kindFirst restMany restFirst : Int32} {text lies kind readPart page trial book kept isKept triedAbout triedIs gains value : Nat → Int32} {seed : Int64} : (MW cI cZ q thrown textSize place stock parts readStock readCells readParts acts tried soonMany soonWhich kindMany kindFirst restMany restFirst text lies kind readPart page trial book kept isKept triedAbout triedIs gains value seed).map Prod.fst = [q 0, q 1, q 2, q 3, q 4, q 5, q 6, q 7, q 8, q 9, q 10, q 11, q 12, q 13] := rfl
