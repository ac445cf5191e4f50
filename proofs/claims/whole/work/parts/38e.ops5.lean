theorem in1 (a : Int32) {m : Nat} {M : Int64} (hm : m < 2 ^ 31) (hM : M.toInt = (m : Int)) : (∃ j, 1 ≤ j ∧ j ≤ m ∧ a = nI j ∧ ¬ f_X6_in a.toInt64 1 M = 0) ∨ ((a < 1 ∨ nI m < a) ∧ f_X6_in a.toInt64 1 M = 0) := by
  have h := in_ok2 a.toInt64 1 M
  rw [Int32.toInt_toInt64, hM, show (1 : Int64).toInt = 1 from rfl] at h
  by_cases h0 : a < 1
  · exact Or.inr ⟨Or.inl h0, h.mpr (Or.inl (Int32.lt_iff_toInt_lt.mp h0))⟩
  · have h00 : ¬ a < 0 := fun h1 => h0 (Int32.lt_trans h1 (by decide))
    obtain ⟨j, hj, rfl⟩ := nI_of h00
    rw [nI_toInt hj] at h
    have hj1 : 1 ≤ j := by
      refine Classical.byContradiction fun hx => h0 ?_
      rw [show j = 0 by omega]; decide
    by_cases h1 : j ≤ m
    · exact Or.inl ⟨j, hj1, h1, rfl, fun e => by have := h.mp e; omega⟩
    · exact Or.inr ⟨Or.inr (nI_lt (by omega) hj), h.mpr (Or.inr (by omega))⟩
theorem does300 {cl : Nat → Nat} {n : Nat} (lies kind pg : Nat → Int32) : (f_X6_does cl n lies kind pg 300).2 = (f_X6_goRain cl n lies kind pg).2 := by
  unfold f_X6_does
  rw [if_pos rfl]
theorem does200 {cl : Nat → Nat} {n c : Nat} (hc : c < 4) (lies kind pg : Nat → Int32) : (f_X6_does cl n lies kind pg (nI (200 + c))).2 = (f_X6_strikes cl n lies kind pg (nI c)).2 := by
  unfold f_X6_does
  have q300 : ¬ nI (200 + c) = (300 : Int32) := fun a => by have := (eqN (b := 300) (by omega) (by omega) rfl).mp a; omega
  rw [if_neg q300, dg100 (by omega), dg10 (by omega), dg1 (by omega), show (200 + c) / 100 = 2 by omega, show (200 + c) / 10 % 10 = 0 by omega, show (200 + c) % 10 = c by omega, if_neg (show ¬ nI 2 = (5 : Int32) by decide), if_pos (show nI 0 = (0 : Int32) from rfl), if_neg (show ¬ nI 2 = (1 : Int32) by decide), if_pos (show nI 2 = (2 : Int32) from rfl), if_neg (show ¬ nI 2 = (4 : Int32) by decide)]
  split <;> rfl
theorem does100 {cl : Nat → Nat} {n c : Nat} (hc : c < 4) (lies kind pg : Nat → Int32) : (f_X6_does cl n lies kind pg (nI (100 + c))).2 = (f_X6_goPut cl n c lies kind pg).2 := by
  unfold f_X6_does
  have q300 : ¬ nI (100 + c) = (300 : Int32) := fun a => by have := (eqN (b := 300) (by omega) (by omega) rfl).mp a; omega
  rw [if_neg q300, dg100 (by omega), dg10 (by omega), dg1 (by omega), show (100 + c) / 100 = 1 by omega, show (100 + c) / 10 % 10 = 0 by omega, show (100 + c) % 10 = c by omega, if_neg (show ¬ nI 1 = (5 : Int32) by decide), if_pos (show nI 0 = (0 : Int32) from rfl), if_pos (show nI 1 = (1 : Int32) from rfl), if_pos (noCol0 hc), nI_clamp (by omega)]
  split <;> rfl
theorem chance_ok {n sp : Nat} {cl kd : Nat → Nat} {plain key stair air : Int32} {cells kinds lies kind : Nat → Int32} (hI : Idea n sp cl kd plain key stair air cells kinds lies kind) {fr : Int32} {pg : Nat → Int32} (hF : FR n sp cl kd fr pg) {x : Nat} (hx : x < 16) : FR n sp cl kd (f_X5_withChance (nI sp) plain key stair air fr (nI x)) (if (9 : Int32) ≤ nI x then (if (15 : Int32) ≤ nI x then (f_X6_does cl n lies kind pg 300).2 else (f_X6_does cl n lies kind pg (200 + jr (nI x) 4)).2) else (f_X6_does cl n lies kind pg (100 + jr (nI x) 4)).2) := by
  obtain ⟨h, hF⟩ := hF
  have ej : jr (nI x) (4 : Int32) = nI (x % 4) := jr_nI (d := 4) (by omega) (by omega) (by omega)
  unfold f_X5_withChance f_X5_withChoice
  rw [ej, show (200 : Int32) = nI 200 from rfl, show (100 : Int32) = nI 100 from rfl, nI_add, nI_add]
  by_cases e : x = 15
  · subst e
    rw [if_pos (show nI 15 = (15 : Int32) from rfl), if_pos (show (9 : Int32) ≤ nI 15 by decide), if_pos (show (15 : Int32) ≤ nI 15 by decide), does300]
    exact ⟨h, (rain_ok hI hF).1⟩
  · rw [if_neg (show ¬ nI x = (15 : Int32) from fun a => e ((eqN (b := 15) (by omega) (by omega) rfl).mp a))]
    by_cases e8 : 8 < x
    · rw [if_pos (show (8 : Int32) < nI x from nI_lt (a := 8) e8 (by omega)), if_pos (show (9 : Int32) ≤ nI x from nI_le (a := 9) (by omega) (by omega)), if_neg (show ¬ (15 : Int32) ≤ nI x from nI_ge (b := 15) (by omega) (by omega)), does200 (by omega), if_neg (show ¬ (2 : Int32) = 1 by decide), if_pos rfl]
      rcases tryStrike hI hF (show x % 4 < 4 by omega) with ⟨a, b⟩ | ⟨a, b, d⟩
      · rw [if_pos a, b]; exact ⟨h, hF⟩
      · rw [if_neg a]; exact d
    · rw [if_neg (show ¬ (8 : Int32) < nI x from nI_nlt (a := 8) (by omega) (by omega)), if_neg (show ¬ (9 : Int32) ≤ nI x from nI_ge (b := 9) (by omega) (by omega)), does100 (by omega), if_pos rfl, if_neg (show ¬ (1 : Int32) = 2 by decide)]
      rcases tryPut hI hF (show x % 4 < 4 by omega) with ⟨a, b⟩ | ⟨a, b, d⟩
      · rw [if_pos a, b]; exact ⟨h, hF⟩
      · rw [if_neg a]; exact d
theorem terms_l {n sp : Nat} {cl kd : Nat → Nat} {plain key stair air : Int32} {cells kinds lies kind : Nat → Int32} (hI : Idea n sp cl kd plain key stair air cells kinds lies kind) : ∀ (d i : Nat) (fr sm : Int32) (sd : Int64) (t : Nat → Int32), FR n sp cl kd fr t → (f_X5_terms_l24 (nI sp) plain key stair air d i fr sm sd).2.1 = (f_X6_terms_l28 cl n lies kind d i sm sd t).1 ∧ (f_X5_terms_l24 (nI sp) plain key stair air d i fr sm sd).2.2 = (f_X6_terms_l28 cl n lies kind d i sm sd t).2.1 := by
  intro d
  induction d with
  | zero => intro i fr sm sd t _; rw [f_X5_terms_l24_z, f_X6_terms_l28_z]; exact ⟨rfl, rfl⟩
  | succ d ih =>
    intro i fr sm sd t hF
    rw [f_X5_terms_l24_s, f_X6_terms_l28_s]
    generalize sdN sd = s
    obtain ⟨x, hx, e⟩ := sdX_ok s
    rw [e]
    have hc := chance_ok hI hF hx
    unfold idd
    by_cases e9 : (9 : Int32) ≤ nI x
    · rw [if_pos e9] at hc ⊢
      by_cases e15 : (15 : Int32) ≤ nI x
      · rw [if_pos e15] at hc ⊢
        obtain ⟨h, hF'⟩ := hc
        rw [← countHad_ok hI hF']
        exact ih (i + 1) _ _ s _ ⟨h, hF'⟩
      · rw [if_neg e15] at hc ⊢
        obtain ⟨h, hF'⟩ := hc
        rw [← countHad_ok hI hF']
        exact ih (i + 1) _ _ s _ ⟨h, hF'⟩
    · rw [if_neg e9] at hc ⊢
      obtain ⟨h, hF'⟩ := hc
      rw [← countHad_ok hI hF']
      exact ih (i + 1) _ _ s _ ⟨h, hF'⟩
theorem op_terms (L sp n na tr : Nat) (cl kd : Nat → Nat) (now rains plain key stair air thrown place readStock readCells readParts soonMany soonWhich kindMany kindFirst restMany restFirst : Int32) (text triedAbout triedIs cells kinds frames rainsB kept keptF keptR lies kind readPart page trial book keptM isKept gains value : Nat → Int32) (seed : Int64) (a1 : Int32) (hC : Core L sp n na tr cl kd now rains plain key stair air text cells kinds frames rainsB triedIs kept keptF keptR lies kind page book keptM isKept) : (f_X5_terms now (nI sp) plain key stair air seed a1).1 = (f_X6_terms cl n lies kind page trial seed a1).1 ∧ LInv now rains (nI L) (nI sp) (nI n) plain key stair air (nI na) (nI tr) text cells kinds frames rainsB triedAbout triedIs kept keptF keptR (f_X5_terms now (nI sp) plain key stair air seed a1).2 (f_X6_terms cl n lies kind page trial seed a1).2.1 (nI L) place (nI sp) (nI n) readStock readCells readParts (nI na) (nI tr) soonMany soonWhich kindMany kindFirst restMany restFirst text lies kind readPart page (f_X6_terms cl n lies kind page trial seed a1).2.2.1 book keptM isKept triedAbout triedIs gains value (f_X6_terms cl n lies kind page trial seed a1).2.2.2 := by
  have hI := hC.hI
  unfold f_X5_terms f_X6_terms
  rcases in1 a1 (m := 30) (M := 30) (by omega) rfl with ⟨j, h1, h2, rfl, h3⟩ | ⟨h1, h2⟩
  · rw [if_neg (show ¬ nI j < (1 : Int32) from nI_nlt (b := 1) h1 (by omega)), if_pos (show nI j ≤ (30 : Int32) from nI_le (b := 30) h2 (by omega)), if_neg h3]
    have ht := terms_l hI (nI j).toNatClampNeg 0 now 0 seed (f_X6_begin page trial) (FR_congr (fun k hk => begin_at page trial k (by omega)) hC.hfr)
    refine ⟨ht.1, ?_⟩
    dsimp only
    rw [ht.2]
    exact linv hC
  · rw [if_pos h2]
    by_cases h0 : a1 < 1
    · rw [if_pos h0]; exact ⟨rfl, linv hC⟩
    · rw [if_neg h0, if_neg (fun h5 => by
        rcases h1 with h1 | h1
        · exact h0 h1
        · exact absurd h5 (Int32.not_le.mpr h1))]
      exact ⟨rfl, linv hC⟩
theorem from_l : ∀ (k i A : Nat), A < 2 ^ 63 → f_X5_doingFromEnd_l5 k i (lN A) = lN (A / 1000 ^ k) := by
  intro k
  induction k with
  | zero => intro i A _; rw [f_X5_doingFromEnd_l5_z, Nat.pow_zero, Nat.div_one]
  | succ k ih =>
    intro i A hA
    rw [f_X5_doingFromEnd_l5_s, show (1000 : Int64) = lN 1000 from rfl, pk_lDiv hA (by omega) (by omega), ih (i + 1) _ (by omega), Nat.div_div_eq_div_mul, Nat.pow_succ, Nat.mul_comm]
theorem doing_ok {k A : Nat} (hA : A < 2 ^ 63) : f_X5_doingFromEnd k (lN A) = nI (A / 1000 ^ k % 1000) := by
  unfold f_X5_doingFromEnd jrl
  have hq : A / 1000 ^ k < 2 ^ 63 := Nat.lt_of_le_of_lt (Nat.div_le_self _ _) hA
  rw [from_l k 0 A hA, show (1000 : Int64) = lN 1000 from rfl, pk_lRem hq (by omega) (by omega), lN_i]
theorem doing_ref {k A : Nat} (hk : k ≤ 4) (hA : A < 2 ^ 63) : (jrl (lN A / lN (1000 ^ k)) 1000).toInt32 = nI (A / 1000 ^ k % 1000) := by
  have hp : 1000 ^ k ≤ 1000 ^ 4 := Nat.pow_le_pow_right (by omega) hk
  have hq : A / 1000 ^ k < 2 ^ 63 := Nat.lt_of_le_of_lt (Nat.div_le_self _ _) hA
  unfold jrl
  rw [pk_lDiv hA (Nat.pow_pos (by omega)) (by omega), show (1000 : Int64) = lN 1000 from rfl, pk_lRem hq (by omega) (by omega), lN_i]
theorem judge_l {n sp : Nat} {cl kd : Nat → Nat} {plain key stair air : Int32} {cells kinds lies kind : Nat → Int32} (hI : Idea n sp cl kd plain key stair air cells kinds lies kind) {K A : Nat} (hK : K ≤ 4) (hA : A < 2 ^ 63) : ∀ (d i : Nat) (fr : Int32) (t : Nat → Int32), FR n sp cl kd fr t → f_X5_judge_l39 (nI sp) (nI n) plain key stair air cells (nI K) (lN A) d i fr = (f_X6_judge_l44 cl n lies kind (nI K) (lN A) d i t).1 := by
  intro d
  induction d with
  | zero => intro i fr t _; rw [f_X5_judge_l39_z, f_X6_judge_l44_z]
  | succ d ih =>
    intro i fr t hF
    rw [f_X5_judge_l39_s, f_X6_judge_l44_s, nI_clamp (by omega), doing_ok hA, doing_ref (by omega) hA]
    rcases does_ok hI hF (show A / 1000 ^ (K - 1 - i) % 1000 < 1000 from Nat.mod_lt _ (by omega)) with ⟨a, b⟩ | ⟨a, b, c⟩
    · rw [if_pos a, if_pos b]
    · rw [if_neg a, if_neg b]
      exact ih (i + 1) _ _ c
theorem pw10 : ∀ k, k ≤ 4 → f_X5_powerOfTen (3 * k) = lN (1000 ^ k) := by decide +kernel
theorem op_judge (L sp n na tr : Nat) (cl kd : Nat → Nat) (now rains plain key stair air thrown place readStock readCells readParts soonMany soonWhich kindMany kindFirst restMany restFirst : Int32) (text triedAbout triedIs cells kinds frames rainsB kept keptF keptR lies kind readPart page trial book keptM isKept gains value : Nat → Int32) (seed : Int64) (a1 : Int32) (a2 : Int64) (hC : Core L sp n na tr cl kd now rains plain key stair air text cells kinds frames rainsB triedIs kept keptF keptR lies kind page book keptM isKept) : (f_X5_judge now (nI sp) (nI n) plain key stair air cells a1 a2) = (f_X6_judge cl n lies kind page trial a1 a2).1 ∧ LInv now rains (nI L) (nI sp) (nI n) plain key stair air (nI na) (nI tr) text cells kinds frames rainsB triedAbout triedIs kept keptF keptR seed (f_X6_judge cl n lies kind page trial a1 a2).2.1 (nI L) place (nI sp) (nI n) readStock readCells readParts (nI na) (nI tr) soonMany soonWhich kindMany kindFirst restMany restFirst text lies kind readPart page (f_X6_judge cl n lies kind page trial a1 a2).2.2 book keptM isKept triedAbout triedIs gains value seed := by
  have hI := hC.hI
  unfold f_X5_judge f_X6_judge
  rcases in1 a1 (m := 4) (M := 4) (by omega) rfl with ⟨K, h1, h2, rfl, h3⟩ | ⟨h1, h2⟩
  · have hp : 1000 ^ K ≤ 1000 ^ 4 := Nat.pow_le_pow_right (by omega) h2
    have hp1 : 1 ≤ 1000 ^ K := Nat.pow_pos (by omega)
    rw [if_neg (show ¬ nI K < (1 : Int32) from nI_nlt (b := 1) h1 (by omega)), if_neg (show ¬ (4 : Int32) < nI K from nI_nlt (a := 4) h2 (by omega)), if_neg h3, nI_clamp (by omega), pw10 K h2, lp1000 K h2]
    have h := in_ok2 a2 0 (lN (1000 ^ K) - 1)
    rw [show (1 : Int64) = lN 1 from rfl, lN_sub hp1, pk_lT (by omega), show (0 : Int64).toInt = 0 from rfl] at h
    rw [show (1 : Int64) = lN 1 from rfl, lN_sub hp1]
    by_cases e : lg_cmp a2 0 < 0
    · have e' := lgc_lt.mp e
      rw [if_pos e, if_pos (h.mpr (Or.inl e'))]; exact ⟨rfl, linv hC⟩
    · rw [if_neg e]
      have hn : ¬ a2 < 0 := fun hx => e (lgc_lt.mpr (Int64.lt_iff_toInt_lt.mp hx))
      obtain ⟨A, hA, rfl⟩ := pk_lOf hn
      rw [pk_lT hA] at h
      by_cases e2 : lg_cmp (lN A) (lN (1000 ^ K)) < 0
      · have e3 := lgc_lt.mp e2
        rw [pk_lT hA, pk_lT (by omega)] at e3
        rw [if_pos e2, if_neg (fun hx => by have := h.mp hx; omega)]
        refine ⟨?_, linv hC⟩
        exact judge_l hI h2 hA K 0 now (f_X6_begin page trial) (FR_congr (fun k hk => begin_at page trial k (by omega)) hC.hfr)
      · have e3 : ¬ (lN A).toInt < (lN (1000 ^ K)).toInt := fun hx => e2 (lgc_lt.mpr hx)
        rw [pk_lT hA, pk_lT (by omega)] at e3
        rw [if_neg e2, if_pos (h.mpr (Or.inr (by omega)))]
        exact ⟨rfl, linv hC⟩
  · rw [if_pos h2]
    by_cases h0 : a1 < 1
    · rw [if_pos h0]; exact ⟨rfl, linv hC⟩
    · rw [if_neg h0, if_pos (by
        rcases h1 with h1 | h1
        · exact absurd h1 h0
        · exact h1)]
      exact ⟨rfl, linv hC⟩
theorem b_6 : ∀ i, i < 32 → bt 6 i = (decide (i = 1) || decide (i = 2)) := by decide +kernel
theorem b_25 : ∀ i, i < 32 → bt 25 i = (decide (i = 0) || (decide (i = 3) || decide (i = 4))) := by decide +kernel
theorem and6 (x : Int32) : x &&& 6 = 6 ↔ bt x 1 = true ∧ bt x 2 = true := by
  constructor
  · intro e
    have h1 : bt (x &&& 6) 1 = bt 6 1 := by rw [e]
    have h2 : bt (x &&& 6) 2 = bt 6 2 := by rw [e]
    rw [b_and, b_6 1 (by omega)] at h1
    rw [b_and, b_6 2 (by omega)] at h2
    simp at h1 h2
    exact ⟨h1, h2⟩
  · rintro ⟨h1, h2⟩
    apply b_ext
    intro i hi
    rw [b_and, b_6 i hi]
    by_cases e1 : i = 1
    · subst e1; rw [h1]; rfl
    · by_cases e2 : i = 2
      · subst e2; rw [h2]; rfl
      · rw [decide_eq_false e1, decide_eq_false e2]; simp
theorem and25 (x : Int32) : x &&& 25 = 0 ↔ bt x 0 = false ∧ bt x 3 = false ∧ bt x 4 = false := by
  constructor
  · intro e
    have h1 : bt (x &&& 25) 0 = false := by rw [e, b_0]
    have h2 : bt (x &&& 25) 3 = false := by rw [e, b_0]
    have h3 : bt (x &&& 25) 4 = false := by rw [e, b_0]
    rw [b_and, b_25 _ (by omega)] at h1 h2 h3
    simp at h1 h2 h3
    exact ⟨h1, h2, h3⟩
  · rintro ⟨h1, h2, h3⟩
    apply b_ext
    intro i hi
    rw [b_and, b_25 i hi, b_0]
    by_cases e1 : i = 0
    · subst e1; rw [h1]; rfl
    · by_cases e2 : i = 3
      · subst e2; rw [h2]; rfl
      · by_cases e3 : i = 4
        · subst e3; rw [h3]; rfl
        · rw [decide_eq_false e1, decide_eq_false e2, decide_eq_false e3]; simp
/-- what the class says of a kind and what the reference says -/
theorem would_ok {k m : Nat} (hk : k < 4) (hm : m < 4) (a : Int32) : (f_X4_wouldStand (nI k) (nI m) a = 1 ∧ (m = 0 ∨ ¬ f_X6_standsBy (nI k) (f_X6_has a 0) (f_X6_has a 1) (f_X6_has a 2) (f_X6_has a 3) (f_X6_has a 4) = 0)) ∨ (f_X4_wouldStand (nI k) (nI m) a = 0 ∧ ¬ m = 0 ∧ f_X6_standsBy (nI k) (f_X6_has a 0) (f_X6_has a 1) (f_X6_has a 2) (f_X6_has a 3) (f_X6_has a 4) = 0) := by
  have t0 : ¬ f_X6_has a 0 = 0 ↔ bt a 0 = true := has_t (n := 0) (by omega) a
  have t1 : ¬ f_X6_has a 1 = 0 ↔ bt a 1 = true := has_t (n := 1) (by omega) a
  have t2 : ¬ f_X6_has a 2 = 0 ↔ bt a 2 = true := has_t (n := 2) (by omega) a
  have t3 : ¬ f_X6_has a 3 = 0 ↔ bt a 3 = true := has_t (n := 3) (by omega) a
  have t4 : ¬ f_X6_has a 4 = 0 ↔ bt a 4 = true := has_t (n := 4) (by omega) a
  have hS := standsBy_ok hk (f_X6_has a 0) (f_X6_has a 1) (f_X6_has a 2) (f_X6_has a 3) (f_X6_has a 4)
  rw [t0, t1, t2, t3, t4] at hS
  generalize f_X6_standsBy (nI k) (f_X6_has a 0) (f_X6_has a 1) (f_X6_has a 2) (f_X6_has a 3) (f_X6_has a 4) = S at hS ⊢
  unfold f_X4_wouldStand
  by_cases e : m = 0
  · subst e; rw [if_pos (show nI 0 = (0 : Int32) from rfl)]; exact Or.inl ⟨rfl, Or.inl rfl⟩
  · rw [if_neg (show ¬ nI m = (0 : Int32) from fun h => e ((eqN (b := 0) (by omega) (by omega) rfl).mp h))]
    have yes : (k = 3 ∨ k = 0 ∧ bt a 0 = true ∨ k = 1 ∧ bt a 1 = true ∧ bt a 2 = true ∨ k = 2 ∧ (bt a 0 = true ∨ bt a 3 = true ∨ bt a 4 = true)) → m = 0 ∨ ¬ S = 0 := fun h => Or.inr (hS.mpr h)
    have no : ¬ (k = 3 ∨ k = 0 ∧ bt a 0 = true ∨ k = 1 ∧ bt a 1 = true ∧ bt a 2 = true ∨ k = 2 ∧ (bt a 0 = true ∨ bt a 3 = true ∨ bt a 4 = true)) → ¬ m = 0 ∧ S = 0 := fun h => ⟨e, Classical.byContradiction fun hx => h (hS.mp hx)⟩
    rcases (show k = 0 ∨ k = 1 ∨ k = 2 ∨ k = 3 by omega) with rfl | rfl | rfl | rfl
    · rw [if_pos (show nI 0 = (0 : Int32) from rfl), and1]
      cases hb : bt a 0
      · exact Or.inr ⟨rfl, no (by simp [hb])⟩
      · exact Or.inl ⟨rfl, yes (by simp [hb])⟩
    · rw [if_neg (show ¬ nI 1 = (0 : Int32) by decide), if_pos (show nI 1 = (1 : Int32) from rfl)]
      by_cases h6 : a &&& 6 = 6
      · rw [if_pos h6]; exact Or.inl ⟨rfl, yes (Or.inr (Or.inr (Or.inl ⟨rfl, (and6 a).mp h6⟩)))⟩
      · rw [if_neg h6]
        refine Or.inr ⟨rfl, no (fun h => ?_)⟩
        rcases h with h | h | h | h
        · omega
        · omega
        · exact h6 ((and6 a).mpr h.2)
        · omega
    · rw [if_neg (show ¬ nI 2 = (0 : Int32) by decide), if_neg (show ¬ nI 2 = (1 : Int32) by decide), if_pos (show nI 2 = (2 : Int32) from rfl)]
      by_cases h6 : a &&& 25 = 0
      · have q := (and25 a).mp h6
        rw [if_pos h6]
        refine Or.inr ⟨rfl, no (fun h => ?_)⟩
        rcases h with h | h | h | h
        · omega
        · omega
        · omega
        · rw [q.1, q.2.1, q.2.2] at h
          rcases h.2 with h | h | h <;> cases h
      · rw [if_neg h6]
        refine Or.inl ⟨rfl, yes (Or.inr (Or.inr (Or.inr ⟨rfl, ?_⟩)))⟩
        refine Classical.byContradiction fun hx => h6 ((and25 a).mpr ?_)
        refine ⟨?_, ?_, ?_⟩
        · cases hb : bt a 0
          · rfl
          · exact absurd (Or.inl hb) hx
        · cases hb : bt a 3
          · rfl
          · exact absurd (Or.inr (Or.inl hb)) hx
        · cases hb : bt a 4
          · rfl
          · exact absurd (Or.inr (Or.inr hb)) hx
    · rw [if_neg (show ¬ nI 3 = (0 : Int32) by decide), if_neg (show ¬ nI 3 = (1 : Int32) by decide), if_neg (show ¬ nI 3 = (2 : Int32) by decide)]
      exact Or.inl ⟨rfl, yes (Or.inl rfl)⟩
theorem kinds42 {k m : Nat} (hk : k < 4) (hm : m < 4) (ab st : Nat → Int32) : ∀ (d j : Nat), (∀ i, i < j + d → st i = 0 ∨ st i = 1) → f_X6_kinds_l42 ab st (4 * k + m) d j 0 = 0 ∧ f_X6_kinds_l42 ab st (4 * k + m) d j 1 = f_X4_agreeWith_l2 ab st (nI k) (nI m) d j := by
  intro d
  induction d with
  | zero => intro j _; rw [f_X6_kinds_l42_z, f_X6_kinds_l42_z, f_X4_agreeWith_l2_z]; exact ⟨rfl, rfl⟩
  | succ d ih =>
    intro j hs
    have hi := ih (j + 1) (fun i hi => hs i (by omega))
    have hst := hs j (by omega)
    have e1 : nI (4 * k + m) / (4 : Int32) = nI k := by
      have : nI (4 * k + m) / nI 4 = _ := pk_div (by omega) (by omega) (by omega)
      rw [show (4 : Int32) = nI 4 from rfl, this]; congr 1; omega
    have e2 : jr (nI (4 * k + m)) (4 : Int32) = nI m := by
      have : jr (nI (4 * k + m)) (nI 4) = _ := jr_nI (by omega) (by omega) (by omega)
      rw [show (4 : Int32) = nI 4 from rfl, this]; congr 1; omega
    have q0 : nI m = (0 : Int32) ↔ m = 0 := eqN (by omega) (by omega) rfl
    rw [f_X6_kinds_l42_s, f_X6_kinds_l42_s, f_X4_agreeWith_l2_s, e1, e2, if_pos rfl, if_pos rfl, if_neg one_ne, if_neg one_ne]
    constructor
    · rw [hi.1, ite_self, ite_self]
    · rw [hi.1, hi.2]
      rcases would_ok hk hm (ab j) with ⟨w, p⟩ | ⟨w, p, q⟩
      · rw [w]
        have hx : (if st j = 1 then f_X4_agreeWith_l2 ab st (nI k) (nI m) d (j + 1) else 0) = (if (1 : Int32) = st j then f_X4_agreeWith_l2 ab st (nI k) (nI m) d (j + 1) else 0) := by
          rcases hst with e | e
          · rw [e, if_neg (by decide), if_neg (by decide)]
          · rw [e]
        by_cases em : m = 0
        · rw [if_pos (q0.mpr em), hx]
        · rw [if_neg (fun a => em (q0.mp a)), if_neg (p.resolve_left em), hx]
      · rw [w, if_neg (fun a => p (q0.mp a)), if_pos q]
        rcases hst with e | e
        · rw [e, if_neg (by decide), if_pos rfl]
        · rw [e, if_pos rfl, if_neg (by decide)]
theorem kinds27 {tr k : Nat} (hk : k < 4) {ab st : Nat → Int32} (hs : ∀ i, i < tr → st i = 0 ∨ st i = 1) (r : Nat) : ∀ (d j : Nat) (km kf : Int32), j + d = 4 → f_X6_kinds_l31 tr ab st (r + d) (4 * k + j) km kf = f_X6_kinds_l31 tr ab st r (4 * k + 4) (f_X5_kinds_l27 tr ab st k d j km kf).1 (f_X5_kinds_l27 tr ab st k d j km kf).2 := by
  intro d
  induction d with
  | zero => intro j km kf hj; rw [f_X5_kinds_l27_z, show j = 4 by omega]; rfl
  | succ d ih =>
    intro j km kf hj
    have h42 := (kinds42 hk (show j < 4 by omega) ab st tr 0 (fun i hi => hs i (by omega))).2
    have e1 : nI (4 * k + j) / (4 : Int32) = nI k := by
      have : nI (4 * k + j) / nI 4 = _ := pk_div (by omega) (by omega) (by omega)
      rw [show (4 : Int32) = nI 4 from rfl, this]; congr 1; omega
    have e2 : jr (nI (4 * k + j)) (4 : Int32) = nI j := by
      have : jr (nI (4 * k + j)) (nI 4) = _ := jr_nI (by omega) (by omega) (by omega)
      rw [show (4 : Int32) = nI 4 from rfl, this]; congr 1; omega
    rw [← Nat.add_assoc, f_X6_kinds_l31_s, f_X5_kinds_l27_s, h42, e1, e2, Nat.add_assoc]
    unfold f_X4_agreeWith
    by_cases ea : f_X4_agreeWith_l2 ab st (nI k) (nI j) tr 0 = 0
    · rw [if_pos ea, if_pos ea, if_pos ea, Int32.add_zero]
      exact ih (j + 1) km kf (by omega)
    · rw [if_neg ea, if_neg ea, if_neg ea, if_neg ea]
      by_cases e0 : km = 0
      · rw [if_pos e0, if_pos e0]; exact ih (j + 1) _ _ (by omega)
      · rw [if_neg e0, if_neg e0]; exact ih (j + 1) _ _ (by omega)
theorem kinds18 {tr : Nat} {ab st : Nat → Int32} (hs : ∀ i, i < tr → st i = 0 ∨ st i = 1) : ∀ (D k : Nat) (km kf : Int32), k + D = 4 → f_X6_kinds_l31 tr ab st (4 * D) (4 * k) km kf = f_X5_kinds_l18 tr ab st D k km kf := by
  intro D
  induction D with
  | zero => intro k km kf _; rw [f_X5_kinds_l18_z]; exact f_X6_kinds_l31_z
  | succ D ih =>
    intro k km kf hk
    rw [f_X5_kinds_l18_s, ← ih (k + 1) _ _ (by omega)]
    exact kinds27 (show k < 4 by omega) hs (4 * D) 4 0 km kf (by omega)
theorem count_cases (a : Int32) : (f_X5_isCountOrFirst a = 0 ∧ f_X6_in a.toInt64 0 1 = 0) ∨ (¬ f_X5_isCountOrFirst a = 0 ∧ ¬ f_X6_in a.toInt64 0 1 = 0) := by
  unfold f_X5_isCountOrFirst
  rcases in32 a (m := 1) (M := 1) (by omega) rfl with ⟨c, hc, rfl, h⟩ | ⟨h1, h2⟩
  · refine Or.inr ⟨?_, h⟩
    rcases (show c = 0 ∨ c = 1 by omega) with rfl | rfl <;> decide
  · refine Or.inl ⟨?_, h2⟩
    rw [if_neg (fun e => by subst e; rcases h1 with h1 | h1 <;> exact absurd h1 (by decide)), if_neg (fun e => by subst e; rcases h1 with h1 | h1 <;> exact absurd h1 (by decide))]
theorem op_kinds (L sp n na tr : Nat) (cl kd : Nat → Nat) (now rains plain key stair air thrown place readStock readCells readParts soonMany soonWhich kindMany kindFirst restMany restFirst : Int32) (text triedAbout triedIs cells kinds frames rainsB kept keptF keptR lies kind readPart page trial book keptM isKept gains value : Nat → Int32) (seed : Int64) (a1 : Int32) (hC : Core L sp n na tr cl kd now rains plain key stair air text cells kinds frames rainsB triedIs kept keptF keptR lies kind page book keptM isKept) : (f_X5_kinds tr triedAbout triedIs a1) = (f_X6_kinds tr kindMany kindFirst triedAbout triedIs a1).1 ∧ LInv now rains (nI L) (nI sp) (nI n) plain key stair air (nI na) (nI tr) text cells kinds frames rainsB triedAbout triedIs kept keptF keptR seed (f_X6_kinds tr kindMany kindFirst triedAbout triedIs a1).2.1 (nI L) place (nI sp) (nI n) readStock readCells readParts (nI na) (nI tr) soonMany soonWhich (f_X6_kinds tr kindMany kindFirst triedAbout triedIs a1).2.2.1 (f_X6_kinds tr kindMany kindFirst triedAbout triedIs a1).2.2.2 restMany restFirst text lies kind readPart page trial book keptM isKept triedAbout triedIs gains value seed := by
  unfold f_X5_kinds f_X6_kinds
  have hs := kinds18 (ab := triedAbout) hC.2.2.2.2.2.2.2 4 0 0 (-9) (by omega)
  rw [show 4 * 4 = 16 from rfl, show 4 * 0 = 0 from rfl] at hs
  rw [hs]
  rcases count_cases a1 with ⟨h1, h2⟩ | ⟨h1, h2⟩
  · rw [if_pos h1, if_pos h2]; exact ⟨rfl, linv hC⟩
  · rw [if_neg h1, if_neg h2]
    by_cases e : a1 = 0
    · rw [if_pos e, if_pos e]; exact ⟨rfl, linv hC⟩
    · rw [if_neg e, if_neg e]; exact ⟨rfl, linv hC⟩
