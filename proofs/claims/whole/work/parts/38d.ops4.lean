theorem ushl33 (s : Int64) : ∃ m, m < 2 ^ 31 ∧ ushl s (33 : Int32) = lN m := by
  have hs := s.toBitVec.isLt
  refine ⟨s.toBitVec.toNat / 2 ^ 33, by omega, ?_⟩
  apply Int64.toBitVec_inj.1
  unfold ushl
  have e : ((((33 : Int32).toInt64.toUInt64 &&& Int64.toUInt64 63)).toBitVec % 64).toNat = 33 := by decide
  show (s.toUInt64 >>> ((33 : Int32).toInt64.toUInt64 &&& Int64.toUInt64 63)).toBitVec = BitVec.ofNat 64 (s.toBitVec.toNat / 2 ^ 33)
  rw [UInt64.toBitVec_shiftRight]
  show s.toBitVec >>> (((33 : Int32).toInt64.toUInt64 &&& Int64.toUInt64 63).toBitVec % 64).toNat = _
  rw [e]
  apply BitVec.eq_of_toNat_eq
  rw [BitVec.toNat_ushiftRight, BitVec.toNat_ofNat, Nat.shiftRight_eq_div_pow, Nat.mod_eq_of_lt (by omega)]
theorem sdX_ok (s : Int64) : ∃ x, x < 16 ∧ sdX s = nI x := by
  obtain ⟨m, hm, e⟩ := ushl33 s
  refine ⟨m % 16, by omega, ?_⟩
  unfold sdX jrl
  rw [e, show (16 : Int64) = lN 16 from rfl, pk_lRem (by omega) (by omega) (by omega), lN_i]
theorem canPut_ok {n sp : Nat} {cl kd h : Nat → Nat} {fr : Int32} {pg : Nat → Int32} (h9 : sp ≤ 9) (hF : FRh n sp cl kd h fr pg) {c : Nat} (hc : c < 4) : f_X2_canPut (nI sp) fr (nI c) = if h 0 + h 1 + h 2 + h 3 < sp ∧ h c < 4 then 1 else 0 := by
  unfold f_X2_canPut
  have h4 := (hF.1 c hc).2
  rw [store_ok hF, height_ok hF hc]
  by_cases e : h 0 + h 1 + h 2 + h 3 < sp
  · rw [if_neg (nI_nle (by omega) (by omega))]
    by_cases e2 : h c < 4
    · rw [if_neg (show ¬ (4 : Int32) ≤ nI (h c) from nI_ge (b := 4) e2 (by omega)), if_pos ⟨e, e2⟩]
    · rw [if_pos (show (4 : Int32) ≤ nI (h c) from nI_le (a := 4) (by omega) (by omega)), if_neg (fun a => e2 a.2)]
  · rw [show sp - (h 0 + h 1 + h 2 + h 3) = 0 by omega, if_pos (show nI 0 ≤ (0 : Int32) by decide), if_neg (fun a => e a.1)]
/-- to put, if it can be -/
theorem tryPut {n sp : Nat} {cl kd h : Nat → Nat} {plain key stair air : Int32} {cells kinds lies kind : Nat → Int32} (hI : Idea n sp cl kd plain key stair air cells kinds lies kind) {fr : Int32} {pg : Nat → Int32} (hF : FRh n sp cl kd h fr pg) {c : Nat} (hc : c < 4) : (f_X2_canPut (nI sp) fr (nI c) = 0 ∧ f_X6_goPut cl n c lies kind pg = (0, pg)) ∨ (¬ f_X2_canPut (nI sp) fr (nI c) = 0 ∧ (f_X6_goPut cl n c lies kind pg).1 = 1 ∧ FR n sp cl kd (f_X2_withPut plain key stair air fr (nI c)) (f_X6_goPut cl n c lies kind pg).2) := by
  have h9 : sp ≤ 9 := hI.2.1
  have h4 := (hF.1 c hc).2
  rw [canPut_ok h9 hF hc]
  by_cases e : h 0 + h 1 + h 2 + h 3 < sp ∧ h c < 4
  · rw [if_pos e]
    have hp := put_ok hI hF hc e.2 e.1
    exact Or.inr ⟨by decide, hp.1, ⟨_, hp.2⟩⟩
  · rw [if_neg e]
    refine Or.inl ⟨rfl, ?_⟩
    unfold f_X6_goPut
    by_cases e1 : h 0 + h 1 + h 2 + h 3 < sp
    · have : h c = 4 := by
        have : ¬ h c < 4 := fun a => e ⟨e1, a⟩
        omega
      rw [if_neg (by rw [hF.2.2.1]; exact nI_ne0 (by omega) (by omega)), if_pos (show pg c = (4 : Int32) from (pg0 hF hc (v := 4) (by omega)).mpr this)]
    · rw [if_pos (by rw [hF.2.2.1, show sp - (h 0 + h 1 + h 2 + h 3) = 0 by omega]; rfl)]
theorem noCol0 {c : Nat} (hc : c < 4) : f_X6_noColumn (nI c) = 0 := by
  rcases col_cases (nI c) with ⟨_, _, _, _, h⟩ | ⟨h, _⟩
  · exact h
  · exfalso
    unfold f_X5_isColumn at h
    rw [if_neg (nI_pos (by omega)), if_neg (show ¬ (4 : Int32) ≤ nI c from nI_ge (b := 4) (by omega) (by omega))] at h
    exact absurd h (by decide)
/-- to strike, if it can be -/
theorem tryStrike {n sp : Nat} {cl kd h : Nat → Nat} {plain key stair air : Int32} {cells kinds lies kind : Nat → Int32} (hI : Idea n sp cl kd plain key stair air cells kinds lies kind) {fr : Int32} {pg : Nat → Int32} (hF : FRh n sp cl kd h fr pg) {c : Nat} (hc : c < 4) : (f_X2_canStrike fr (nI c) = 0 ∧ f_X6_strikes cl n lies kind pg (nI c) = (0, pg)) ∨ (¬ f_X2_canStrike fr (nI c) = 0 ∧ (f_X6_strikes cl n lies kind pg (nI c)).1 = 1 ∧ FR n sp cl kd (f_X2_withStruck plain key stair air fr (nI c)) (f_X6_strikes cl n lies kind pg (nI c)).2) := by
  have h4 := (hF.1 c hc).2
  unfold f_X6_strikes
  rw [canStrike_ok hF hc, if_pos (noCol0 hc), nI_clamp (by omega), (hF.1 c hc).1]
  by_cases e : h c = 0
  · rw [if_pos e, e, if_pos (show nI 0 ≤ (0 : Int32) by decide)]
    exact Or.inl ⟨rfl, rfl⟩
  · rw [if_neg e, if_neg (nI_nle (by omega) (by omega))]
    exact Or.inr ⟨by decide, rfl, ⟨_, strike_ok hI hF hc (by omega)⟩⟩
theorem choice_ok {n sp : Nat} {cl kd : Nat → Nat} {plain key stair air : Int32} {cells kinds lies kind : Nat → Int32} (hI : Idea n sp cl kd plain key stair air cells kinds lies kind) {fr : Int32} {pg : Nat → Int32} (hF : FR n sp cl kd fr pg) {c m : Nat} (hc : c < 4) (hm : m < 3) : FR n sp cl kd (f_X5_withChoice (nI sp) plain key stair air fr (nI c) (nI m)) (f_X6_chooses cl n c lies kind pg (nI m)) := by
  obtain ⟨h, hF⟩ := hF
  unfold f_X5_withChoice f_X6_chooses
  rcases (show m = 0 ∨ m = 1 ∨ m = 2 by omega) with rfl | rfl | rfl
  · rw [if_neg (show ¬ nI 0 = (1 : Int32) by decide), if_neg (show ¬ nI 0 = (2 : Int32) by decide), if_neg (show ¬ nI 0 = (1 : Int32) by decide), if_neg (show ¬ nI 0 = (2 : Int32) by decide)]
    exact ⟨h, hF⟩
  · rw [if_pos (show nI 1 = (1 : Int32) from rfl), if_neg (show ¬ nI 1 = (2 : Int32) by decide), if_pos (show nI 1 = (1 : Int32) from rfl), if_neg (show ¬ nI 1 = (2 : Int32) by decide)]
    rcases tryPut hI hF hc with ⟨a, b⟩ | ⟨a, b, c⟩
    · rw [if_pos a, b]; exact ⟨h, hF⟩
    · rw [if_neg a]; exact c
  · rw [if_neg (show ¬ nI 2 = (1 : Int32) by decide), if_pos (show nI 2 = (2 : Int32) from rfl), if_neg (show ¬ nI 2 = (1 : Int32) by decide), if_pos (show nI 2 = (2 : Int32) from rfl)]
    rcases tryStrike hI hF hc with ⟨a, b⟩ | ⟨a, b, c⟩
    · rw [if_pos a, b]; exact ⟨h, hF⟩
    · rw [if_neg a]; exact c
theorem dg100 {x : Nat} (hx : x < 1000) : nI x / (100 : Int32) = nI (x / 100) := pk_div (d := 100) (by omega) (by omega) (by omega)
theorem dg10 {x : Nat} (hx : x < 1000) : jr (nI x / (10 : Int32)) (10 : Int32) = nI (x / 10 % 10) := by
  have h : nI x / (10 : Int32) = nI (x / 10) := pk_div (d := 10) (by omega) (by omega) (by omega)
  rw [h]
  exact jr_nI (d := 10) (by omega) (by omega) (by omega)
theorem dg1 {x : Nat} (hx : x < 1000) : jr (nI x) (10 : Int32) = nI (x % 10) := jr_nI (d := 10) (by omega) (by omega) (by omega)
theorem eqN {a b : Nat} {B : Int32} (ha : a < 2 ^ 31) (hb : b < 2 ^ 31) (hB : B = nI b) : nI a = B ↔ a = b := by rw [hB]; exact nI_eq ha hb
theorem one_ne : ¬ (1 : Int32) = 0 := by decide
/-- a doing: the class and the reference allow it and do it alike -/
theorem does_ok {n sp : Nat} {cl kd : Nat → Nat} {plain key stair air : Int32} {cells kinds lies kind : Nat → Int32} (hI : Idea n sp cl kd plain key stair air cells kinds lies kind) {fr : Int32} {pg : Nat → Int32} (hF : FR n sp cl kd fr pg) {x : Nat} (hx : x < 1000) : (f_X5_canBe (nI sp) (nI n) cells fr (nI x) = 0 ∧ (f_X6_does cl n lies kind pg (nI x)).1 = 0) ∨ (¬ f_X5_canBe (nI sp) (nI n) cells fr (nI x) = 0 ∧ ¬ (f_X6_does cl n lies kind pg (nI x)).1 = 0 ∧ FR n sp cl kd (f_X5_withDoing plain key stair air fr (nI x)) (f_X6_does cl n lies kind pg (nI x)).2) := by
  obtain ⟨h, hF⟩ := hF
  unfold f_X5_canBe f_X6_does f_X5_withDoing
  rw [dg100 hx, dg10 hx, dg1 hx]
  have q300 : nI x = (300 : Int32) ↔ x = 300 := eqN (by omega) (by omega) rfl
  have qa : ∀ k, k < 10 → (nI (x / 100) = nI k ↔ x / 100 = k) := fun k hk => nI_eq (by omega) (by omega)
  have qb : nI (x / 10 % 10) = (0 : Int32) ↔ x / 10 % 10 = 0 := eqN (by omega) (by omega) rfl
  have qc : nI (x % 10) = (0 : Int32) ↔ x % 10 = 0 := eqN (by omega) (by omega) rfl
  by_cases e3 : x = 300
  · subst e3
    rw [if_pos (q300.mpr rfl)]
    rw [if_neg (show ¬ nI (300 / 100) = (1 : Int32) by decide), if_neg (show ¬ nI (300 / 100) = (2 : Int32) by decide), if_pos (show nI (300 / 100) = (3 : Int32) by decide), if_pos (show nI (300 / 10 % 10) = (0 : Int32) by decide), if_pos (show nI (300 % 10) = (0 : Int32) by decide), if_neg (show ¬ nI (300 / 100) = (1 : Int32) by decide), if_neg (show ¬ nI (300 / 100) = (2 : Int32) by decide), if_pos (show nI (300 / 100) = (3 : Int32) by decide)]
    exact Or.inr ⟨one_ne, one_ne, ⟨h, (rain_ok hI hF).1⟩⟩
  rw [if_neg (fun a => e3 (q300.mp a))]
  by_cases ea5 : x / 100 = 5
  · rw [ea5, if_neg (show ¬ nI 5 = (1 : Int32) by decide), if_neg (show ¬ nI 5 = (2 : Int32) by decide), if_neg (show ¬ nI 5 = (3 : Int32) by decide), if_neg (show ¬ nI 5 = (4 : Int32) by decide), if_pos (show nI 5 = (5 : Int32) from rfl), if_pos (show nI 5 = (5 : Int32) from rfl), if_neg (show ¬ nI 5 = (1 : Int32) by decide), if_neg (show ¬ nI 5 = (2 : Int32) by decide), if_neg (show ¬ nI 5 = (3 : Int32) by decide)]
    rcases col_cases (nI (x / 10 % 10)) with ⟨c, hc, ec, h1, h2⟩ | ⟨h1, h2⟩
    · rw [if_neg h1, if_pos h2, ec, height_ok hF hc, nI_clamp (by omega), (hF.1 c hc).1]
      by_cases e : nI (h c) < nI (x % 10)
      · rw [if_pos e, if_pos e]; exact Or.inl ⟨rfl, rfl⟩
      · rw [if_neg e, if_neg e]; exact Or.inr ⟨one_ne, one_ne, ⟨h, hF⟩⟩
    · rw [if_pos h1, if_neg h2]; exact Or.inl ⟨rfl, rfl⟩
  rw [if_neg (show ¬ nI (x / 100) = (5 : Int32) from fun a => ea5 ((qa 5 (by omega)).mp a)), if_neg (show ¬ nI (x / 100) = (5 : Int32) from fun a => ea5 ((qa 5 (by omega)).mp a))]
  by_cases eb : x / 10 % 10 = 0
  · rw [eb]
    by_cases ea1 : x / 100 = 1
    · rw [ea1, if_pos (show nI 0 = (0 : Int32) from rfl), if_pos (show nI 1 = (1 : Int32) from rfl), if_pos (show nI 0 = (0 : Int32) from rfl), if_pos (show nI 1 = (1 : Int32) from rfl), if_pos (show nI 1 = (1 : Int32) from rfl)]
      rcases col_cases (nI (x % 10)) with ⟨c, hc, ec, h1, h2⟩ | ⟨h1, h2⟩
      · rw [if_neg h1, if_pos h2, ec, nI_clamp (by omega)]
        rcases tryPut hI hF hc with ⟨a, b⟩ | ⟨a, b, d⟩
        · rw [if_pos a, b]; exact Or.inl ⟨rfl, rfl⟩
        · rw [if_neg a, b, if_neg one_ne]; exact Or.inr ⟨one_ne, one_ne, d⟩
      · rw [if_pos h1, if_neg h2]; exact Or.inl ⟨rfl, rfl⟩
    rw [if_neg (show ¬ nI (x / 100) = (1 : Int32) from fun a => ea1 ((qa 1 (by omega)).mp a)), if_neg (show ¬ nI (x / 100) = (1 : Int32) from fun a => ea1 ((qa 1 (by omega)).mp a)), if_neg (show ¬ nI (x / 100) = (1 : Int32) from fun a => ea1 ((qa 1 (by omega)).mp a))]
    by_cases ea2 : x / 100 = 2
    · rw [ea2, if_pos (show nI 2 = (2 : Int32) from rfl), if_pos (show nI 0 = (0 : Int32) from rfl), if_pos (show nI 0 = (0 : Int32) from rfl), if_pos (show nI 2 = (2 : Int32) from rfl), if_pos (show nI 2 = (2 : Int32) from rfl), if_neg (show ¬ nI 2 = (4 : Int32) by decide)]
      rcases col_cases (nI (x % 10)) with ⟨c, hc, ec, h1, h2⟩ | ⟨h1, h2⟩
      · rw [if_neg h1, ec]
        rcases tryStrike hI hF hc with ⟨a, b⟩ | ⟨a, b, d⟩
        · rw [if_pos a, b]; exact Or.inl ⟨rfl, rfl⟩
        · rw [if_neg a, b, if_neg one_ne]; exact Or.inr ⟨one_ne, one_ne, d⟩
      · rw [if_pos h1]
        unfold f_X6_strikes
        rw [if_neg h2]; exact Or.inl ⟨rfl, rfl⟩
    rw [if_neg (show ¬ nI (x / 100) = (2 : Int32) from fun a => ea2 ((qa 2 (by omega)).mp a)), if_neg (show ¬ nI (x / 100) = (2 : Int32) from fun a => ea2 ((qa 2 (by omega)).mp a)), if_neg (show ¬ nI (x / 100) = (2 : Int32) from fun a => ea2 ((qa 2 (by omega)).mp a)), if_pos (show nI 0 = (0 : Int32) from rfl)]
    by_cases ea4 : x / 100 = 4
    · rw [ea4, if_neg (show ¬ nI 4 = (3 : Int32) by decide), if_pos (show nI 4 = (4 : Int32) from rfl), if_pos (show nI 0 = (0 : Int32) from rfl), if_pos (show nI 4 = (4 : Int32) from rfl), if_neg (show ¬ nI 4 = (3 : Int32) by decide)]
      unfold f_X2_cellOf
      rcases part_cases hI.1 (nI (x % 10)) with ⟨j, hj, ej, h1, h2⟩ | ⟨h1, h2⟩
      · have h7 := hI.1
        have hcj := hI.c16 hj
        rw [if_neg h1, if_neg h1, if_pos h2, ej, nI_clamp (by omega), hI.2.2.2.1 j hj, shr1 (by omega), has_bt (by omega), had_p hI hF hj]
        cases bt (pg 5) j
        · exact Or.inl ⟨rfl, rfl⟩
        · exact Or.inr ⟨one_ne, one_ne, ⟨h, hF⟩⟩
      · rw [if_pos h1, if_neg h2]; exact Or.inl ⟨rfl, rfl⟩
    rw [if_neg (show ¬ nI (x / 100) = (4 : Int32) from fun a => ea4 ((qa 4 (by omega)).mp a)), if_neg (show ¬ nI (x / 100) = (4 : Int32) from fun a => ea4 ((qa 4 (by omega)).mp a))]
    refine Or.inl ⟨?_, rfl⟩
    by_cases ea3 : x / 100 = 3
    · rw [if_pos (show nI (x / 100) = (3 : Int32) from (qa 3 (by omega)).mpr ea3), if_neg (fun a => by have := qc.mp a; omega)]
    · rw [if_neg (show ¬ nI (x / 100) = (3 : Int32) from fun a => ea3 ((qa 3 (by omega)).mp a))]
  · have nb : ¬ nI (x / 10 % 10) = (0 : Int32) := fun a => eb (qb.mp a)
    rw [if_neg nb, if_neg nb, if_neg nb, if_neg nb, if_neg nb, ite_self, ite_self, ite_self, ite_self]
    exact Or.inl ⟨rfl, rfl⟩
