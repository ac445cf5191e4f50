def cF (text : Nat → Int32) (j : Nat) : Nat := (text (3 + 3 * j) - 97).toNatClampNeg
def kF (text : Nat → Int32) (j : Nat) : Nat := (text (4 + 3 * j) - 48).toNatClampNeg
def Read (text : Nat → Int32) (r : Nat) (told : Int32) (ra : Nat → Int32) : Prop := (∀ j, j < r → text (3 + 3 * j) - 97 = nI (cF text j) ∧ cF text j < 16 ∧ text (4 + 3 * j) - 48 = nI (kF text j) ∧ kF text j < 4 ∧ ra (2 * j) = nI (cF text j) ∧ ra (2 * j + 1) = nI (kF text j)) ∧ (∀ c, c < 32 → (bt told c = true ↔ ∃ j, j < r ∧ cF text j = c)) ∧ (∀ i j, i < r → j < r → cF text i = cF text j → i = j)
theorem sub_back {x : Int32} {a b : Nat} (h : x - nI a = nI b) : x = nI (a + b) := by
  have : x = (x - nI a) + nI a := by rw [Int32.sub_add_cancel]
  rw [this, h, nI_add, Nat.add_comm]
/-- a letter from a to a + m, as the class asks and as the reference asks -/
theorem let_cases (x : Int32) {a m : Nat} {A B : Int32} {M : Int64} (hA : A = nI a) (hB : B = nI (a + m)) (h31 : a + m < 2 ^ 30) (hM : M.toInt = (m : Int)) : (∃ j, j ≤ m ∧ x - A = nI j ∧ ¬ x < A ∧ ¬ B < x ∧ ¬ f_X6_in (x - A).toInt64 0 M = 0) ∨ ((x < A ∨ B < x) ∧ f_X6_in (x - A).toInt64 0 M = 0) := by
  subst hA
  subst hB
  rcases in32 (x - nI a) (m := m) (M := M) (by omega) hM with ⟨j, hj, e, h⟩ | ⟨h1, h2⟩
  · have ex := sub_back e
    refine Or.inl ⟨j, hj, e, ?_, ?_, h⟩
    · rw [ex]; exact nI_nlt (by omega) (by omega)
    · rw [ex]; exact nI_nlt (by omega) (by omega)
  · refine Or.inr ⟨?_, h2⟩
    refine Classical.byContradiction fun hx => ?_
    have hx1 : ¬ x < nI a := fun h => hx (Or.inl h)
    have hx2 : ¬ nI (a + m) < x := fun h => hx (Or.inr h)
    have h0 : ¬ x < 0 := fun h => hx1 (Int32.lt_of_lt_of_le h (nI_pos' (by omega)))
    obtain ⟨k, hk, rfl⟩ := nI_of h0
    have q1 : a ≤ k := by
      refine Classical.byContradiction fun h => hx1 (nI_lt (by omega) (by omega))
    have q2 : k ≤ a + m := by
      refine Classical.byContradiction fun h => hx2 (nI_lt (by omega) (by omega))
    rw [pk_sub q1] at h1
    rcases h1 with h1 | h1
    · exact nI_pos (by omega) h1
    · exact nI_nlt (a := m) (by omega) (by omega) h1
theorem letterAt_ok {L i : Nat} (hL : L ≤ 32) (hi : i < L) (text : Nat → Int32) : f_X3_letterAt (nI L) text (nI i) = text i := by
  unfold f_X3_letterAt
  rw [if_neg (nI_pos (by omega)), if_neg (nI_ge hi (by omega)), if_neg (show ¬ (32 : Int32) ≤ nI i from nI_ge (b := 32) (by omega) (by omega)), nI_clamp (by omega)]
theorem jr3 {i q m : Nat} (hi : i < 64) (h : i = 2 + 3 * q + m) (hm : m < 3) : jr (nI i - 2) 3 = nI m := by
  have e1 : nI i - 2 = nI (i - 2) := pk_sub (b := 2) (by omega)
  have e2 : jr (nI (i - 2)) (nI 3) = nI ((i - 2) % 3) := jr_nI (by omega) (by omega) (by omega)
  rw [e1, show (3 : Int32) = nI 3 from rfl, e2]
  congr 1
  omega
theorem fits0 {r : Nat} (hr : r ≤ 7) (x told : Int32) : f_X3_fits (nI (2 + 3 * r)) x told = if r < 7 ∧ x = 80 then 1 else 0 := by
  unfold f_X3_fits
  rw [if_neg (show ¬ nI (2 + 3 * r) = (0 : Int32) from nI_ne0 (by omega) (by omega)), if_neg (show ¬ nI (2 + 3 * r) = (1 : Int32) from fun a => by have := (eqN (b := 1) (by omega) (by omega) rfl).mp a; omega), jr3 (q := r) (m := 0) (by omega) (by omega) (by omega)]
  by_cases e : r < 7
  · rw [if_pos (show nI (2 + 3 * r) < (23 : Int32) from nI_lt (b := 23) (by omega) (by omega)), if_pos (show nI 0 = (0 : Int32) from rfl)]
    by_cases e2 : x = 80
    · rw [if_pos e2, if_pos ⟨e, e2⟩]
    · rw [if_neg e2, if_neg (fun a => e2 a.2)]
  · rw [if_neg (show ¬ nI (2 + 3 * r) < (23 : Int32) from nI_nlt (b := 23) (by omega) (by omega)), if_neg (fun a => e a.1)]
theorem fits1 {r : Nat} (hr : r < 7) (x told : Int32) : f_X3_fits (nI (3 + 3 * r)) x told = if x < 97 then 0 else if 112 < x then 0 else if (shr told (x - 97) &&& 1) = 0 then 1 else 0 := by
  unfold f_X3_fits
  rw [if_neg (show ¬ nI (3 + 3 * r) = (0 : Int32) from nI_ne0 (by omega) (by omega)), if_neg (show ¬ nI (3 + 3 * r) = (1 : Int32) from fun a => by have := (eqN (b := 1) (by omega) (by omega) rfl).mp a; omega), jr3 (q := r) (m := 1) (by omega) (by omega) (by omega), if_pos (show nI (3 + 3 * r) < (23 : Int32) from nI_lt (b := 23) (by omega) (by omega)), if_neg (show ¬ nI 1 = (0 : Int32) by decide), if_pos (show nI 1 = (1 : Int32) from rfl)]
theorem fits2 {r : Nat} (hr : r < 7) (x told : Int32) : f_X3_fits (nI (4 + 3 * r)) x told = if x < 48 then 0 else if 51 < x then 0 else 1 := by
  unfold f_X3_fits
  rw [if_neg (show ¬ nI (4 + 3 * r) = (0 : Int32) from nI_ne0 (by omega) (by omega)), if_neg (show ¬ nI (4 + 3 * r) = (1 : Int32) from fun a => by have := (eqN (b := 1) (by omega) (by omega) rfl).mp a; omega), jr3 (q := r) (m := 2) (by omega) (by omega) (by omega), if_pos (show nI (4 + 3 * r) < (23 : Int32) from nI_lt (b := 23) (by omega) (by omega)), if_neg (show ¬ nI 2 = (0 : Int32) by decide), if_neg (show ¬ nI 2 = (1 : Int32) by decide)]
theorem l4_end {L i : Nat} (hi : 2 ≤ L) (text : Nat → Int32) (told : Int32) {q m : Nat} (h : L = 2 + 3 * q + m) (hm : m < 3) (h64 : L < 64) : f_X3_firstFault_l4 (nI L) text 0 i told = if m = 0 then -9 else nI L := by
  rw [f_X3_firstFault_l4_z, if_neg (show ¬ nI L < (2 : Int32) from nI_nlt (b := 2) hi (by omega)), jr3 h64 h hm]
  by_cases e : m = 0
  · rw [if_pos e, e, if_pos (show nI 0 = (0 : Int32) from rfl)]
  · rw [if_neg e, if_neg (nI_ne0 (by omega) (by omega))]
theorem parse {L : Nat} (hL : L ≤ 32) (text : Nat → Int32) : ∀ (e r : Nat) (told : Int32) (ra : Nat → Int32), r + e = 9 → r ≤ 7 → 2 + 3 * r ≤ L → Read text r told ra → f_X3_firstFault_l4 (nI L) text (L - (2 + 3 * r)) (2 + 3 * r) told = (f_X6_readIdea_l83 L text e (2 + 3 * r) told r ra).1 ∧ ((f_X6_readIdea_l83 L text e (2 + 3 * r) told r ra).1 = -9 → ∃ R, R ≤ 7 ∧ L = 2 + 3 * R ∧ (f_X6_readIdea_l83 L text e (2 + 3 * r) told r ra).2.2.1 = text 1 - 48 ∧ (f_X6_readIdea_l83 L text e (2 + 3 * r) told r ra).2.2.2.2.1 = nI R ∧ Read text R (f_X6_readIdea_l83 L text e (2 + 3 * r) told r ra).2.2.2.1 (f_X6_readIdea_l83 L text e (2 + 3 * r) told r ra).2.2.2.2.2) := by
  intro e
  induction e with
  | zero => intro r told ra h1 h2; omega
  | succ e ih =>
    intro r told ra hr h7 hlen hR
    rw [f_X6_readIdea_l83_s]
    by_cases eL : L = 2 + 3 * r
    · rw [if_pos (nI_le (by omega) (by omega)), show L - (2 + 3 * r) = 0 by omega, l4_end (by omega) text told (q := r) (m := 0) (by omega) (by omega) (by omega), if_pos rfl]
      exact ⟨rfl, fun _ => ⟨r, h7, eL, rfl, rfl, hR⟩⟩
    rw [if_neg (nI_ge (by omega) (by omega))]
    obtain ⟨d1, hd1⟩ : ∃ d1, L - (2 + 3 * r) = d1 + 1 := ⟨L - (2 + 3 * r) - 1, by omega⟩
    rw [hd1, f_X3_firstFault_l4_s, letterAt_ok hL (by omega), fits0 h7]
    unfold f_X6_readPart
    have bad : ∀ (p : Nat), p < 2 ^ 31 → (nI p = (-9 : Int32) → False) := fun p hp h => nI_ne9 hp h
    by_cases e80 : text (2 + 3 * r) = 80
    · rw [if_pos e80]
      by_cases er : r = 7
      · rw [if_neg (show ¬ (r < 7 ∧ text (2 + 3 * r) = 80) from fun a => by omega), if_pos rfl, if_pos (show nI r = (7 : Int32) by rw [er]; rfl), if_pos rfl]
        exact ⟨rfl, fun h => absurd h (bad _ (by omega))⟩
      · rw [if_pos (show r < 7 ∧ text (2 + 3 * r) = 80 from ⟨by omega, e80⟩), if_neg one_ne, if_neg (show ¬ nI r = (7 : Int32) from fun a => er ((eqN (b := 7) (by omega) (by omega) rfl).mp a)), if_neg (show ¬ nI (2 + 3 * r) < (2 : Int32) from nI_nlt (b := 2) (by omega) (by omega)), jr3 (q := r) (m := 0) (by omega) (by omega) (by omega), if_neg (show ¬ nI 0 = (1 : Int32) by decide), show 2 + 3 * r + 1 = 3 + 3 * r by omega, show 3 + 3 * r + 1 = 4 + 3 * r by omega]
        by_cases e3 : L = 3 + 3 * r
        · rw [if_pos (nI_le (by omega) (by omega)), if_pos rfl, show d1 = 0 by omega, l4_end (by omega) text told (q := r) (m := 1) (by omega) (by omega) (by omega), if_neg (by omega), e3]
          exact ⟨rfl, fun h => absurd h (bad _ (by omega))⟩
        · rw [if_neg (nI_ge (by omega) (by omega))]
          obtain ⟨d2, hd2⟩ : ∃ d2, d1 = d2 + 1 := ⟨d1 - 1, by omega⟩
          rw [hd2, f_X3_firstFault_l4_s, letterAt_ok hL (by omega), fits1 (by omega)]
          rcases let_cases (text (3 + 3 * r)) (a := 97) (m := 15) (A := 97) (B := 112) (M := 15) rfl rfl (by omega) rfl with ⟨c, hc, ec, q1, q2, q3⟩ | ⟨q1, q2⟩
          · rw [if_neg q1, if_neg q2, if_neg q3, ec, shr1 (by omega), has_bt (by omega)]
            cases hb : bt told c
            · rw [if_pos (show (if false = true then (1 : Int32) else 0) = 0 by decide), if_neg one_ne, if_neg (show ¬ nI (3 + 3 * r) < (2 : Int32) from nI_nlt (b := 2) (by omega) (by omega)), jr3 (q := r) (m := 1) (by omega) (by omega) (by omega), if_pos (show nI 1 = (1 : Int32) from rfl), if_pos (show (if false = true then (1 : Int32) else 0) = 0 by decide), show 3 + 3 * r + 1 = 4 + 3 * r by omega]
              by_cases e4 : L = 4 + 3 * r
              · rw [if_pos (nI_le (by omega) (by omega)), if_pos rfl, show d2 = 0 by omega, l4_end (by omega) text _ (q := r) (m := 2) (by omega) (by omega) (by omega), if_neg (by omega), e4]
                exact ⟨rfl, fun h => absurd h (bad _ (by omega))⟩
              · rw [if_neg (nI_ge (by omega) (by omega))]
                obtain ⟨d3, hd3⟩ : ∃ d3, d2 = d3 + 1 := ⟨d2 - 1, by omega⟩
                rw [hd3, f_X3_firstFault_l4_s, letterAt_ok hL (by omega), fits2 (by omega)]
                rcases let_cases (text (4 + 3 * r)) (a := 48) (m := 3) (A := 48) (B := 51) (M := 3) rfl rfl (by omega) rfl with ⟨k, hk, ek, p1, p2, p3⟩ | ⟨p1, p2⟩
                · rw [if_neg p1, if_neg p2, if_neg p3, if_neg one_ne, if_neg one_ne, if_neg (show ¬ nI (4 + 3 * r) < (2 : Int32) from nI_nlt (b := 2) (by omega) (by omega)), jr3 (q := r) (m := 2) (by omega) (by omega) (by omega), if_neg (show ¬ nI 2 = (1 : Int32) by decide), ek]
                  have hcF : cF text r = c := by unfold cF; rw [ec, nI_clamp (by omega)]
                  have hkF : kF text r = k := by unfold kF; rw [ek, nI_clamp (by omega)]
                  have hnew : Read text (r + 1) (told ||| shl 1 (nI c)) (upd (upd ra (2 * r) (nI c)) (2 * r + 1) (nI k)) := by
                    refine ⟨fun j hj => ?_, fun x hx => ?_, fun i j hi hj he => ?_⟩
                    · by_cases ej : j = r
                      · subst ej
                        rw [hcF, hkF, pk_us, pk_un (by omega), pk_us]
                        exact ⟨ec, by omega, ek, by omega, rfl, rfl⟩
                      · rw [pk_un (by omega), pk_un (by omega), pk_un (by omega), pk_un (by omega)]
                        exact hR.1 j (by omega)
                    · rw [b_or, bt_one (by omega) hx, Bool.or_eq_true, hR.2.1 x hx, decide_eq_true_eq]
                      constructor
                      · rintro (⟨j, hj, h⟩ | h)
                        · exact ⟨j, by omega, h⟩
                        · exact ⟨r, by omega, by omega⟩
                      · rintro ⟨j, hj, h⟩
                        by_cases ej : j = r
                        · subst ej; exact Or.inr (by omega)
                        · exact Or.inl ⟨j, by omega, h⟩
                    · have old : ∀ j, j < r → ¬ cF text j = c := by
                        intro j hj h
                        have := (hR.2.1 c (by omega)).mpr ⟨j, hj, h⟩
                        rw [hb] at this; cases this
                      by_cases ei : i = r
                      · by_cases ej : j = r
                        · omega
                        · rw [ei, hcF] at he
                          exact absurd he.symm (old j (by omega))
                      · by_cases ej : j = r
                        · rw [ej, hcF] at he
                          exact absurd he (old i (by omega))
                        · exact hR.2.2 i j (by omega) (by omega) he
                  have := ih (r + 1) (told ||| shl 1 (nI c)) (upd (upd ra (2 * r) (nI c)) (2 * r + 1) (nI k)) (by omega) (by omega) (by omega) hnew
                  rw [show 2 + 3 * (r + 1) = 4 + 3 * r + 1 by omega, show L - (4 + 3 * r + 1) = d3 by omega] at this
                  exact this
                · rw [if_pos p2, if_pos rfl]
                  have : (if text (4 + 3 * r) < 48 then (0 : Int32) else if 51 < text (4 + 3 * r) then 0 else 1) = 0 := by
                    rcases p1 with p | p
                    · rw [if_pos p]
                    · rw [if_pos p, ite_self]
                  rw [if_pos this]
                  exact ⟨rfl, fun h => absurd h (bad _ (by omega))⟩
            · rw [if_neg (show ¬ (if true = true then (1 : Int32) else 0) = 0 by decide), if_pos rfl, if_neg (show ¬ (if true = true then (1 : Int32) else 0) = 0 by decide), if_pos rfl]
              exact ⟨rfl, fun h => absurd h (bad _ (by omega))⟩
          · rw [if_pos q2, if_pos rfl]
            have : (if text (3 + 3 * r) < 97 then (0 : Int32) else if 112 < text (3 + 3 * r) then 0 else if (shr told (text (3 + 3 * r) - 97) &&& 1) = 0 then 1 else 0) = 0 := by
              rcases q1 with p | p
              · rw [if_pos p]
              · rw [if_pos p, ite_self]
            rw [if_pos this]
            exact ⟨rfl, fun h => absurd h (bad _ (by omega))⟩
    · rw [if_neg e80, if_neg (show ¬ (r < 7 ∧ text (2 + 3 * r) = 80) from fun a => e80 a.2), if_pos rfl, if_pos rfl]
      exact ⟨rfl, fun h => absurd h (bad _ (by omega))⟩
theorem read_ok {L : Nat} (hL : L ≤ 32) (text : Nat → Int32) (rs : Int32) (ra : Nat → Int32) : f_X3_firstFault L (nI L) text = (f_X6_readIdea L rs text ra).1 ∧ ((f_X6_readIdea L rs text ra).1 = -9 → ∃ S R, S ≤ 9 ∧ R ≤ 7 ∧ L = 2 + 3 * R ∧ text 1 - 48 = nI S ∧ (f_X6_readIdea L rs text ra).2.2.1 = nI S ∧ (f_X6_readIdea L rs text ra).2.2.2.2.1 = nI R ∧ Read text R (f_X6_readIdea L rs text ra).2.2.2.1 (f_X6_readIdea L rs text ra).2.2.2.2.2) := by
  unfold f_X3_firstFault f_X6_readIdea
  by_cases e0 : L = 0
  · subst e0
    rw [f_X3_firstFault_l4_z, if_pos (show nI 0 < (2 : Int32) by decide), if_pos (show nI 0 = (0 : Int32) from rfl)]
    exact ⟨rfl, fun h => absurd h (show ¬ (0 : Int32) = -9 by decide)⟩
  rw [if_neg (nI_ne0 (by omega) (by omega))]
  obtain ⟨d1, hd1⟩ : ∃ d1, L = d1 + 1 := ⟨L - 1, by omega⟩
  have hf0 : ∀ x told, f_X3_fits (nI 0) x told = if x = 73 then 1 else 0 := by
    intro x told; unfold f_X3_fits; rw [if_pos (show nI 0 = (0 : Int32) from rfl)]
  have hf1 : ∀ x told, f_X3_fits (nI (0 + 1)) x told = if x < 48 then 0 else if 57 < x then 0 else 1 := by
    intro x told; unfold f_X3_fits; rw [if_neg (show ¬ nI (0 + 1) = (0 : Int32) by decide), if_pos (show nI (0 + 1) = (1 : Int32) from rfl)]
  have first : f_X3_firstFault_l4 (nI L) text L 0 0 = f_X3_firstFault_l4 (nI L) text (d1 + 1) 0 0 := by rw [← hd1]
  rw [first, f_X3_firstFault_l4_s, letterAt_ok hL (by omega), hf0]
  by_cases e73 : text 0 = 73
  · rw [if_pos e73, if_pos e73, if_neg one_ne, if_pos (show nI 0 < (2 : Int32) by decide)]
    by_cases e1 : L = 1
    · rw [show d1 = 0 by omega, f_X3_firstFault_l4_z, e1, if_pos (show nI 1 < (2 : Int32) by decide), if_pos (show nI 1 ≤ (1 : Int32) by decide)]
      exact ⟨rfl, fun h => absurd h (show ¬ (1 : Int32) = -9 by decide)⟩
    · rw [if_neg (show ¬ nI L ≤ (1 : Int32) from nI_ge (a := 1) (by omega) (by omega))]
      obtain ⟨d2, hd2⟩ : ∃ d2, d1 = d2 + 1 := ⟨d1 - 1, by omega⟩
      rw [hd2, f_X3_firstFault_l4_s, letterAt_ok hL (by omega), hf1]
      rcases let_cases (text (0 + 1)) (a := 48) (m := 9) (A := 48) (B := 57) (M := 9) rfl rfl (by omega) rfl with ⟨S, hS, eS, q1, q2, q3⟩ | ⟨q1, q2⟩
      · rw [if_neg q1, if_neg q2, if_neg one_ne, if_pos (show nI (0 + 1) < (2 : Int32) by decide), if_neg q3]
        have hR : Read text 0 0 ra := ⟨fun j hj => by omega, fun c _ => by
          rw [b_0]
          refine ⟨fun a => (by cases a), ?_⟩
          rintro ⟨j, hj, _⟩; omega, fun i j hi => by omega⟩
        have hp := parse hL text 9 0 0 ra (by omega) (by omega) (by omega) hR
        rw [show 2 + 3 * 0 = 0 + 1 + 1 from rfl, show L - (0 + 1 + 1) = d2 by omega] at hp
        refine ⟨hp.1, fun h => ?_⟩
        obtain ⟨R, r1, r2, r3, r4, r5⟩ := hp.2 h
        exact ⟨S, R, hS, r1, r2, eS, r3.trans eS, r4, r5⟩
      · rw [if_pos q2]
        have : (if text (0 + 1) < 48 then (0 : Int32) else if 57 < text (0 + 1) then 0 else 1) = 0 := by
          rcases q1 with p | p
          · rw [if_pos p]
          · rw [if_pos p, ite_self]
        rw [if_pos this]
        exact ⟨rfl, fun h => absurd h (show ¬ (1 : Int32) = -9 by decide)⟩
  · rw [if_neg e73, if_pos rfl, if_neg e73]
    exact ⟨rfl, fun h => absurd h (show ¬ (0 : Int32) = -9 by decide)⟩
theorem op_fault (L sp n na tr : Nat) (cl kd : Nat → Nat) (now rains plain key stair air thrown place readStock readCells readParts soonMany soonWhich kindMany kindFirst restMany restFirst : Int32) (text triedAbout triedIs cells kinds frames rainsB kept keptF keptR lies kind readPart page trial book keptM isKept gains value : Nat → Int32) (seed : Int64) (hC : Core L sp n na tr cl kd now rains plain key stair air text cells kinds frames rainsB triedIs kept keptF keptR lies kind page book keptM isKept) : (f_X5_fault L (nI L) text) = (f_X6_fault L readStock text readPart).1 ∧ LInv now rains (nI L) (nI sp) (nI n) plain key stair air (nI na) (nI tr) text cells kinds frames rainsB triedAbout triedIs kept keptF keptR seed (f_X6_fault L readStock text readPart).2.1 (nI L) (f_X6_fault L readStock text readPart).2.2.1 (nI sp) (nI n) (f_X6_fault L readStock text readPart).2.2.2.1 (f_X6_fault L readStock text readPart).2.2.2.2.1 (f_X6_fault L readStock text readPart).2.2.2.2.2.1 (nI na) (nI tr) soonMany soonWhich kindMany kindFirst restMany restFirst text lies kind (f_X6_fault L readStock text readPart).2.2.2.2.2.2 page trial book keptM isKept triedAbout triedIs gains value seed := by
  unfold f_X5_fault f_X6_fault
  exact ⟨(read_ok hC.hL text readStock readPart).1, linv hC⟩
