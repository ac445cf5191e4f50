theorem keep_l (page : Nat → Int32) (a1 : Int32) : ∀ (d i : Nat) (bk : Nat → Int32) (k : Nat), f_X6_keep_l26 page a1 d i bk k = if 7 * a1.toNatClampNeg + i ≤ k ∧ k < 7 * a1.toNatClampNeg + i + d then page (k - 7 * a1.toNatClampNeg) else bk k := by
  intro d
  induction d with
  | zero => intro i bk k; rw [f_X6_keep_l26_z, if_neg (by omega)]
  | succ d ih =>
    intro i bk k
    rw [f_X6_keep_l26_s, ih]
    by_cases e : k = 7 * a1.toNatClampNeg + i
    · rw [if_neg (by omega), if_pos (by omega), e, pk_us, show 7 * a1.toNatClampNeg + i - 7 * a1.toNatClampNeg = i by omega]
    · rw [pk_un e]
      by_cases h : 7 * a1.toNatClampNeg + i ≤ k ∧ k < 7 * a1.toNatClampNeg + i + (d + 1)
      · rw [if_pos h, if_pos (by omega)]
      · rw [if_neg h, if_neg (by omega)]
theorem again_l (kept : Nat → Int32) (a1 : Int32) : ∀ (d i : Nat) (pg : Nat → Int32) (k : Nat), f_X6_again_l31 kept a1 d i pg k = if i ≤ k ∧ k < i + d then kept (7 * a1.toNatClampNeg + k) else pg k := by
  intro d
  induction d with
  | zero => intro i t k; rw [f_X6_again_l31_z, if_neg (by omega)]
  | succ d ih =>
    intro i t k
    rw [f_X6_again_l31_s, ih]
    by_cases e : k = i
    · subst e; rw [if_neg (by omega), if_pos (by omega), pk_us]
    · rw [pk_un e]
      by_cases h : i ≤ k ∧ k < i + (d + 1)
      · rw [if_pos h, if_pos (by omega)]
      · rw [if_neg h, if_neg (by omega)]
theorem two_cases (a : Int32) : (∃ c, c < 2 ∧ a = nI c ∧ ¬ a < 0 ∧ a < 2 ∧ a.toNatClampNeg = c ∧ ¬ f_X6_in a.toInt64 0 1 = 0) ∨ ((a < 0 ∨ ¬ a < 2) ∧ f_X6_in a.toInt64 0 1 = 0) := by
  rcases in32 a (m := 1) (M := 1) (by omega) rfl with ⟨c, hc, rfl, h⟩ | ⟨h1, h2⟩
  · exact Or.inl ⟨c, by omega, rfl, nI_pos (by omega), show nI c < (2 : Int32) from nI_lt (b := 2) (by omega) (by omega), nI_clamp (by omega), h⟩
  · refine Or.inr ⟨?_, h2⟩
    rcases h1 with h1 | h1
    · exact Or.inl h1
    · by_cases h0 : a < 0
      · exact Or.inl h0
      · obtain ⟨j, hj, rfl⟩ := nI_of h0
        have : 1 < j := (nI_ltI (by omega) hj).mp h1
        exact Or.inr (show ¬ nI j < (2 : Int32) from nI_nlt (b := 2) (by omega) hj)
theorem op_keep (L sp n na tr : Nat) (cl kd : Nat → Nat) (now rains plain key stair air thrown place readStock readCells readParts soonMany soonWhich kindMany kindFirst restMany restFirst : Int32) (text triedAbout triedIs cells kinds frames rainsB kept keptF keptR lies kind readPart page trial book keptM isKept gains value : Nat → Int32) (seed : Int64) (a1 : Int32) (hC : Core L sp n na tr cl kd now rains plain key stair air text cells kinds frames rainsB triedIs kept keptF keptR lies kind page book keptM isKept) : (f_X5_keep now rains kept keptF keptR a1).1 = (f_X6_keep page keptM isKept a1).1 ∧ LInv now rains (nI L) (nI sp) (nI n) plain key stair air (nI na) (nI tr) text cells kinds frames rainsB triedAbout triedIs (f_X5_keep now rains kept keptF keptR a1).2.1 (f_X5_keep now rains kept keptF keptR a1).2.2.1 (f_X5_keep now rains kept keptF keptR a1).2.2.2 seed (f_X6_keep page keptM isKept a1).2.1 (nI L) place (nI sp) (nI n) readStock readCells readParts (nI na) (nI tr) soonMany soonWhich kindMany kindFirst restMany restFirst text lies kind readPart page trial book (f_X6_keep page keptM isKept a1).2.2.1 (f_X6_keep page keptM isKept a1).2.2.2 triedAbout triedIs gains value seed := by
  unfold f_X5_keep f_X6_keep
  obtain ⟨h, hF⟩ := hC.hfr
  rcases two_cases a1 with ⟨c, hc, rfl, h1, h2, h3, h4⟩ | ⟨h1, h2⟩
  · rw [if_neg h1, if_pos h2, if_neg h4, h3, refPoles hF]
    refine ⟨polesN hF, linv ⟨hC.1, hC.2.1, hC.2.2.1, hC.2.2.2.1, hC.2.2.2.2.1, hC.2.2.2.2.2.1, fun k hk => ?_, hC.2.2.2.2.2.2.2⟩⟩
    show upd kept c 1 k = upd isKept c 1 k ∧ (upd isKept c 1 k = 0 ∨ (upd isKept c 1 k = 1 ∧ FR n sp cl kd (upd keptF c now k) (fun i => f_X6_keep_l26 page (nI c) 7 0 keptM (7 * k + i)) ∧ upd keptR c rains k = f_X6_keep_l26 page (nI c) 7 0 keptM (7 * k + 6)))
    by_cases e : k = c
    · subst e
      rw [pk_us, pk_us, pk_us, pk_us]
      refine ⟨rfl, Or.inr ⟨rfl, FR_congr (fun i hi => ?_) hC.hfr, ?_⟩⟩
      · show f_X6_keep_l26 page (nI k) 7 0 keptM (7 * k + i) = page i
        rw [keep_l, h3, if_pos (by omega), show 7 * k + i - 7 * k = i by omega]
      · rw [keep_l, h3, if_pos (by omega), show 7 * k + 6 - 7 * k = 6 by omega]; exact hC.hra
    · have hk' := hC.hK k hk
      rw [pk_un e, pk_un e, pk_un e, pk_un e]
      refine ⟨hk'.1, ?_⟩
      rcases hk'.2 with a | a
      · exact Or.inl a
      · refine Or.inr ⟨a.1, FR_congr (fun i hi => ?_) a.2.1, ?_⟩
        · show f_X6_keep_l26 page (nI c) 7 0 keptM (7 * k + i) = keptM (7 * k + i)
          rw [keep_l, h3, if_neg (by omega)]
        · rw [keep_l, h3, if_neg (by omega)]; exact a.2.2
  · rw [if_pos h2]
    by_cases h0 : a1 < 0
    · rw [if_pos h0]; exact ⟨rfl, linv hC⟩
    · rw [if_neg h0, if_neg (by
        rcases h1 with h1 | h1
        · exact absurd h1 h0
        · exact h1)]
      exact ⟨rfl, linv hC⟩
theorem op_again (L sp n na tr : Nat) (cl kd : Nat → Nat) (now rains plain key stair air thrown place readStock readCells readParts soonMany soonWhich kindMany kindFirst restMany restFirst : Int32) (text triedAbout triedIs cells kinds frames rainsB kept keptF keptR lies kind readPart page trial book keptM isKept gains value : Nat → Int32) (seed : Int64) (a1 : Int32) (hC : Core L sp n na tr cl kd now rains plain key stair air text cells kinds frames rainsB triedIs kept keptF keptR lies kind page book keptM isKept) : (f_X5_again now rains (nI na) kept keptF keptR a1).1 = (f_X6_again (nI na) page keptM isKept a1).1 ∧ LInv (f_X5_again now rains (nI na) kept keptF keptR a1).2.1 (f_X5_again now rains (nI na) kept keptF keptR a1).2.2.1 (nI L) (nI sp) (nI n) plain key stair air (f_X5_again now rains (nI na) kept keptF keptR a1).2.2.2 (nI tr) text cells kinds frames rainsB triedAbout triedIs kept keptF keptR seed (f_X6_again (nI na) page keptM isKept a1).2.1 (nI L) place (nI sp) (nI n) readStock readCells readParts (f_X6_again (nI na) page keptM isKept a1).2.2.2 (nI tr) soonMany soonWhich kindMany kindFirst restMany restFirst text lies kind readPart (f_X6_again (nI na) page keptM isKept a1).2.2.1 trial book keptM isKept triedAbout triedIs gains value seed := by
  unfold f_X5_again f_X6_again
  rcases two_cases a1 with ⟨c, hc, rfl, h1, h2, h3, h4⟩ | ⟨h1, h2⟩
  · have hk := hC.hK c hc
    rw [if_neg h1, if_pos h2, if_neg h4, h3, hk.1]
    by_cases e : isKept c = 0
    · rw [if_pos e, if_pos e]; exact ⟨rfl, linv hC⟩
    · rw [if_neg e, if_neg e]
      rcases hk.2 with a | a
      · exact absurd a e
      · have hF' : FR n sp cl kd (keptF c) (f_X6_again_l31 keptM (nI c) 7 0 page) := FR_congr (fun k hk => by
          show _ = keptM (7 * c + k)
          rw [again_l, h3, if_pos (by omega)]) a.2.1
        obtain ⟨h, hF⟩ := hF'
        rw [refPoles hF]
        refine ⟨polesN hF, linv (na := 0) (hC.act (by omega) ⟨h, hF⟩ ?_ (fun j hj => by omega))⟩
        show keptR c = f_X6_again_l31 keptM (nI c) 7 0 page 6
        rw [again_l, h3, if_pos (by omega), a.2.2]
  · rw [if_pos h2]
    by_cases h0 : a1 < 0
    · rw [if_pos h0]; exact ⟨rfl, linv hC⟩
    · rw [if_neg h0, if_neg (by
        rcases h1 with h1 | h1
        · exact absurd h1 h0
        · exact h1)]
      exact ⟨rfl, linv hC⟩
theorem partIn_0 (cells : Nat → Int32) (a : Int32) : ∀ (d i : Nat), (∀ j, i ≤ j → j < i + d → ¬ cells j = a) → f_X2_partIn_l2 cells a d i = -9 := by
  intro d
  induction d with
  | zero => intro i _; exact f_X2_partIn_l2_z
  | succ d ih =>
    intro i h
    rw [f_X2_partIn_l2_s, if_neg (h i (by omega) (by omega))]
    exact ih (i + 1) (fun j h1 h2 => h j (by omega) (by omega))
theorem partIn_1 (cells : Nat → Int32) (a : Int32) (p : Nat) (hp : cells p = a) : ∀ (d i : Nat), i ≤ p → p < i + d → (∀ j, i ≤ j → j < i + d → cells j = a → j = p) → f_X2_partIn_l2 cells a d i = nI p := by
  intro d
  induction d with
  | zero => intro i h1 h2 _; omega
  | succ d ih =>
    intro i h1 h2 hu
    rw [f_X2_partIn_l2_s]
    by_cases e : i = p
    · rw [e, if_pos hp]
    · rw [if_neg (fun h => e (hu i (by omega) (by omega) h))]
      exact ih (i + 1) (by omega) (by omega) (fun j h3 h4 h5 => hu j (by omega) (by omega) h5)
theorem partIn_ok {n sp : Nat} {cl kd : Nat → Nat} {plain key stair air : Int32} {cells kinds lies kind : Nat → Int32} (hI : Idea n sp cl kd plain key stair air cells kinds lies kind) {c : Nat} (hc : c < 16) : f_X2_partIn cells (nI c) = f_X6_partAt n lies (nI c) := by
  have h7 : n ≤ 7 := hI.1
  have hcell : ∀ j, j < 7 → cells j = nI c → j < n ∧ cl j = c := by
    intro j hj e
    by_cases hn : j < n
    · rw [hI.2.2.2.1 j hn, nI_eq (by have := hI.c16 hn; omega) (by omega)] at e
      exact ⟨hn, e⟩
    · rw [hI.2.2.2.2.1 j (by omega) hj] at e
      exact absurd e.symm (nI_ne9 (by omega))
  unfold f_X2_partIn
  rcases hI.at_cases (c := c) (by omega) with ⟨p, hp, hpc, e⟩ | ⟨hno, e⟩
  · rw [e]
    exact partIn_1 cells _ p (by rw [hI.2.2.2.1 p hp, hpc]) 7 0 (by omega) (by omega) (fun j _ h2 h3 => by
      have := hcell j (by omega) h3
      exact hI.inj this.1 hp (by omega))
  · rw [e]
    exact partIn_0 cells _ 7 0 (fun j _ h2 h3 => by
      have := hcell j (by omega) h3
      exact hno j this.1 this.2)
theorem op_at (L sp n na tr : Nat) (cl kd : Nat → Nat) (now rains plain key stair air thrown place readStock readCells readParts soonMany soonWhich kindMany kindFirst restMany restFirst : Int32) (text triedAbout triedIs cells kinds frames rainsB kept keptF keptR lies kind readPart page trial book keptM isKept gains value : Nat → Int32) (seed : Int64) (a1 : Int32) (hC : Core L sp n na tr cl kd now rains plain key stair air text cells kinds frames rainsB triedIs kept keptF keptR lies kind page book keptM isKept) : (f_X5_at cells a1) = (f_X6_at n lies a1).1 ∧ LInv now rains (nI L) (nI sp) (nI n) plain key stair air (nI na) (nI tr) text cells kinds frames rainsB triedAbout triedIs kept keptF keptR seed (f_X6_at n lies a1).2 (nI L) place (nI sp) (nI n) readStock readCells readParts (nI na) (nI tr) soonMany soonWhich kindMany kindFirst restMany restFirst text lies kind readPart page trial book keptM isKept triedAbout triedIs gains value seed := by
  have hI := hC.hI
  unfold f_X5_at f_X6_at
  rcases in32 a1 (m := 15) (M := 15) (by omega) rfl with ⟨c, hc, rfl, h⟩ | ⟨h1, h2⟩
  · rw [if_neg h, if_neg (nI_pos (by omega)), if_neg (show ¬ (16 : Int32) ≤ nI c from nI_ge (b := 16) (by omega) (by omega))]
    exact ⟨partIn_ok hI (by omega), linv hC⟩
  · rw [if_pos h2]
    by_cases h0 : a1 < 0
    · rw [if_pos h0]; exact ⟨rfl, linv hC⟩
    · rw [if_neg h0, if_pos (by
        rcases h1 with h1 | h1
        · exact absurd h1 h0
        · obtain ⟨j, hj, rfl⟩ := nI_of h0
          have : 15 < j := (nI_ltI (by omega) hj).mp h1
          exact (show (16 : Int32) ≤ nI j from nI_le (a := 16) (by omega) hj))]
      exact ⟨rfl, linv hC⟩
theorem part_cases {n : Nat} (h7 : n ≤ 7) (a : Int32) : (∃ j, j < n ∧ a = nI j ∧ ¬ f_X2_isPart (nI n) a = 0 ∧ f_X6_noPart n a = 0) ∨ (f_X2_isPart (nI n) a = 0 ∧ ¬ f_X6_noPart n a = 0) := by
  have hin := in_ok2 a.toInt64 0 (nI n - 1).toInt64
  rw [Int32.toInt_toInt64, Int32.toInt_toInt64, show (0 : Int64).toInt = 0 from rfl] at hin
  have hn1 : (nI n - 1).toInt = (n : Int) - 1 := pk_sub_toInt (b := 1) (by omega) (by omega)
  rw [hn1] at hin
  unfold f_X2_isPart f_X6_noPart
  by_cases h0 : a < 0
  · refine Or.inr ⟨if_pos h0, ?_⟩
    rw [if_pos (hin.mpr (Or.inl (Int32.lt_iff_toInt_lt.mp h0)))]; decide
  · obtain ⟨j, hj, rfl⟩ := nI_of h0
    rw [nI_toInt hj] at hin
    rw [if_neg h0]
    by_cases h1 : j < n
    · refine Or.inl ⟨j, h1, rfl, ?_, if_neg (fun e => by have := hin.mp e; omega)⟩
      rw [if_neg (nI_ge h1 (by omega)), if_neg (show ¬ (7 : Int32) ≤ nI j from nI_ge (b := 7) (by omega) (by omega))]; decide
    · refine Or.inr ⟨if_pos (nI_le (by omega) hj), ?_⟩
      rw [if_pos (hin.mpr (Or.inr (by omega)))]; decide
theorem had_p {n sp : Nat} {cl kd h : Nat → Nat} {plain key stair air : Int32} {cells kinds lies kind : Nat → Int32} (hI : Idea n sp cl kd plain key stair air cells kinds lies kind) {fr : Int32} {pg : Nat → Int32} (hF : FRh n sp cl kd h fr pg) {j : Nat} (hj : j < n) : bt (f_X1_had fr) (cl j) = bt (pg 5) j := by
  have h1 := had_bits (fun p hp => hI.c16 hp) hF (cl j)
  have h2 : onB n cl (bt (pg 5)) (cl j) ↔ bt (pg 5) j = true := by
    constructor
    · rintro ⟨p, hp, e, hb⟩; rw [← hI.inj hp hj e]; exact hb
    · intro hb; exact ⟨j, hj, rfl, hb⟩
  rw [h2] at h1
  cases ha : bt (f_X1_had fr) (cl j) <;> cases hb : bt (pg 5) j <;> simp_all
theorem op_part (L sp n na tr : Nat) (cl kd : Nat → Nat) (now rains plain key stair air thrown place readStock readCells readParts soonMany soonWhich kindMany kindFirst restMany restFirst : Int32) (text triedAbout triedIs cells kinds frames rainsB kept keptF keptR lies kind readPart page trial book keptM isKept gains value : Nat → Int32) (seed : Int64) (a1 : Int32) (a2 : Int32) (hC : Core L sp n na tr cl kd now rains plain key stair air text cells kinds frames rainsB triedIs kept keptF keptR lies kind page book keptM isKept) : (f_X5_part now (nI n) cells kinds a1 a2) = (f_X6_part cl n lies kind page a1 a2).1 ∧ LInv now rains (nI L) (nI sp) (nI n) plain key stair air (nI na) (nI tr) text cells kinds frames rainsB triedAbout triedIs kept keptF keptR seed (f_X6_part cl n lies kind page a1 a2).2 (nI L) place (nI sp) (nI n) readStock readCells readParts (nI na) (nI tr) soonMany soonWhich kindMany kindFirst restMany restFirst text lies kind readPart page trial book keptM isKept triedAbout triedIs gains value seed := by
  have hI := hC.hI
  have h7 : n ≤ 7 := hI.1
  obtain ⟨h, hF⟩ := hC.hfr
  unfold f_X5_part f_X6_part f_X2_cellOf f_X2_kindOf
  rcases part_cases h7 a1 with ⟨j, hj, rfl, h1, h2⟩ | ⟨h1, h2⟩
  · have hc := hI.c16 hj
    rw [if_neg h1, if_neg h1, if_neg h1, if_pos h2, nI_clamp (by omega), hI.2.2.2.1 j hj, (hI.2.2.1 j (by omega)).1, (hI.2.2.2.2.2.2.1 j hj).1, (hI.2.2.2.2.2.2.1 j hj).2.1]
    by_cases e0 : a2 = 0
    · rw [if_pos e0, if_pos e0]; exact ⟨rfl, linv hC⟩
    rw [if_neg e0, if_neg e0]
    by_cases e1 : a2 = 1
    · rw [if_pos e1, if_pos e1]; exact ⟨rfl, linv hC⟩
    rw [if_neg e1, if_neg e1]
    by_cases e2 : a2 = 2
    · rw [if_pos e2, if_pos e2, shr1 (by omega), shr1 (by omega), had_p hI hF hj]; exact ⟨rfl, linv hC⟩
    rw [if_neg e2, if_neg e2]
    by_cases e3 : a2 = 3
    · rw [if_pos e3, if_pos e3, shr1 (by omega), poles_bits hF hc]
      have hp := hasPole_ok hF.1 hc
      by_cases q : f_X6_hasPole cl j page = 0
      · rw [if_pos q, decide_eq_false (fun a => hp.mpr a q)]; exact ⟨rfl, linv hC⟩
      · rw [if_neg q, decide_eq_true (hp.mp q)]; exact ⟨rfl, linv hC⟩
    rw [if_neg e3, if_neg e3]
    exact ⟨rfl, linv hC⟩
  · rw [if_pos h1, if_neg h2]; exact ⟨rfl, linv hC⟩
theorem op_loses (L sp n na tr : Nat) (cl kd : Nat → Nat) (now rains plain key stair air thrown place readStock readCells readParts soonMany soonWhich kindMany kindFirst restMany restFirst : Int32) (text triedAbout triedIs cells kinds frames rainsB kept keptF keptR lies kind readPart page trial book keptM isKept gains value : Nat → Int32) (seed : Int64) (a1 : Int32) (hC : Core L sp n na tr cl kd now rains plain key stair air text cells kinds frames rainsB triedIs kept keptF keptR lies kind page book keptM isKept) : (f_X5_loses now plain key stair air cells a1) = (f_X6_loses cl n lies kind page trial a1).1 ∧ LInv now rains (nI L) (nI sp) (nI n) plain key stair air (nI na) (nI tr) text cells kinds frames rainsB triedAbout triedIs kept keptF keptR seed (f_X6_loses cl n lies kind page trial a1).2.1 (nI L) place (nI sp) (nI n) readStock readCells readParts (nI na) (nI tr) soonMany soonWhich kindMany kindFirst restMany restFirst text lies kind readPart page (f_X6_loses cl n lies kind page trial a1).2.2 book keptM isKept triedAbout triedIs gains value seed := by
  have hI := hC.hI
  unfold f_X5_loses f_X6_loses
  obtain ⟨h, hF⟩ := hC.hfr
  rcases col_cases a1 with ⟨c, hc, rfl, h1, h2⟩ | ⟨h1, h2⟩
  · rw [if_neg h1, if_pos h2, nI_clamp (by omega), canStrike_ok hF hc]
    by_cases e : h c = 0
    · rw [if_pos e, if_pos rfl, if_pos (show page c = (0 : Int32) from (pg0 hF hc (v := 0) (by omega)).mpr e)]; exact ⟨rfl, linv hC⟩
    · rw [if_neg e, if_neg (by decide), if_neg (show ¬ page c = (0 : Int32) from fun a => e ((pg0 hF hc (v := 0) (by omega)).mp a))]
      have hp := strike_ok hI (begin_FRh trial hF) hc (by omega)
      refine ⟨partsAt_ok hI (fun k => ?_) (fun p hx => ?_), linv hC⟩
      · have q1 := had_bits (fun p hp => hI.c16 hp) hF k
        have q2 := had_bits (fun p hp => hI.c16 hp) hp k
        rcases Nat.lt_or_ge k 32 with hk | hk
        · rw [b_and, bt_not hk, Bool.and_eq_true, Bool.not_eq_true', q1]
          constructor
          · rintro ⟨⟨p, hp1, e1, hb⟩, hno⟩
            refine ⟨p, hp1, e1, ?_⟩
            have : bt ((f_X6_goStrike cl n c lies kind (f_X6_begin page trial)).2 5) p = false := by
              cases hx : bt ((f_X6_goStrike cl n c lies kind (f_X6_begin page trial)).2 5) p
              · rfl
              · rw [q2.mpr ⟨p, hp1, e1, hx⟩] at hno; cases hno
            rw [b_and, bt_not (by have := hI.1; omega), hb, this]; rfl
          · rintro ⟨p, hp1, e1, hb⟩
            rw [b_and, bt_not (by have := hI.1; omega), Bool.and_eq_true, Bool.not_eq_true'] at hb
            refine ⟨⟨p, hp1, e1, hb.1⟩, ?_⟩
            cases hx : bt (f_X1_had (f_X2_withStruck plain key stair air now (nI c))) k
            · rfl
            · obtain ⟨p', hp2, e2, hb2⟩ := q2.mp hx
              have := hI.inj hp1 hp2 (e1.trans e2.symm)
              subst this
              rw [hb.2] at hb2; cases hb2
        · rw [b_big hk]
          refine ⟨fun a => (by cases a), ?_⟩
          rintro ⟨p, hp1, e1, _⟩
          have := hI.c16 hp1
          omega
      · rw [b_and, Bool.and_eq_true] at hx
        exact hF.2.2.2.2.2.1 p hx.1
  · rw [if_pos h1, if_neg h2]; exact ⟨rfl, linv hC⟩
theorem had_eq {n sp : Nat} {cl kd h h' : Nat → Nat} {plain key stair air : Int32} {cells kinds lies kind : Nat → Int32} (hI : Idea n sp cl kd plain key stair air cells kinds lies kind) {fr fr' : Int32} {pg pg' : Nat → Int32} (hF : FRh n sp cl kd h fr pg) (hF' : FRh n sp cl kd h' fr' pg') : f_X1_had fr = f_X1_had fr' ↔ pg 5 = pg' 5 := by
  constructor
  · intro e
    apply b_ext
    intro k hk
    by_cases hn : k < n
    · rw [← had_p hI hF hn, ← had_p hI hF' hn, e]
    · have z1 : bt (pg 5) k = false := by
        cases hx : bt (pg 5) k
        · rfl
        · exact absurd (hF.2.2.2.2.2.1 k hx) hn
      have z2 : bt (pg' 5) k = false := by
        cases hx : bt (pg' 5) k
        · rfl
        · exact absurd (hF'.2.2.2.2.2.1 k hx) hn
      rw [z1, z2]
  · intro e
    apply b_ext
    intro k hk
    have q1 := had_bits (fun p hp => hI.c16 hp) hF k
    have q2 := had_bits (fun p hp => hI.c16 hp) hF' k
    rw [e] at q1
    cases ha : bt (f_X1_had fr) k <;> cases hb : bt (f_X1_had fr') k <;> simp_all
theorem strike_sub {n sp : Nat} {cl kd h : Nat → Nat} {plain key stair air : Int32} {cells kinds lies kind : Nat → Int32} (hI : Idea n sp cl kd plain key stair air cells kinds lies kind) {fr : Int32} {pg : Nat → Int32} (hF : FRh n sp cl kd h fr pg) {c : Nat} (hc : c < 4) (h1 : 1 ≤ h c) {p : Nat} (hp : bt ((f_X6_goStrike cl n c lies kind pg).2 5) p = true) : bt (pg 5) p = true := by
  unfold f_X6_goStrike f_X6_settle at hp
  dsimp only at hp
  rw [pk_us] at hp
  have hg : ∀ j, j < 4 → upd (upd pg c (pg c - 1)) 4 (upd pg c (pg c - 1) 4 + 1) j = nI (hset h c (h c - 1) j) ∧ hset h c (h c - 1) j ≤ 4 := by
    intro j hj
    rw [pk_un (by omega)]
    have a := (hF.1 j hj).2
    have b := (hF.1 c hc).2
    unfold hset
    by_cases e : j = c
    · subst e; rw [pk_us, if_pos rfl, (hF.1 j hj).1]; exact ⟨pk_sub (b := 1) h1, by omega⟩
    · rw [pk_un e, if_neg e, (hF.1 j hj).1]; exact ⟨rfl, a⟩
  have := ((stand_ref hI hg).1 p hp).2
  rwa [pk_un (by omega), pk_un (by omega)] at this
theorem down_l {n sp : Nat} {cl kd : Nat → Nat} {plain key stair air : Int32} {cells kinds lies kind : Nat → Int32} (hI : Idea n sp cl kd plain key stair air cells kinds lies kind) {now : Int32} {page : Nat → Int32} {h0 : Nat → Nat} (hF0 : FRh n sp cl kd h0 now page) {c : Nat} (hc : c < 4) : ∀ (d i : Nat) (fr : Int32) (t : Nat → Int32) (h : Nat → Nat), FRh n sp cl kd h fr t → t 5 = page 5 → h c ≤ d → f_X5_down_l16 now plain key stair air (nI c) d i fr = (f_X6_down_l18 cl n lies kind (nI c) d t).1 := by
  intro d
  induction d with
  | zero =>
    intro i fr t h hF h5 hd
    rw [f_X5_down_l16_z, f_X6_down_l18_z, height_ok hF hc, show h c = 0 by omega]
    rfl
  | succ d ih =>
    intro i fr t h hF h5 hd
    have h4 := (hF.1 c hc).2
    rw [f_X5_down_l16_s, f_X6_down_l18_s, canStrike_ok hF hc, nI_clamp (by omega), height_ok hF hc, (hF.1 c hc).1]
    by_cases e : h c = 0
    · rw [if_pos e, if_pos rfl, e, if_pos (show nI 0 ≤ (0 : Int32) by decide)]; rfl
    · rw [if_neg e, if_neg (by decide), if_neg (nI_nle (by omega) (by omega))]
      have hp := strike_ok hI hF hc (by omega)
      have hsub : ∀ p, bt ((f_X6_goStrike cl n c lies kind t).2 5) p = true → bt (t 5) p = true := fun p hx => strike_sub hI hF hc (by omega) hx
      have hN : (f_X6_goStrike cl n c lies kind t).1 = nI (fb_ct (bt (t 5)) 7 - fb_ct (bt ((f_X6_goStrike cl n c lies kind t).2 5)) 7) := by
        rw [strikeN hc, many_ok, many_ok, pk_sub (fb_ct_sub (fun k _ h => hsub k h))]
      have hle := fb_ct_le (bt (t 5)) 7
      by_cases e2 : (f_X6_goStrike cl n c lies kind t).2 5 = page 5
      · rw [if_pos ((had_eq hI hp hF0).mpr e2), if_pos (by
          rw [hN, e2, h5, Nat.sub_self]; decide)]
        refine ih (i + 1) _ _ _ hp e2 ?_
        unfold hset; rw [if_pos rfl]; omega
      · rw [if_neg (fun a => e2 ((had_eq hI hp hF0).mp a))]
        have hlt : fb_ct (bt ((f_X6_goStrike cl n c lies kind t).2 5)) 7 < fb_ct (bt (t 5)) 7 := by
          refine Classical.byContradiction fun hx => e2 ?_
          rw [← h5]
          apply b_ext
          intro k hk
          cases hb : bt (t 5) k
          · cases ha : bt ((f_X6_goStrike cl n c lies kind t).2 5) k
            · rfl
            · rw [hsub k ha] at hb; cases hb
          · cases ha : bt ((f_X6_goStrike cl n c lies kind t).2 5) k
            · exfalso
              have hk7 : k < 7 := by have := hF.2.2.2.2.2.1 k hb; have := hI.1; omega
              have e3 := fb_ct_upd (bt ((f_X6_goStrike cl n c lies kind t).2 5)) true (i := k) (n := 7) hk7
              rw [ha] at e3
              simp only [Bool.false_eq_true, if_false, if_true] at e3
              have l : fb_ct (fun j => if j = k then true else bt ((f_X6_goStrike cl n c lies kind t).2 5) j) 7 ≤ fb_ct (bt (t 5)) 7 := by
                apply fb_ct_sub
                intro j hj hx
                by_cases ej : j = k
                · rw [ej]; exact hb
                · rw [if_neg ej] at hx; exact hsub j hx
              omega
            · rfl
        rw [if_neg (by rw [hN]; exact nI_nle (by omega) (by omega))]
        show nI (h c) = (f_X6_goStrike cl n c lies kind t).2 c + 1
        rw [(hp.1 c hc).1, nI_1]
        unfold hset
        rw [if_pos rfl]
        congr 1; omega
theorem op_down (L sp n na tr : Nat) (cl kd : Nat → Nat) (now rains plain key stair air thrown place readStock readCells readParts soonMany soonWhich kindMany kindFirst restMany restFirst : Int32) (text triedAbout triedIs cells kinds frames rainsB kept keptF keptR lies kind readPart page trial book keptM isKept gains value : Nat → Int32) (seed : Int64) (a1 : Int32) (hC : Core L sp n na tr cl kd now rains plain key stair air text cells kinds frames rainsB triedIs kept keptF keptR lies kind page book keptM isKept) : (f_X5_down now plain key stair air a1) = (f_X6_down cl n lies kind page trial a1).1 ∧ LInv now rains (nI L) (nI sp) (nI n) plain key stair air (nI na) (nI tr) text cells kinds frames rainsB triedAbout triedIs kept keptF keptR seed (f_X6_down cl n lies kind page trial a1).2.1 (nI L) place (nI sp) (nI n) readStock readCells readParts (nI na) (nI tr) soonMany soonWhich kindMany kindFirst restMany restFirst text lies kind readPart page (f_X6_down cl n lies kind page trial a1).2.2 book keptM isKept triedAbout triedIs gains value seed := by
  have hI := hC.hI
  unfold f_X5_down f_X6_down
  obtain ⟨h, hF⟩ := hC.hfr
  rcases col_cases a1 with ⟨c, hc, rfl, h1, h2⟩ | ⟨h1, h2⟩
  · rw [if_neg h1, if_pos h2]
    refine ⟨?_, linv hC⟩
    exact down_l hI hF hc 4 0 now (f_X6_begin page trial) h (begin_FRh trial hF) (begin_at page trial 5 (by omega)) (hF.1 c hc).2
  · rw [if_pos h1, if_neg h2]; exact ⟨rfl, linv hC⟩
theorem left_l : ∀ (d i : Nat) (t : Nat → Int32) (k : Nat), f_X6_left_l6 d i t k = if i ≤ k ∧ k < i + d then 0 else t k := by
  intro d
  induction d with
  | zero => intro i t k; rw [f_X6_left_l6_z, if_neg (by omega)]
  | succ d ih =>
    intro i t k
    rw [f_X6_left_l6_s, ih]
    by_cases e : k = i
    · subst e; rw [if_neg (by omega), if_pos (by omega), pk_us]
    · rw [pk_un e]
      by_cases h : i ≤ k ∧ k < i + (d + 1)
      · rw [if_pos h, if_pos (by omega)]
      · rw [if_neg h, if_neg (by omega)]
theorem op_about (L sp n na tr : Nat) (cl kd : Nat → Nat) (now rains plain key stair air thrown place readStock readCells readParts soonMany soonWhich kindMany kindFirst restMany restFirst : Int32) (text triedAbout triedIs cells kinds frames rainsB kept keptF keptR lies kind readPart page trial book keptM isKept gains value : Nat → Int32) (seed : Int64) (a1 : Int32) (hC : Core L sp n na tr cl kd now rains plain key stair air text cells kinds frames rainsB triedIs kept keptF keptR lies kind page book keptM isKept) : (f_X5_about now rains (nI L) (nI sp) (nI n) plain key stair air (nI na) (nI tr) cells a1) = (f_X6_about cl n (nI L) (nI na) (nI tr) lies kind page trial a1).1 ∧ LInv now rains (nI L) (nI sp) (nI n) plain key stair air (nI na) (nI tr) text cells kinds frames rainsB triedAbout triedIs kept keptF keptR seed (f_X6_about cl n (nI L) (nI na) (nI tr) lies kind page trial a1).2.1 (nI L) place (nI sp) (nI n) readStock readCells readParts (nI na) (nI tr) soonMany soonWhich kindMany kindFirst restMany restFirst text lies kind readPart page (f_X6_about cl n (nI L) (nI na) (nI tr) lies kind page trial a1).2.2 book keptM isKept triedAbout triedIs gains value seed := by
  have hI := hC.hI
  unfold f_X5_about f_X6_about
  obtain ⟨h, hF⟩ := hC.hfr
  by_cases e0 : a1 = 0
  · rw [if_pos e0, if_pos e0]; exact ⟨rfl, linv hC⟩
  rw [if_neg e0, if_neg e0]
  by_cases e1 : a1 = 1
  · rw [if_pos e1, if_pos e1, store_ok hF, ← hF.2.2.1]; exact ⟨rfl, linv hC⟩
  rw [if_neg e1, if_neg e1]
  by_cases e2 : a1 = 2
  · rw [if_pos e2, if_pos e2, refPoles hF]; exact ⟨polesN hF, linv hC⟩
  rw [if_neg e2, if_neg e2]
  by_cases e3 : a1 = 3
  · rw [if_pos e3, if_pos e3]; exact ⟨partsAt_ok hI (had_bits (fun p hp => hI.c16 hp) hF) hF.2.2.2.2.2.1, linv hC⟩
  rw [if_neg e3, if_neg e3]
  by_cases e4 : a1 = 4
  · rw [if_pos e4, if_pos e4]; exact ⟨hC.hra, linv hC⟩
  rw [if_neg e4, if_neg e4]
  by_cases e5 : a1 = 5
  · rw [if_pos e5, if_pos e5]
    refine ⟨?_, linv hC⟩
    unfold f_X6_left f_X6_settle
    dsimp only
    rw [pk_us]
    have hg : ∀ c, c < 4 → f_X6_left_l6 4 0 (f_X6_begin page trial) c = nI ((fun _ => 0) c) ∧ (fun _ => 0 : Nat → Nat) c ≤ 4 := by
      intro c hc
      rw [left_l, if_pos (by omega)]; exact ⟨rfl, Nat.zero_le 4⟩
    have hr := stand_ref hI hg
    rw [show f_X6_left_l6 4 0 (f_X6_begin page trial) 5 = page 5 by rw [left_l, if_neg (by omega), begin_at page trial 5 (by omega)]] at hr
    have hs := stand_cls hI (h := fun _ => 0) (P := 0) (had_bits (fun p hp => hI.c16 hp) hF) (fun c _ => by rw [b_0]; simp)
    refine partsAt_ok hI (fun c => ?_) (fun p hp => (hr.1 p hp).1)
    rw [hs.1 c, funext (fun p => lfp_one hs.2 hr p)]
  rw [if_neg e5, if_neg e5]
  by_cases e6 : a1 = 6
  · rw [if_pos e6, if_pos e6]; exact ⟨rfl, linv hC⟩
  rw [if_neg e6, if_neg e6]
  by_cases e7 : a1 = 7
  · rw [if_pos e7, if_pos e7]; exact ⟨rfl, linv hC⟩
  rw [if_neg e7, if_neg e7]
  by_cases e8 : a1 = 8
  · rw [if_pos e8, if_pos e8]; exact ⟨rfl, linv hC⟩
  rw [if_neg e8, if_neg e8]
  exact ⟨rfl, linv hC⟩
theorem inv_start : LInv 0 0 0 0 0 0 0 0 0 0 0 (fun _ => (0 : Int32)) cells0 (fun _ => (0 : Int32)) (fun _ => (0 : Int32)) (fun _ => (0 : Int32)) (fun _ => (0 : Int32)) (fun _ => (0 : Int32)) (fun _ => (0 : Int32)) (fun _ => (0 : Int32)) (fun _ => (0 : Int32)) 0 0 0 0 0 0 0 0 0 0 0 0 0 0 0 0 0 (fun _ => (0 : Int32)) (fun _ => (0 : Int32)) (fun _ => (0 : Int32)) (fun _ => (0 : Int32)) (fun _ => (0 : Int32)) (fun _ => (0 : Int32)) (fun _ => (0 : Int32)) (fun _ => (0 : Int32)) (fun _ => (0 : Int32)) (fun _ => (0 : Int32)) (fun _ => (0 : Int32)) (fun _ => (0 : Int32)) (fun _ => (0 : Int32)) 0 := by
  have hFR : FR 0 0 (fun _ => 0) (fun _ => 0) 0 (fun _ => (0 : Int32)) := by
    refine ⟨fun _ => 0, fun c _ => ⟨rfl, Nat.zero_le 4⟩, Nat.le_refl 0, rfl, fun c _ => by rw [b_0]; simp, fun c _ => ?_, fun p hp => ?_, fun p hp => ?_, fun p hp _ _ => by omega, fun T' _ p hp => ?_⟩
    · rw [b_0]
      refine ⟨fun a => (by cases a), ?_⟩
      rintro ⟨p, hp, _⟩
      omega
    · rw [b_0] at hp; cases hp
    · rw [b_0] at hp; cases hp
    · rw [b_0] at hp; cases hp
  have hcells : ∀ j, j < 7 → cells0 j = -9 := by decide +kernel
  have z : ∀ c (k : Nat), bt 0 c = true ↔ ∃ j, j < 0 ∧ (fun _ => 0 : Nat → Nat) j = c ∧ (fun _ => 0 : Nat → Nat) j = k := by
    intro c k
    rw [b_0]
    refine ⟨fun a => (by cases a), ?_⟩
    rintro ⟨j, hj, _⟩
    omega
  refine ⟨0, 0, 0, 0, 0, fun _ => 0, fun _ => 0, rfl, rfl, rfl, rfl, rfl, rfl, rfl, rfl, rfl, rfl, rfl, rfl, rfl, rfl, by omega, by omega, by omega, ?_, ⟨hFR, rfl⟩, fun j hj => by omega, fun k _ => ⟨rfl, Or.inl rfl⟩, fun j hj => by omega⟩
  exact ⟨by omega, by omega, fun j _ => ⟨rfl, (by decide : 0 < 16)⟩, fun j hj => by omega, fun j _ hj => hcells j hj, fun i j hi => by omega, fun j hj => by omega, fun c _ => z c 0, fun c _ => z c 1, fun c _ => z c 2, fun c _ => z c 3⟩
