theorem FRh_congr {n sp : Nat} {cl kd h : Nat → Nat} {fr : Int32} {pg pg' : Nat → Int32} (e : ∀ k, k < 6 → pg' k = pg k) (hF : FRh n sp cl kd h fr pg) : FRh n sp cl kd h fr pg' := by
  unfold FRh
  rw [e 4 (by omega), e 5 (by omega)]
  exact ⟨fun c hc => by rw [e c (by omega)]; exact hF.1 c hc, hF.2⟩
theorem FR_congr {n sp : Nat} {cl kd : Nat → Nat} {fr : Int32} {pg pg' : Nat → Int32} (e : ∀ k, k < 6 → pg' k = pg k) (hF : FR n sp cl kd fr pg) : FR n sp cl kd fr pg' := by
  obtain ⟨h, hF⟩ := hF
  exact ⟨h, FRh_congr e hF⟩
theorem begin_FRh {n sp : Nat} {cl kd h : Nat → Nat} {fr : Int32} {page : Nat → Int32} (trial : Nat → Int32) (hF : FRh n sp cl kd h fr page) : FRh n sp cl kd h fr (f_X6_begin page trial) := FRh_congr (fun k hk => begin_at page trial k (by omega)) hF
theorem goRain_l {cl kd h : Nat → Nat} {kind : Nat → Int32} {n : Nat} (h7 : n ≤ 7) (hk : ∀ j, j < n → kind j = nI (kd j) ∧ kd j < 4) (hc : ∀ j, j < n → cl j < 16) : ∀ (d i : Nat) (g : Nat → Int32), i + d = n → (∀ c, c < 4 → g c = nI (h c) ∧ h c ≤ 4) → (∀ k, k ≠ 5 → f_X6_goRain_l6 cl kind d i g k = g k) ∧ ∀ p, p < 32 → (bt (f_X6_goRain_l6 cl kind d i g 5) p = true ↔ bt (g 5) p = true ∧ ¬ (i ≤ p ∧ p < n ∧ kd p = 3 ∧ ¬ cl p / 4 < h (cl p % 4))) := by
  intro d
  induction d with
  | zero =>
    intro i g hi hg
    rw [f_X6_goRain_l6_z]
    exact ⟨fun _ _ => rfl, fun p _ => ⟨fun a => ⟨a, by omega⟩, fun a => a.1⟩⟩
  | succ d ih =>
    intro i g hi hg
    have key : ∃ x, f_X6_goRain_l6 cl kind (d + 1) i g = f_X6_goRain_l6 cl kind d (i + 1) (upd g 5 x) ∧ ∀ p, p < 32 → (bt x p = true ↔ bt (g 5) p = true ∧ ¬ (p = i ∧ kd p = 3 ∧ ¬ cl p / 4 < h (cl p % 4))) := by
      rw [f_X6_goRain_l6_s, (hk i (by omega)).1]
      have hp := hasPole_ok hg (hc i (by omega))
      have m1 : g 5 &&& (-1 : Int32) = g 5 := by
        apply b_ext; intro k hk; rw [b_and, b_m1 k hk, Bool.and_true]
      by_cases e : kd i = 3
      · rw [e, if_pos (show nI 3 = (3 : Int32) from rfl)]
        by_cases e2 : f_X6_hasPole cl i g = 0
        · rw [if_pos e2]
          refine ⟨_, rfl, fun p hp32 => ?_⟩
          rw [b_and, bt_not hp32, bt_one (by omega) hp32, Bool.and_eq_true, Bool.not_eq_true', decide_eq_false_iff_not]
          have h2 : ¬ cl i / 4 < h (cl i % 4) := fun a => hp.mpr a e2
          constructor
          · rintro ⟨a, b⟩; exact ⟨a, fun c => b c.1⟩
          · rintro ⟨a, b⟩; exact ⟨a, fun c => by subst c; exact b ⟨rfl, e, h2⟩⟩
        · rw [if_neg e2, m1]
          refine ⟨_, rfl, fun p _ => ⟨fun a => ⟨a, ?_⟩, fun a => a.1⟩⟩
          rintro ⟨rfl, _, b⟩
          exact b (hp.mp e2)
      · rw [if_neg (by rw [show (3 : Int32) = nI 3 from rfl, nI_eq (by have := (hk i (by omega)).2; omega) (by omega)]; exact e), m1]
        refine ⟨_, rfl, fun p _ => ⟨fun a => ⟨a, ?_⟩, fun a => a.1⟩⟩
        rintro ⟨rfl, b, _⟩
        exact e b
    obtain ⟨x, e, hx⟩ := key
    rw [e]
    obtain ⟨i1, i2⟩ := ih (i + 1) (upd g 5 x) (by omega) (fun c hc => by rw [pk_un (by omega)]; exact hg c hc)
    refine ⟨fun k hk => by rw [i1 k hk, pk_un hk], fun p hp => ?_⟩
    rw [i2 p hp, pk_us, hx p hp]
    constructor
    · rintro ⟨⟨a, b⟩, c⟩
      refine ⟨a, fun d => ?_⟩
      by_cases e : p = i
      · exact b ⟨e, d.2.2⟩
      · exact c ⟨by omega, d.2⟩
    · rintro ⟨a, b⟩
      exact ⟨⟨a, fun d => b ⟨by omega, by omega, d.2⟩⟩, fun d => b ⟨by omega, d.2⟩⟩
theorem rain_ok {n sp : Nat} {cl kd h : Nat → Nat} {plain key stair air : Int32} {cells kinds lies kind : Nat → Int32} (hI : Idea n sp cl kd plain key stair air cells kinds lies kind) {fr : Int32} {pg : Nat → Int32} (hF : FRh n sp cl kd h fr pg) : FRh n sp cl kd h (f_X2_withRain plain key stair air fr) (f_X6_goRain cl n lies kind pg).2 ∧ (f_X6_goRain cl n lies kind pg).2 6 = pg 6 + 1 := by
  unfold f_X2_withRain f_X6_goRain f_X6_settle
  have hg := goRain_l (cl := cl) (h := h) hI.1 (fun j hj => ⟨(hI.2.2.2.2.2.2.1 j hj).1, (hI.2.2.2.2.2.2.1 j hj).2.2⟩) (fun j hj => hI.c16 hj) n 0 pg (by omega) hF.1
  generalize f_X6_goRain_l6 cl kind n 0 pg = g at hg
  have hH : ∀ c, bt (f_X1_had fr &&& ((air &&& (f_X1_poles fr ^^^ -1)) ^^^ -1)) c = true ↔ onB n cl (bt (g 5)) c := by
    intro c
    rcases Nat.lt_or_ge c 16 with hc | hc
    · rw [b_and, bt_not (by omega), b_and, bt_not (by omega), poles_bits hF hc, Bool.and_eq_true, had_bits (fun p hp => hI.c16 hp) hF]
      have key : ∀ p, p < n → cl p = c → ((!(bt air c && !decide (c / 4 < h (c % 4)))) = true ↔ ¬ (kd p = 3 ∧ ¬ cl p / 4 < h (cl p % 4))) := by
        intro p hp e
        subst e
        rw [Bool.not_eq_true', Bool.and_eq_false_iff, ← hI.air hp]
        by_cases q : cl p / 4 < h (cl p % 4)
        · rw [decide_eq_true q]; simp [q]
        · rw [decide_eq_false q]; simp [q]
      constructor
      · rintro ⟨⟨p, hp, e, a⟩, b⟩
        refine ⟨p, hp, e, (hg.2 p (by have := hI.1; omega)).mpr ⟨a, fun d => ?_⟩⟩
        exact (key p hp e).mp b ⟨d.2.2.1, d.2.2.2⟩
      · rintro ⟨p, hp, e, a⟩
        have a := (hg.2 p (by have := hI.1; omega)).mp a
        exact ⟨⟨p, hp, e, a.1⟩, (key p hp e).mpr (fun d => a.2 ⟨by omega, hp, d⟩)⟩
    · constructor
      · intro a
        rw [b_and, Bool.and_eq_true, had_bits (fun p hp => hI.c16 hp) hF] at a
        obtain ⟨⟨p, hp, e, _⟩, _⟩ := a
        have hq := hI.c16 hp
        have e' : cl p = c := e
        omega
      · rintro ⟨p, hp, e, _⟩
        have hq := hI.c16 hp
        have e' : cl p = c := e
        omega
  have hst := stand_cls hI hH (fun c hc => poles_bits hF hc)
  constructor
  · refine FRh_congr (pg := upd g 5 (f_X6_standing cl n g lies kind)) (fun k hk => pk_un (by omega)) ?_
    exact FRh_mk hI (fun c hc => by rw [hg.1 c (by omega)]; exact hF.1 c hc) hF.2.1 (by rw [hg.1 4 (by omega)]; exact hF.2.2.1) (fun c hc => poles_bits hF hc) hst.2 (fun c _ => hst.1 c)
  · dsimp only
    rw [pk_us, pk_un (by omega), hg.1 6 (by omega)]
theorem put6 {cl : Nat → Nat} {n c : Nat} (hc : c < 4) (lies kind pg : Nat → Int32) : (f_X6_goPut cl n c lies kind pg).2 6 = pg 6 := by
  unfold f_X6_goPut f_X6_settle
  split
  · rfl
  · split
    · rfl
    · split
      · dsimp only
        rw [pk_un (by omega), pk_un (by omega), pk_un (by omega), pk_un (by omega)]
      · dsimp only
        rw [pk_un (by omega), pk_un (by omega), pk_un (by omega), pk_un (by omega)]
theorem strike6 {cl : Nat → Nat} {n c : Nat} (hc : c < 4) (lies kind pg : Nat → Int32) : (f_X6_goStrike cl n c lies kind pg).2 6 = pg 6 := by
  unfold f_X6_goStrike f_X6_settle
  dsimp only
  rw [pk_un (by omega), pk_un (by omega), pk_un (by omega)]
theorem strikeN {cl : Nat → Nat} {n c : Nat} (hc : c < 4) (lies kind pg : Nat → Int32) : (f_X6_goStrike cl n c lies kind pg).1 = f_X6_many (pg 5) - f_X6_many ((f_X6_goStrike cl n c lies kind pg).2 5) := by
  unfold f_X6_goStrike f_X6_settle
  dsimp only
  have e : (upd (upd pg c (pg c - 1)) 4 (upd pg c (pg c - 1) 4 + 1)) 5 = pg 5 := by rw [pk_un (by omega), pk_un (by omega)]
  rw [e]
theorem in_ok2 (x y z : Int64) : f_X6_in x y z = 0 ↔ x.toInt < y.toInt ∨ z.toInt < x.toInt := by
  unfold f_X6_in
  by_cases h1 : lg_cmp x y < 0
  · rw [if_pos h1]; exact ⟨fun _ => Or.inl (lgc_lt.mp h1), fun _ => rfl⟩
  · rw [if_neg h1]
    by_cases h2 : 0 < lg_cmp x z
    · rw [if_pos h2]; exact ⟨fun _ => Or.inr (lgc_gt.mp h2), fun _ => rfl⟩
    · rw [if_neg h2]
      refine ⟨fun a => absurd a (by decide), fun a => ?_⟩
      rcases a with a | a
      · exact absurd (lgc_lt.mpr a) h1
      · exact absurd (lgc_gt.mpr a) h2
theorem in32 (a : Int32) {m : Nat} {M : Int64} (hm : m < 2 ^ 31) (hM : M.toInt = (m : Int)) : (∃ j, j ≤ m ∧ a = nI j ∧ ¬ f_X6_in a.toInt64 0 M = 0) ∨ ((a < 0 ∨ nI m < a) ∧ f_X6_in a.toInt64 0 M = 0) := by
  have h := in_ok2 a.toInt64 0 M
  rw [Int32.toInt_toInt64, hM, show (0 : Int64).toInt = 0 from rfl] at h
  by_cases h0 : a < 0
  · exact Or.inr ⟨Or.inl h0, h.mpr (Or.inl (Int32.lt_iff_toInt_lt.mp h0))⟩
  · obtain ⟨j, hj, rfl⟩ := nI_of h0
    rw [nI_toInt hj] at h
    by_cases h1 : j ≤ m
    · exact Or.inl ⟨j, h1, rfl, fun e => by have := h.mp e; omega⟩
    · exact Or.inr ⟨Or.inr (nI_lt (by omega) hj), h.mpr (Or.inr (by omega))⟩
theorem col_cases (a : Int32) : (∃ c, c < 4 ∧ a = nI c ∧ ¬ f_X5_isColumn a = 0 ∧ f_X6_noColumn a = 0) ∨ (f_X5_isColumn a = 0 ∧ ¬ f_X6_noColumn a = 0) := by
  unfold f_X5_isColumn f_X6_noColumn
  rcases in32 a (m := 3) (M := 3) (by omega) rfl with ⟨c, hc, rfl, h⟩ | ⟨h1, h2⟩
  · refine Or.inl ⟨c, by omega, rfl, ?_, if_neg h⟩
    rw [if_neg (nI_pos (by omega)), if_neg (show ¬ (4 : Int32) ≤ nI c from nI_ge (b := 4) (by omega) (by omega))]
    decide
  · refine Or.inr ⟨?_, by rw [if_pos h2]; decide⟩
    rcases h1 with h1 | h1
    · rw [if_pos h1]
    · by_cases h0 : a < 0
      · rw [if_pos h0]
      · rw [if_neg h0]
        obtain ⟨j, hj, rfl⟩ := nI_of h0
        have : 3 < j := (nI_ltI (by omega) hj).mp h1
        rw [if_pos (show (4 : Int32) ≤ nI j from nI_le (a := 4) (by omega) hj)]
theorem linv {L sp n na tr : Nat} {cl kd : Nat → Nat} {now rains plain key stair air thrown place readStock readCells readParts soonMany soonWhich kindMany kindFirst restMany restFirst : Int32} {text triedAbout triedIs cells kinds frames rainsB kept keptF keptR lies kind readPart page trial book keptM isKept gains value : Nat → Int32} {seed : Int64} (hC : Core L sp n na tr cl kd now rains plain key stair air text cells kinds frames rainsB triedIs kept keptF keptR lies kind page book keptM isKept) : LInv now rains (nI L) (nI sp) (nI n) plain key stair air (nI na) (nI tr) text cells kinds frames rainsB triedAbout triedIs kept keptF keptR seed thrown (nI L) place (nI sp) (nI n) readStock readCells readParts (nI na) (nI tr) soonMany soonWhich kindMany kindFirst restMany restFirst text lies kind readPart page trial book keptM isKept triedAbout triedIs gains value seed :=
  ⟨L, sp, n, na, tr, cl, kd, rfl, rfl, rfl, rfl, rfl, rfl, rfl, rfl, rfl, rfl, rfl, rfl, rfl, rfl, hC⟩
theorem op_write (L sp n na tr : Nat) (cl kd : Nat → Nat) (now rains plain key stair air thrown place readStock readCells readParts soonMany soonWhich kindMany kindFirst restMany restFirst : Int32) (text triedAbout triedIs cells kinds frames rainsB kept keptF keptR lies kind readPart page trial book keptM isKept gains value : Nat → Int32) (seed : Int64) (a1 : Int32) (hC : Core L sp n na tr cl kd now rains plain key stair air text cells kinds frames rainsB triedIs kept keptF keptR lies kind page book keptM isKept) : (f_X5_write (nI L) text a1).1 = (f_X6_write L text a1).1 ∧ LInv now rains (f_X5_write (nI L) text a1).2.1 (nI sp) (nI n) plain key stair air (nI na) (nI tr) (f_X5_write (nI L) text a1).2.2 cells kinds frames rainsB triedAbout triedIs kept keptF keptR seed (f_X6_write L text a1).2.1 (f_X6_write L text a1).2.2.1 place (nI sp) (nI n) readStock readCells readParts (nI na) (nI tr) soonMany soonWhich kindMany kindFirst restMany restFirst (f_X6_write L text a1).2.2.2 lies kind readPart page trial book keptM isKept triedAbout triedIs gains value seed := by
  unfold f_X5_write f_X6_write f_X3_append
  have hL := hC.hL
  rcases in32 a1 (m := 255) (M := 255) (by omega) rfl with ⟨c, hc, rfl, h⟩ | ⟨h1, h2⟩
  · rw [if_neg h, if_neg (nI_pos (by omega)), if_pos (show nI c ≤ (255 : Int32) from nI_le (b := 255) hc (by omega)), if_neg (nI_pos (by omega))]
    by_cases e : L = 32
    · subst e
      rw [if_neg (show ¬ nI 32 < (32 : Int32) by decide), if_pos rfl, if_pos (show nI 32 = (32 : Int32) from rfl)]
      exact ⟨rfl, linv hC⟩
    · rw [if_pos (show nI L < (32 : Int32) from nI_lt (b := 32) (by omega) (by omega)), if_neg (show ¬ (1 : Int32) = 0 by decide), if_neg (show ¬ nI L = (32 : Int32) by rw [show (32 : Int32) = nI 32 from rfl, nI_eq (by omega) (by omega)]; exact e), nI_clamp (by omega)]
      refine ⟨nI_1 L, ?_⟩
      rw [nI_1]
      exact linv ⟨by omega, hC.2⟩
  · rw [if_pos h2]
    by_cases h0 : a1 < 0
    · rw [if_pos h0]; exact ⟨rfl, linv hC⟩
    · rw [if_neg h0, if_neg (fun h3 => by
        rcases h1 with h1 | h1
        · exact h0 h1
        · exact absurd h3 (Int32.not_le.mpr h1))]
      exact ⟨rfl, linv hC⟩
theorem op_wipe (L sp n na tr : Nat) (cl kd : Nat → Nat) (now rains plain key stair air thrown place readStock readCells readParts soonMany soonWhich kindMany kindFirst restMany restFirst : Int32) (text triedAbout triedIs cells kinds frames rainsB kept keptF keptR lies kind readPart page trial book keptM isKept gains value : Nat → Int32) (seed : Int64) (hC : Core L sp n na tr cl kd now rains plain key stair air text cells kinds frames rainsB triedIs kept keptF keptR lies kind page book keptM isKept) : (f_X5_wipe (nI L)).1 = (f_X6_wipe (nI L)).1 ∧ LInv now rains (f_X5_wipe (nI L)).2 (nI sp) (nI n) plain key stair air (nI na) (nI tr) text cells kinds frames rainsB triedAbout triedIs kept keptF keptR seed (f_X6_wipe (nI L)).2.1 (f_X6_wipe (nI L)).2.2 place (nI sp) (nI n) readStock readCells readParts (nI na) (nI tr) soonMany soonWhich kindMany kindFirst restMany restFirst text lies kind readPart page trial book keptM isKept triedAbout triedIs gains value seed := by
  unfold f_X5_wipe f_X6_wipe
  exact ⟨rfl, linv (L := 0) ⟨by omega, hC.2⟩⟩
theorem op_seed (L sp n na tr : Nat) (cl kd : Nat → Nat) (now rains plain key stair air thrown place readStock readCells readParts soonMany soonWhich kindMany kindFirst restMany restFirst : Int32) (text triedAbout triedIs cells kinds frames rainsB kept keptF keptR lies kind readPart page trial book keptM isKept gains value : Nat → Int32) (seed : Int64) (a1 : Int64) (hC : Core L sp n na tr cl kd now rains plain key stair air text cells kinds frames rainsB triedIs kept keptF keptR lies kind page book keptM isKept) : (f_X5_seed seed a1).1 = (f_X6_seed seed a1).1 ∧ LInv now rains (nI L) (nI sp) (nI n) plain key stair air (nI na) (nI tr) text cells kinds frames rainsB triedAbout triedIs kept keptF keptR (f_X5_seed seed a1).2 (f_X6_seed seed a1).2.1 (nI L) place (nI sp) (nI n) readStock readCells readParts (nI na) (nI tr) soonMany soonWhich kindMany kindFirst restMany restFirst text lies kind readPart page trial book keptM isKept triedAbout triedIs gains value (f_X6_seed seed a1).2.2 := by
  unfold f_X5_seed f_X6_seed
  exact ⟨rfl, linv hC⟩
theorem op_unattempt (L sp n na tr : Nat) (cl kd : Nat → Nat) (now rains plain key stair air thrown place readStock readCells readParts soonMany soonWhich kindMany kindFirst restMany restFirst : Int32) (text triedAbout triedIs cells kinds frames rainsB kept keptF keptR lies kind readPart page trial book keptM isKept gains value : Nat → Int32) (seed : Int64) (hC : Core L sp n na tr cl kd now rains plain key stair air text cells kinds frames rainsB triedIs kept keptF keptR lies kind page book keptM isKept) : (f_X5_unattempt (nI tr)).1 = (f_X6_unattempt (nI tr)).1 ∧ LInv now rains (nI L) (nI sp) (nI n) plain key stair air (nI na) (f_X5_unattempt (nI tr)).2 text cells kinds frames rainsB triedAbout triedIs kept keptF keptR seed (f_X6_unattempt (nI tr)).2.1 (nI L) place (nI sp) (nI n) readStock readCells readParts (nI na) (f_X6_unattempt (nI tr)).2.2 soonMany soonWhich kindMany kindFirst restMany restFirst text lies kind readPart page trial book keptM isKept triedAbout triedIs gains value seed := by
  unfold f_X5_unattempt f_X6_unattempt
  exact ⟨rfl, linv (tr := 0) ⟨hC.1, hC.2.1, by omega, hC.2.2.2.1, hC.2.2.2.2.1, hC.2.2.2.2.2.1, hC.2.2.2.2.2.2.1, fun j hj => by omega⟩⟩
theorem op_column (L sp n na tr : Nat) (cl kd : Nat → Nat) (now rains plain key stair air thrown place readStock readCells readParts soonMany soonWhich kindMany kindFirst restMany restFirst : Int32) (text triedAbout triedIs cells kinds frames rainsB kept keptF keptR lies kind readPart page trial book keptM isKept gains value : Nat → Int32) (seed : Int64) (a1 : Int32) (hC : Core L sp n na tr cl kd now rains plain key stair air text cells kinds frames rainsB triedIs kept keptF keptR lies kind page book keptM isKept) : (f_X5_column now a1) = (f_X6_column page a1).1 ∧ LInv now rains (nI L) (nI sp) (nI n) plain key stair air (nI na) (nI tr) text cells kinds frames rainsB triedAbout triedIs kept keptF keptR seed (f_X6_column page a1).2 (nI L) place (nI sp) (nI n) readStock readCells readParts (nI na) (nI tr) soonMany soonWhich kindMany kindFirst restMany restFirst text lies kind readPart page trial book keptM isKept triedAbout triedIs gains value seed := by
  unfold f_X5_column f_X6_column
  obtain ⟨h, hF⟩ := hC.hfr
  rcases col_cases a1 with ⟨c, hc, rfl, h1, h2⟩ | ⟨h1, h2⟩
  · rw [if_neg h1, if_pos h2, height_ok hF hc, nI_clamp (by omega), (hF.1 c hc).1]
    exact ⟨rfl, linv hC⟩
  · rw [if_pos h1, if_neg h2]
    exact ⟨rfl, linv hC⟩
