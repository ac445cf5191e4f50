theorem note50 (page : Nat → Int32) (aj : Nat) : ∀ (d i : Nat) (bk : Nat → Int32) (k : Nat), f_X6_note_l50 page aj d i bk k = if 7 * aj + i ≤ k ∧ k < 7 * aj + i + d then page (k - 7 * aj) else bk k := by
  intro d
  induction d with
  | zero => intro i bk k; rw [f_X6_note_l50_z, if_neg (by omega)]
  | succ d ih =>
    intro i bk k
    rw [f_X6_note_l50_s, ih]
    by_cases e : k = 7 * aj + i
    · subst e; rw [if_neg (by omega), if_pos (by omega), pk_us, show 7 * aj + i - 7 * aj = i by omega]
    · rw [pk_un e]
      by_cases h : 7 * aj + i ≤ k ∧ k < 7 * aj + i + (d + 1)
      · rw [if_pos h, if_pos (by omega)]
      · rw [if_neg h, if_neg (by omega)]
theorem note11 : ∀ (d i : Nat) (bk : Nat → Int32) (k : Nat), f_X6_note_l11 d i bk k = if i ≤ k ∧ k < i + d then bk (k + 7) else bk k := by
  intro d
  induction d with
  | zero => intro i bk k; rw [f_X6_note_l11_z, if_neg (by omega)]
  | succ d ih =>
    intro i bk k
    rw [f_X6_note_l11_s, ih]
    by_cases e : k = i
    · subst e; rw [if_neg (by omega), if_pos (by omega), pk_us]
    · by_cases h : i ≤ k ∧ k < i + (d + 1)
      · rw [if_pos h, if_pos (by omega), pk_un (by omega)]
      · rw [if_neg h, if_neg (by omega), pk_un e]
theorem forget_l : ∀ (d i : Nat) (fa ra : Nat → Int32), 1 ≤ i → ∀ k, (f_X0_forgetFirst_l2 d i fa ra).1 k = (if i - 1 ≤ k ∧ k < i - 1 + d then fa (k + 1) else fa k) ∧ (f_X0_forgetFirst_l2 d i fa ra).2 k = (if i - 1 ≤ k ∧ k < i - 1 + d then ra (k + 1) else ra k) := by
  intro d
  induction d with
  | zero => intro i fa ra _ k; rw [f_X0_forgetFirst_l2_z, if_neg (by omega), if_neg (by omega)]; exact ⟨rfl, rfl⟩
  | succ d ih =>
    intro i fa ra hi k
    rw [f_X0_forgetFirst_l2_s, (ih (i + 1) _ _ (by omega) k).1, (ih (i + 1) _ _ (by omega) k).2]
    by_cases e : k = i - 1
    · rw [if_neg (by omega), if_pos (by omega), if_neg (by omega), if_pos (by omega), e, pk_us, pk_us, show i - 1 + 1 = i by omega]
      exact ⟨rfl, rfl⟩
    · by_cases h : i - 1 ≤ k ∧ k < i - 1 + (d + 1)
      · rw [if_pos h, if_pos (by omega), if_pos h, if_pos (by omega), pk_un (by omega), pk_un (by omega)]
        exact ⟨rfl, rfl⟩
      · rw [if_neg h, if_neg (by omega), if_neg h, if_neg (by omega), pk_un e, pk_un e]
        exact ⟨rfl, rfl⟩
theorem book_ok {n sp na : Nat} {cl kd : Nat → Nat} {now rains : Int32} {frames rainsB page book : Nat → Int32} (hna : na ≤ 14) (hF : FR n sp cl kd now page) (hr : rains = page 6) (hB : ∀ j, j < na → FR n sp cl kd (frames j) (fun k => book (7 * j + k)) ∧ rainsB j = book (7 * j + 6)) : ∃ na', na' ≤ 14 ∧ (f_X0_remember (nI na) frames rainsB now rains).1 = nI na' ∧ (f_X6_note na page book).1 = nI na' ∧ ∀ j, j < na' → FR n sp cl kd ((f_X0_remember (nI na) frames rainsB now rains).2.1 j) (fun k => (f_X6_note na page book).2 (7 * j + k)) ∧ (f_X0_remember (nI na) frames rainsB now rains).2.2 j = (f_X6_note na page book).2 (7 * j + 6) := by
  have row : ∀ (aj : Nat) (bk : Nat → Int32) (fa ra : Nat → Int32), (∀ j, j < aj → FR n sp cl kd (fa j) (fun k => bk (7 * j + k)) ∧ ra j = bk (7 * j + 6)) → ∀ j, j < aj + 1 → FR n sp cl kd (upd fa aj now j) (fun k => f_X6_note_l50 page aj 7 0 bk (7 * j + k)) ∧ upd ra aj rains j = f_X6_note_l50 page aj 7 0 bk (7 * j + 6) := by
    intro aj bk fa ra hb j hj
    by_cases e : j = aj
    · subst e
      rw [pk_us, pk_us]
      refine ⟨FR_congr (fun k hk => ?_) hF, ?_⟩
      · show f_X6_note_l50 page j 7 0 bk (7 * j + k) = page k
        rw [note50, if_pos (by omega), show 7 * j + k - 7 * j = k by omega]
      · rw [note50, if_pos (by omega), show 7 * j + 6 - 7 * j = 6 by omega]; exact hr
    · rw [pk_un e, pk_un e]
      have h := hb j (by omega)
      refine ⟨FR_congr (fun k hk => ?_) h.1, ?_⟩
      · show f_X6_note_l50 page aj 7 0 bk (7 * j + k) = bk (7 * j + k)
        rw [note50, if_neg (by omega)]
      · rw [note50, if_neg (by omega)]; exact h.2
  unfold f_X0_remember f_X6_note f_X6_note_k48
  by_cases e : na = 14
  · subst e
    rw [if_neg (show ¬ nI 14 < (14 : Int32) by decide), if_pos (show nI 14 = (14 : Int32) from rfl)]
    unfold f_X0_forgetFirst
    dsimp only
    rw [if_neg (show ¬ (13 : Int32) < 0 by decide), if_neg (show ¬ (14 : Int32) ≤ 13 by decide)]
    refine ⟨14, by omega, rfl, rfl, ?_⟩
    have h := row 13 (f_X6_note_l11 91 0 book) (f_X0_forgetFirst_l2 13 1 frames rainsB).1 (f_X0_forgetFirst_l2 13 1 frames rainsB).2 (fun j hj => ?_)
    · exact h
    · have hl := forget_l 13 1 frames rainsB (by omega) j
      rw [hl.1, hl.2, if_pos (by omega), if_pos (by omega), note11, if_pos (by omega)]
      have h := hB (j + 1) (by omega)
      refine ⟨FR_congr (fun k hk => ?_) h.1, ?_⟩
      · show f_X6_note_l11 91 0 book (7 * j + k) = book (7 * (j + 1) + k)
        rw [note11, if_pos (by omega)]
        congr 1; omega
      · rw [h.2]; congr 1
  · rw [if_pos (show nI na < (14 : Int32) from nI_lt (b := 14) (by omega) (by omega)), if_neg (nI_pos (by omega)), if_neg (show ¬ (14 : Int32) ≤ nI na from nI_ge (b := 14) (by omega) (by omega)), if_neg (show ¬ nI na = (14 : Int32) by rw [show (14 : Int32) = nI 14 from rfl, nI_eq (by omega) (by omega)]; exact e), nI_clamp (by omega)]
    exact ⟨na + 1, by omega, nI_1 na, rfl, row na book frames rainsB hB⟩
theorem Core.act {L sp n na tr na' : Nat} {cl kd : Nat → Nat} {now rains now' rains' plain key stair air : Int32} {text cells kinds frames rainsB triedIs kept keptF keptR lies kind page book keptM isKept page' book' frames' rainsB' : Nat → Int32} (hC : Core L sp n na tr cl kd now rains plain key stair air text cells kinds frames rainsB triedIs kept keptF keptR lies kind page book keptM isKept) (h1 : na' ≤ 14) (h2 : FR n sp cl kd now' page') (h3 : rains' = page' 6) (h4 : ∀ j, j < na' → FR n sp cl kd (frames' j) (fun k => book' (7 * j + k)) ∧ rainsB' j = book' (7 * j + 6)) : Core L sp n na' tr cl kd now' rains' plain key stair air text cells kinds frames' rainsB' triedIs kept keptF keptR lies kind page' book' keptM isKept :=
  ⟨hC.1, h1, hC.2.2.1, hC.2.2.2.1, ⟨h2, h3⟩, h4, hC.2.2.2.2.2.2⟩
theorem Core.hB {L sp n na tr : Nat} {cl kd : Nat → Nat} {now rains plain key stair air : Int32} {text cells kinds frames rainsB triedIs kept keptF keptR lies kind page book keptM isKept : Nat → Int32} (h : Core L sp n na tr cl kd now rains plain key stair air text cells kinds frames rainsB triedIs kept keptF keptR lies kind page book keptM isKept) : ∀ j, j < na → FR n sp cl kd (frames j) (fun k => book (7 * j + k)) ∧ rainsB j = book (7 * j + 6) := h.2.2.2.2.2.1
theorem Core.hK {L sp n na tr : Nat} {cl kd : Nat → Nat} {now rains plain key stair air : Int32} {text cells kinds frames rainsB triedIs kept keptF keptR lies kind page book keptM isKept : Nat → Int32} (h : Core L sp n na tr cl kd now rains plain key stair air text cells kinds frames rainsB triedIs kept keptF keptR lies kind page book keptM isKept) : ∀ k, k < 2 → kept k = isKept k ∧ (isKept k = 0 ∨ (isKept k = 1 ∧ FR n sp cl kd (keptF k) (fun i => keptM (7 * k + i)) ∧ keptR k = keptM (7 * k + 6))) := h.2.2.2.2.2.2.1
theorem canStrike_ok {n sp : Nat} {cl kd h : Nat → Nat} {fr : Int32} {pg : Nat → Int32} (hF : FRh n sp cl kd h fr pg) {c : Nat} (hc : c < 4) : f_X2_canStrike fr (nI c) = if h c = 0 then 0 else 1 := by
  unfold f_X2_canStrike
  rw [height_ok hF hc]
  have := (hF.1 c hc).2
  by_cases e : h c = 0
  · rw [e, if_pos (show nI 0 ≤ (0 : Int32) by decide), if_pos rfl]
  · rw [if_neg (nI_nle (by omega) (by omega)), if_neg e]
theorem pg0 {n sp : Nat} {cl kd h : Nat → Nat} {fr : Int32} {pg : Nat → Int32} (hF : FRh n sp cl kd h fr pg) {c : Nat} (hc : c < 4) {v : Nat} (hv : v < 2 ^ 31) : pg c = nI v ↔ h c = v := by
  have := (hF.1 c hc).2
  rw [(hF.1 c hc).1, nI_eq (by omega) hv]
theorem op_put (L sp n na tr : Nat) (cl kd : Nat → Nat) (now rains plain key stair air thrown place readStock readCells readParts soonMany soonWhich kindMany kindFirst restMany restFirst : Int32) (text triedAbout triedIs cells kinds frames rainsB kept keptF keptR lies kind readPart page trial book keptM isKept gains value : Nat → Int32) (seed : Int64) (a1 : Int32) (hC : Core L sp n na tr cl kd now rains plain key stair air text cells kinds frames rainsB triedIs kept keptF keptR lies kind page book keptM isKept) : (f_X5_put now rains (nI sp) plain key stair air (nI na) frames rainsB a1).1 = (f_X6_put cl n na lies kind page book a1).1 ∧ LInv (f_X5_put now rains (nI sp) plain key stair air (nI na) frames rainsB a1).2.1 rains (nI L) (nI sp) (nI n) plain key stair air (f_X5_put now rains (nI sp) plain key stair air (nI na) frames rainsB a1).2.2.1 (nI tr) text cells kinds (f_X5_put now rains (nI sp) plain key stair air (nI na) frames rainsB a1).2.2.2.1 (f_X5_put now rains (nI sp) plain key stair air (nI na) frames rainsB a1).2.2.2.2 triedAbout triedIs kept keptF keptR seed (f_X6_put cl n na lies kind page book a1).2.1 (nI L) place (nI sp) (nI n) readStock readCells readParts (f_X6_put cl n na lies kind page book a1).2.2.1 (nI tr) soonMany soonWhich kindMany kindFirst restMany restFirst text lies kind readPart (f_X6_put cl n na lies kind page book a1).2.2.2.1 trial (f_X6_put cl n na lies kind page book a1).2.2.2.2 keptM isKept triedAbout triedIs gains value seed := by
  have hI := hC.hI
  unfold f_X5_put f_X6_put
  obtain ⟨h, hF⟩ := hC.hfr
  have h9 : sp ≤ 9 := hI.2.1
  rcases col_cases a1 with ⟨c, hc, rfl, h1, h2⟩ | ⟨h1, h2⟩
  · rw [if_neg h1, if_pos h2, height_ok hF hc, nI_clamp (by omega), store_ok hF, ← hF.2.2.1]
    by_cases e : page 4 = 0
    · rw [if_pos e, if_pos e]; exact ⟨rfl, linv hC⟩
    · rw [if_neg e, if_neg e]
      have h4 := (hF.1 c hc).2
      have hlt : h 0 + h 1 + h 2 + h 3 < sp := by
        refine Classical.byContradiction fun hx => e ?_
        rw [hF.2.2.1, show sp - (h 0 + h 1 + h 2 + h 3) = 0 by omega]; rfl
      by_cases e4 : h c = 4
      · rw [e4, if_neg (show ¬ nI 4 < (4 : Int32) by decide), if_pos (show page c = (4 : Int32) from (pg0 hF hc (v := 4) (by omega)).mpr e4)]
        exact ⟨rfl, linv hC⟩
      · rw [if_pos (show nI (h c) < (4 : Int32) from nI_lt (b := 4) (by omega) (by omega)), if_neg (show ¬ page c = (4 : Int32) from fun a => e4 ((pg0 hF hc (v := 4) (by omega)).mp a))]
        have hp := put_ok hI hF hc (by omega) hlt
        obtain ⟨na', b1, b2, b3, b4⟩ := book_ok hC.hna hC.hfr hC.hra hC.hB
        refine ⟨countHad_ok hI hp.2, ?_⟩
        show LInv _ _ _ _ _ _ _ _ _ (f_X0_remember (nI na) frames rainsB now rains).1 _ _ _ _ _ _ _ _ _ _ _ _ _ _ _ _ _ _ _ _ (f_X6_note na page book).1 _ _ _ _ _ _ _ _ _ _ _ _ _ _ _ _ _ _ _ _ _
        rw [b2, b3]
        exact linv (hC.act b1 ⟨_, hp.2⟩ (hC.hra.trans (put6 hc lies kind page).symm) b4)
  · rw [if_pos h1, if_neg h2]; exact ⟨rfl, linv hC⟩
theorem op_strike (L sp n na tr : Nat) (cl kd : Nat → Nat) (now rains plain key stair air thrown place readStock readCells readParts soonMany soonWhich kindMany kindFirst restMany restFirst : Int32) (text triedAbout triedIs cells kinds frames rainsB kept keptF keptR lies kind readPart page trial book keptM isKept gains value : Nat → Int32) (seed : Int64) (a1 : Int32) (hC : Core L sp n na tr cl kd now rains plain key stair air text cells kinds frames rainsB triedIs kept keptF keptR lies kind page book keptM isKept) : (f_X5_strike now rains plain key stair air (nI na) frames rainsB a1).1 = (f_X6_strike cl n na lies kind page book a1).1 ∧ LInv (f_X5_strike now rains plain key stair air (nI na) frames rainsB a1).2.1 rains (nI L) (nI sp) (nI n) plain key stair air (f_X5_strike now rains plain key stair air (nI na) frames rainsB a1).2.2.1 (nI tr) text cells kinds (f_X5_strike now rains plain key stair air (nI na) frames rainsB a1).2.2.2.1 (f_X5_strike now rains plain key stair air (nI na) frames rainsB a1).2.2.2.2 triedAbout triedIs kept keptF keptR seed (f_X6_strike cl n na lies kind page book a1).2.1 (nI L) place (nI sp) (nI n) readStock readCells readParts (f_X6_strike cl n na lies kind page book a1).2.2.1 (nI tr) soonMany soonWhich kindMany kindFirst restMany restFirst text lies kind readPart (f_X6_strike cl n na lies kind page book a1).2.2.2.1 trial (f_X6_strike cl n na lies kind page book a1).2.2.2.2 keptM isKept triedAbout triedIs gains value seed := by
  have hI := hC.hI
  unfold f_X5_strike f_X6_strike
  obtain ⟨h, hF⟩ := hC.hfr
  rcases col_cases a1 with ⟨c, hc, rfl, h1, h2⟩ | ⟨h1, h2⟩
  · rw [if_neg h1, if_pos h2, nI_clamp (by omega), canStrike_ok hF hc]
    by_cases e : h c = 0
    · rw [if_pos e, if_pos rfl, if_pos (show page c = (0 : Int32) from (pg0 hF hc (v := 0) (by omega)).mpr e)]; exact ⟨rfl, linv hC⟩
    · rw [if_neg e, if_neg (by decide), if_neg (show ¬ page c = (0 : Int32) from fun a => e ((pg0 hF hc (v := 0) (by omega)).mp a))]
      have hp := strike_ok hI hF hc (by omega)
      obtain ⟨na', b1, b2, b3, b4⟩ := book_ok hC.hna hC.hfr hC.hra hC.hB
      refine ⟨?_, ?_⟩
      · dsimp only
        rw [strikeN hc, countHad_ok hI hF, countHad_ok hI hp]
      · show LInv _ _ _ _ _ _ _ _ _ (f_X0_remember (nI na) frames rainsB now rains).1 _ _ _ _ _ _ _ _ _ _ _ _ _ _ _ _ _ _ _ _ (f_X6_note na page book).1 _ _ _ _ _ _ _ _ _ _ _ _ _ _ _ _ _ _ _ _ _
        rw [b2, b3]
        exact linv (hC.act b1 ⟨_, hp⟩ (hC.hra.trans (strike6 hc lies kind page).symm) b4)
  · rw [if_pos h1, if_neg h2]; exact ⟨rfl, linv hC⟩
theorem op_rain (L sp n na tr : Nat) (cl kd : Nat → Nat) (now rains plain key stair air thrown place readStock readCells readParts soonMany soonWhich kindMany kindFirst restMany restFirst : Int32) (text triedAbout triedIs cells kinds frames rainsB kept keptF keptR lies kind readPart page trial book keptM isKept gains value : Nat → Int32) (seed : Int64) (hC : Core L sp n na tr cl kd now rains plain key stair air text cells kinds frames rainsB triedIs kept keptF keptR lies kind page book keptM isKept) : (f_X5_rain now rains plain key stair air (nI na) frames rainsB).1 = (f_X6_rain cl n na lies kind page book).1 ∧ LInv (f_X5_rain now rains plain key stair air (nI na) frames rainsB).2.1 (f_X5_rain now rains plain key stair air (nI na) frames rainsB).2.2.1 (nI L) (nI sp) (nI n) plain key stair air (f_X5_rain now rains plain key stair air (nI na) frames rainsB).2.2.2.1 (nI tr) text cells kinds (f_X5_rain now rains plain key stair air (nI na) frames rainsB).2.2.2.2.1 (f_X5_rain now rains plain key stair air (nI na) frames rainsB).2.2.2.2.2 triedAbout triedIs kept keptF keptR seed (f_X6_rain cl n na lies kind page book).2.1 (nI L) place (nI sp) (nI n) readStock readCells readParts (f_X6_rain cl n na lies kind page book).2.2.1 (nI tr) soonMany soonWhich kindMany kindFirst restMany restFirst text lies kind readPart (f_X6_rain cl n na lies kind page book).2.2.2.1 trial (f_X6_rain cl n na lies kind page book).2.2.2.2 keptM isKept triedAbout triedIs gains value seed := by
  have hI := hC.hI
  unfold f_X5_rain f_X6_rain
  obtain ⟨h, hF⟩ := hC.hfr
  have hp := rain_ok hI hF
  obtain ⟨na', b1, b2, b3, b4⟩ := book_ok hC.hna hC.hfr hC.hra hC.hB
  refine ⟨?_, ?_⟩
  · dsimp only
    rw [countHad_ok hI hF, countHad_ok hI hp.1]
    rfl
  · show LInv _ _ _ _ _ _ _ _ _ (f_X0_remember (nI na) frames rainsB now rains).1 _ _ _ _ _ _ _ _ _ _ _ _ _ _ _ _ _ _ _ _ (f_X6_note na page book).1 _ _ _ _ _ _ _ _ _ _ _ _ _ _ _ _ _ _ _ _ _
    rw [b2, b3]
    exact linv (hC.act b1 ⟨_, hp.1⟩ (show rains + 1 = (f_X6_goRain cl n lies kind page).2 6 by rw [hp.2, hC.hra]) b4)
theorem undo_l (na : Nat) (book : Nat → Int32) : ∀ (d i : Nat) (pg : Nat → Int32) (k : Nat), f_X6_undo_l27 na book d i pg k = if i ≤ k ∧ k < i + d then book (7 * (na - 1) + k) else pg k := by
  intro d
  induction d with
  | zero => intro i t k; rw [f_X6_undo_l27_z, if_neg (by omega)]
  | succ d ih =>
    intro i t k
    rw [f_X6_undo_l27_s, ih]
    by_cases e : k = i
    · subst e; rw [if_neg (by omega), if_pos (by omega), pk_us]
    · rw [pk_un e]
      by_cases h : i ≤ k ∧ k < i + (d + 1)
      · rw [if_pos h, if_pos (by omega)]
      · rw [if_neg h, if_neg (by omega)]
theorem op_undo (L sp n na tr : Nat) (cl kd : Nat → Nat) (now rains plain key stair air thrown place readStock readCells readParts soonMany soonWhich kindMany kindFirst restMany restFirst : Int32) (text triedAbout triedIs cells kinds frames rainsB kept keptF keptR lies kind readPart page trial book keptM isKept gains value : Nat → Int32) (seed : Int64) (hC : Core L sp n na tr cl kd now rains plain key stair air text cells kinds frames rainsB triedIs kept keptF keptR lies kind page book keptM isKept) : (f_X5_undo now rains (nI na) frames rainsB).1 = (f_X6_undo na page book).1 ∧ LInv (f_X5_undo now rains (nI na) frames rainsB).2.1 (f_X5_undo now rains (nI na) frames rainsB).2.2.1 (nI L) (nI sp) (nI n) plain key stair air (f_X5_undo now rains (nI na) frames rainsB).2.2.2 (nI tr) text cells kinds frames rainsB triedAbout triedIs kept keptF keptR seed (f_X6_undo na page book).2.1 (nI L) place (nI sp) (nI n) readStock readCells readParts (f_X6_undo na page book).2.2.1 (nI tr) soonMany soonWhich kindMany kindFirst restMany restFirst text lies kind readPart (f_X6_undo na page book).2.2.2 trial book keptM isKept triedAbout triedIs gains value seed := by
  have hI := hC.hI
  have hna := hC.hna
  unfold f_X5_undo f_X6_undo f_X0_lastFrame f_X0_lastRains
  by_cases e : na = 0
  · subst e
    rw [if_pos (show nI 0 = 0 from rfl), if_pos (show nI 0 = 0 from rfl)]
    exact ⟨rfl, linv hC⟩
  · have e1 : nI na - 1 = nI (na - 1) := pk_sub (b := 1) (by omega)
    rw [if_neg (nI_ne0 (by omega) (by omega)), if_neg (nI_ne0 (by omega) (by omega)), if_neg (nI_nle (by omega) (by omega)), if_neg (nI_nle (by omega) (by omega)), if_neg (show ¬ (14 : Int32) < nI na from nI_nlt (a := 14) (by omega) (by omega)), if_neg (show ¬ (14 : Int32) < nI na from nI_nlt (a := 14) (by omega) (by omega)), e1, nI_clamp (by omega)]
    refine ⟨rfl, ?_⟩
    have h := hC.hB (na - 1) (by omega)
    refine linv (hC.act (by omega) (FR_congr (fun k hk => ?_) h.1) ?_ (fun j hj => hC.hB j (by omega)))
    · show f_X6_undo_l27 na book 7 0 page k = book (7 * (na - 1) + k)
      rw [undo_l, if_pos (by omega)]
    · show rainsB (na - 1) = f_X6_undo_l27 na book 7 0 page 6
      rw [undo_l, if_pos (by omega), h.2]
theorem att_cls {tr : Nat} (htr : tr ≤ 6) (ab st : Nat → Int32) (a1 a2 : Int32) : (f_X5_attempt (nI tr) ab st a1 a2 = (-2, nI tr, ab, st) ∧ f_X6_attempt tr ab st a1 a2 = (-2, 0, nI tr, ab, st)) ∨ (tr = 6 ∧ f_X5_attempt (nI tr) ab st a1 a2 = (-4, nI tr, ab, st) ∧ f_X6_attempt tr ab st a1 a2 = (-4, 0, nI tr, ab, st)) ∨ (tr < 6 ∧ (a2 = 0 ∨ a2 = 1) ∧ f_X5_attempt (nI tr) ab st a1 a2 = (nI (tr + 1), nI (tr + 1), upd ab tr a1, upd st tr a2) ∧ f_X6_attempt tr ab st a1 a2 = (nI (tr + 1), 0, nI (tr + 1), upd ab tr a1, upd st tr a2)) := by
  unfold f_X5_attempt f_X6_attempt f_X4_add
  rcases in32 a1 (m := 31) (M := 31) (by omega) rfl with ⟨c, hc, rfl, h⟩ | ⟨h1, h2⟩
  · rw [if_neg h, if_neg (nI_pos (by omega)), if_neg (show ¬ (31 : Int32) < nI c from nI_nlt (a := 31) (by omega) (by omega))]
    rcases in32 a2 (m := 1) (M := 1) (by omega) rfl with ⟨b, hb, rfl, h3⟩ | ⟨h3, h4⟩
    · rw [if_neg h3, if_neg (nI_pos (by omega)), if_pos (show nI b ≤ (1 : Int32) from nI_le (b := 1) hb (by omega)), if_neg (nI_pos (by omega)), if_neg (nI_pos (by omega))]
      by_cases e : tr = 6
      · subst e
        right; left
        rw [if_neg (show ¬ nI 6 < (6 : Int32) by decide), if_neg (show ¬ nI 6 < (6 : Int32) by decide), if_pos (show nI 6 = (6 : Int32) from rfl)]
        dsimp only
        rw [if_pos rfl, ite_self]
        exact ⟨rfl, rfl, rfl⟩
      · right; right
        rw [if_pos (show nI tr < (6 : Int32) from nI_lt (b := 6) (by omega) (by omega)), if_pos (show nI tr < (6 : Int32) from nI_lt (b := 6) (by omega) (by omega)), if_neg (show ¬ nI tr = (6 : Int32) by rw [show (6 : Int32) = nI 6 from rfl, nI_eq (by omega) (by omega)]; exact e)]
        dsimp only
        rw [if_neg (show ¬ (1 : Int32) = 0 by decide), if_neg (show ¬ (1 : Int32) = 0 by decide), nI_1, nI_clamp (by omega)]
        rcases (show b = 0 ∨ b = 1 by omega) with rfl | rfl
        · rw [nI_0, if_neg (show ¬ (0 : Int32) = 1 by decide)]
          exact ⟨by omega, Or.inl rfl, rfl, rfl⟩
        · rw [show nI 1 = 1 from rfl, if_pos rfl]
          exact ⟨by omega, Or.inr rfl, rfl, rfl⟩
    · rw [if_pos h4]
      left
      by_cases h0 : a2 < 0
      · rw [if_pos h0]; exact ⟨rfl, rfl⟩
      · rw [if_neg h0, if_neg (fun h5 => by
          rcases h3 with h3 | h3
          · exact h0 h3
          · exact absurd h5 (Int32.not_le.mpr h3))]
        exact ⟨rfl, rfl⟩
  · rw [if_pos h2]
    left
    by_cases h0 : a1 < 0
    · rw [if_pos h0]; exact ⟨rfl, rfl⟩
    · rw [if_neg h0, if_pos (by
        rcases h1 with h1 | h1
        · exact absurd h1 h0
        · exact h1)]
      exact ⟨rfl, rfl⟩
theorem op_attempt (L sp n na tr : Nat) (cl kd : Nat → Nat) (now rains plain key stair air thrown place readStock readCells readParts soonMany soonWhich kindMany kindFirst restMany restFirst : Int32) (text triedAbout triedIs cells kinds frames rainsB kept keptF keptR lies kind readPart page trial book keptM isKept gains value : Nat → Int32) (seed : Int64) (a1 : Int32) (a2 : Int32) (hC : Core L sp n na tr cl kd now rains plain key stair air text cells kinds frames rainsB triedIs kept keptF keptR lies kind page book keptM isKept) : (f_X5_attempt (nI tr) triedAbout triedIs a1 a2).1 = (f_X6_attempt tr triedAbout triedIs a1 a2).1 ∧ LInv now rains (nI L) (nI sp) (nI n) plain key stair air (nI na) (f_X5_attempt (nI tr) triedAbout triedIs a1 a2).2.1 text cells kinds frames rainsB (f_X5_attempt (nI tr) triedAbout triedIs a1 a2).2.2.1 (f_X5_attempt (nI tr) triedAbout triedIs a1 a2).2.2.2 kept keptF keptR seed (f_X6_attempt tr triedAbout triedIs a1 a2).2.1 (nI L) place (nI sp) (nI n) readStock readCells readParts (nI na) (f_X6_attempt tr triedAbout triedIs a1 a2).2.2.1 soonMany soonWhich kindMany kindFirst restMany restFirst text lies kind readPart page trial book keptM isKept (f_X6_attempt tr triedAbout triedIs a1 a2).2.2.2.1 (f_X6_attempt tr triedAbout triedIs a1 a2).2.2.2.2 gains value seed := by
  rcases att_cls hC.htr triedAbout triedIs a1 a2 with ⟨h1, h2⟩ | ⟨_, h1, h2⟩ | ⟨ht, hb, h1, h2⟩
  · rw [h1, h2]; exact ⟨rfl, linv hC⟩
  · rw [h1, h2]; exact ⟨rfl, linv hC⟩
  · rw [h1, h2]
    refine ⟨rfl, linv ⟨hC.1, hC.2.1, by omega, hC.2.2.2.1, hC.2.2.2.2.1, hC.2.2.2.2.2.1, hC.2.2.2.2.2.2.1, fun j hj => ?_⟩⟩
    show upd triedIs tr a2 j = 0 ∨ upd triedIs tr a2 j = 1
    by_cases ej : j = tr
    · subst ej
      rw [pk_us]
      exact hb
    · rw [pk_un ej]; exact hC.2.2.2.2.2.2.2 j (by omega)
