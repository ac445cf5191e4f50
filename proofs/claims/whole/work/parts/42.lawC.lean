set_option maxHeartbeats 4000000 in
set_option maxRecDepth 100000 in
theorem law_loop {p : Program} {l : Launch} {e : Env} {s : State} {m : MethodId} {below : List Frame} {meth : Method} {c : Code} {D : va_G} {cI cZ : ClassId} {qx qm : Nat → Nat} {b LL : Nat} {xs : Nat → Int32} (hLL : LL ≤ 2048) (C0 : lw_At p s m meth c b LL xs) (hK : va_K D vwCl (tyL cI cZ) s) : ∀ (d i : Nat), LL < i + 4 * d → i ≤ LL → LK p l e s m below meth c D cI cZ qx qm b i 18 := by
  obtain ⟨hx, hb, hr, hml, hown, hts0, hX, hbl, hlocks, hgv⟩ := id C0
  have hbA : ¬ (fun q : Nat => s.heap.size ≤ q) b := Nat.not_le.mpr hbl
  intro d
  induction d with
  | zero => intro i h1 h2; exact absurd h1 (by omega)
  | succ d ih =>
    intro i h1 h2
    intro now rains length poles parts plain key stair air acnt tcnt letters cells kinds frames rainsB abouts stoods kept keptF keptR seed thrown textSize place stock partsM readStock readCells readParts acts tried soonMany soonWhich kindMany kindFirst restMany restFirst text lies kind readPart page trial book keptM isKept triedAbout triedIs gains value seedM ls H locs hI hP hD hS hl
    refine lv_iload_n hx hb dL_law_18 rfl (lv_at hl 3 rfl) ?_
    refine lv_aload_n hx hb dL_law_19 rfl (lv_at hl 0 rfl) ?_
    refine va_slen hx hb hX hbl hbA hS dL_law_20 ?_
    refine lv_iconst (v := (4 : Int32)) hx hb dL_law_21 (by decide) ?_
    refine lv_isub hx hb dL_law_22 ?_
    have e4 : (4 : Int32).toInt = 4 := by decide
    have eL : (Int32.ofNat LL).toInt = LL := nI_toInt (by omega)
    have eS : (Int32.ofNat LL - 4).toInt = LL - 4 := by rw [i_sub (by omega) (by omega)]; omega
    have eI : (nI i).toInt = i := nI_toInt (by omega)
    refine lv_icmp_gt (tgt := 879) hx hb dL_law_23 (by decide) (fun c_23 => ?_) (fun c_23 => ?_)
    · refine lv_iconst (v := 1) hx hb dL_law_879 (by decide) ?_
      refine va_forget (fun q hq => hS.2.2 q hq) ?_
      refine W.widen (k := 600000) (n := 7302250) (Nat.le_of_ble_eq_true rfl) (Nat.le_of_ble_eq_true rfl) ?_
      exact lw_ret hx hb hr hlocks dL_law_880
    · have hi : i + 3 < LL := by rw [Int32.lt_iff_toInt_lt, eS, eI] at c_23; omega
      have kk : LK p l e s m below meth c D cI cZ qx qm b i 873 := by
        intro now rains length poles parts plain key stair air acnt tcnt letters cells kinds frames rainsB abouts stoods kept keptF keptR seed thrown textSize place stock partsM readStock readCells readParts acts tried soonMany soonWhich kindMany kindFirst restMany restFirst text lies kind readPart page trial book keptM isKept triedAbout triedIs gains value seedM ls H locs hI hP hD hS hl
        refine lv_iinc (v := nI (i + 4)) (lv' := [(3, .int (nI (i + 4))), (0, .ref b), (1, .ref (qx 0)), (2, .ref (qm 0))]) hx hb dL_law_873 hl (k := 3) rfl (nI_add i 4) (by decide) rfl (fun ls hl => ?_)
        refine lv_goto (tgt := 18) hx hb dL_law_876 (by decide) ?_
        exact ih (i + 4) (by omega) (by omega) now rains length poles parts plain key stair air acnt tcnt letters cells kinds frames rainsB abouts stoods kept keptF keptR seed thrown textSize place stock partsM readStock readCells readParts acts tried soonMany soonWhich kindMany kindFirst restMany restFirst text lies kind readPart page trial book keptM isKept triedAbout triedIs gains value seedM ls H locs hI hP hD hS (lv_sub hl [1, 2, 3, 0] rfl)
      refine lv_aload_n hx hb dL_law_26 rfl (lv_at hl 0 rfl) ?_
      refine lv_iload_n hx hb dL_law_27 rfl (lv_at hl 3 rfl) ?_
      refine va_sld hx hb hX hbl hbA hS (vp_in_nI (show i < LL by omega) (by omega)) dL_law_28 ?_
      refine lv_bipush (v := (31 : Int32)) hx hb dL_law_29 (by decide) ?_
      refine lv_iand hx hb dL_law_31 ?_
      obtain ⟨j, hj, ej⟩ := pk_andE (xs (nI i).toNatClampNeg) (m := 31) 5 (by decide)
      refine lv_rw (z := nI j) ej ?_
      have ejT : (nI j).toInt = j := nI_toInt (by omega)
      by_cases hj0 : j = 0
      · subst hj0
        refine lv_tableIn (off := 120) (tgt := 152) hx hb dL_law_32 (by decide) (by decide) (by decide) (by decide) ?_
        exact lc_write hLL C0 hK hi kk now rains length poles parts plain key stair air acnt tcnt letters cells kinds frames rainsB abouts stoods kept keptF keptR seed thrown textSize place stock partsM readStock readCells readParts acts tried soonMany soonWhich kindMany kindFirst restMany restFirst text lies kind readPart page trial book keptM isKept triedAbout triedIs gains value seedM ls H locs hI hP hD hS hl
      by_cases hj1 : j = 1
      · subst hj1
        refine lv_tableIn (off := 143) (tgt := 175) hx hb dL_law_32 (by decide) (by decide) (by decide) (by decide) ?_
        exact lc_wipe hLL C0 hK hi kk now rains length poles parts plain key stair air acnt tcnt letters cells kinds frames rainsB abouts stoods kept keptF keptR seed thrown textSize place stock partsM readStock readCells readParts acts tried soonMany soonWhich kindMany kindFirst restMany restFirst text lies kind readPart page trial book keptM isKept triedAbout triedIs gains value seedM ls H locs hI hP hD hS hl
      by_cases hj2 : j = 2
      · subst hj2
        refine lv_tableIn (off := 156) (tgt := 188) hx hb dL_law_32 (by decide) (by decide) (by decide) (by decide) ?_
        exact lc_fault hLL C0 hK hi kk now rains length poles parts plain key stair air acnt tcnt letters cells kinds frames rainsB abouts stoods kept keptF keptR seed thrown textSize place stock partsM readStock readCells readParts acts tried soonMany soonWhich kindMany kindFirst restMany restFirst text lies kind readPart page trial book keptM isKept triedAbout triedIs gains value seedM ls H locs hI hP hD hS hl
      by_cases hj3 : j = 3
      · subst hj3
        refine lv_tableIn (off := 169) (tgt := 201) hx hb dL_law_32 (by decide) (by decide) (by decide) (by decide) ?_
        exact lc_idea hLL C0 hK hi kk now rains length poles parts plain key stair air acnt tcnt letters cells kinds frames rainsB abouts stoods kept keptF keptR seed thrown textSize place stock partsM readStock readCells readParts acts tried soonMany soonWhich kindMany kindFirst restMany restFirst text lies kind readPart page trial book keptM isKept triedAbout triedIs gains value seedM ls H locs hI hP hD hS hl
      by_cases hj4 : j = 4
      · subst hj4
        refine lv_tableIn (off := 182) (tgt := 214) hx hb dL_law_32 (by decide) (by decide) (by decide) (by decide) ?_
        exact lc_about hLL C0 hK hi kk now rains length poles parts plain key stair air acnt tcnt letters cells kinds frames rainsB abouts stoods kept keptF keptR seed thrown textSize place stock partsM readStock readCells readParts acts tried soonMany soonWhich kindMany kindFirst restMany restFirst text lies kind readPart page trial book keptM isKept triedAbout triedIs gains value seedM ls H locs hI hP hD hS hl
      by_cases hj5 : j = 5
      · subst hj5
        refine lv_tableIn (off := 205) (tgt := 237) hx hb dL_law_32 (by decide) (by decide) (by decide) (by decide) ?_
        exact lc_part hLL C0 hK hi kk now rains length poles parts plain key stair air acnt tcnt letters cells kinds frames rainsB abouts stoods kept keptF keptR seed thrown textSize place stock partsM readStock readCells readParts acts tried soonMany soonWhich kindMany kindFirst restMany restFirst text lies kind readPart page trial book keptM isKept triedAbout triedIs gains value seedM ls H locs hI hP hD hS hl
      by_cases hj6 : j = 6
      · subst hj6
        refine lv_tableIn (off := 238) (tgt := 270) hx hb dL_law_32 (by decide) (by decide) (by decide) (by decide) ?_
        exact lc_column hLL C0 hK hi kk now rains length poles parts plain key stair air acnt tcnt letters cells kinds frames rainsB abouts stoods kept keptF keptR seed thrown textSize place stock partsM readStock readCells readParts acts tried soonMany soonWhich kindMany kindFirst restMany restFirst text lies kind readPart page trial book keptM isKept triedAbout triedIs gains value seedM ls H locs hI hP hD hS hl
      by_cases hj7 : j = 7
      · subst hj7
        refine lv_tableIn (off := 261) (tgt := 293) hx hb dL_law_32 (by decide) (by decide) (by decide) (by decide) ?_
        exact lc_at hLL C0 hK hi kk now rains length poles parts plain key stair air acnt tcnt letters cells kinds frames rainsB abouts stoods kept keptF keptR seed thrown textSize place stock partsM readStock readCells readParts acts tried soonMany soonWhich kindMany kindFirst restMany restFirst text lies kind readPart page trial book keptM isKept triedAbout triedIs gains value seedM ls H locs hI hP hD hS hl
      by_cases hj8 : j = 8
      · subst hj8
        refine lv_tableIn (off := 284) (tgt := 316) hx hb dL_law_32 (by decide) (by decide) (by decide) (by decide) ?_
        exact lc_put hLL C0 hK hi kk now rains length poles parts plain key stair air acnt tcnt letters cells kinds frames rainsB abouts stoods kept keptF keptR seed thrown textSize place stock partsM readStock readCells readParts acts tried soonMany soonWhich kindMany kindFirst restMany restFirst text lies kind readPart page trial book keptM isKept triedAbout triedIs gains value seedM ls H locs hI hP hD hS hl
      by_cases hj9 : j = 9
      · subst hj9
        refine lv_tableIn (off := 307) (tgt := 339) hx hb dL_law_32 (by decide) (by decide) (by decide) (by decide) ?_
        exact lc_strike hLL C0 hK hi kk now rains length poles parts plain key stair air acnt tcnt letters cells kinds frames rainsB abouts stoods kept keptF keptR seed thrown textSize place stock partsM readStock readCells readParts acts tried soonMany soonWhich kindMany kindFirst restMany restFirst text lies kind readPart page trial book keptM isKept triedAbout triedIs gains value seedM ls H locs hI hP hD hS hl
      by_cases hj10 : j = 10
      · subst hj10
        refine lv_tableIn (off := 330) (tgt := 362) hx hb dL_law_32 (by decide) (by decide) (by decide) (by decide) ?_
        exact lc_rain hLL C0 hK hi kk now rains length poles parts plain key stair air acnt tcnt letters cells kinds frames rainsB abouts stoods kept keptF keptR seed thrown textSize place stock partsM readStock readCells readParts acts tried soonMany soonWhich kindMany kindFirst restMany restFirst text lies kind readPart page trial book keptM isKept triedAbout triedIs gains value seedM ls H locs hI hP hD hS hl
      by_cases hj11 : j = 11
      · subst hj11
        refine lv_tableIn (off := 343) (tgt := 375) hx hb dL_law_32 (by decide) (by decide) (by decide) (by decide) ?_
        exact lc_undo hLL C0 hK hi kk now rains length poles parts plain key stair air acnt tcnt letters cells kinds frames rainsB abouts stoods kept keptF keptR seed thrown textSize place stock partsM readStock readCells readParts acts tried soonMany soonWhich kindMany kindFirst restMany restFirst text lies kind readPart page trial book keptM isKept triedAbout triedIs gains value seedM ls H locs hI hP hD hS hl
      by_cases hj12 : j = 12
      · subst hj12
        refine lv_tableIn (off := 356) (tgt := 388) hx hb dL_law_32 (by decide) (by decide) (by decide) (by decide) ?_
        exact lc_loses hLL C0 hK hi kk now rains length poles parts plain key stair air acnt tcnt letters cells kinds frames rainsB abouts stoods kept keptF keptR seed thrown textSize place stock partsM readStock readCells readParts acts tried soonMany soonWhich kindMany kindFirst restMany restFirst text lies kind readPart page trial book keptM isKept triedAbout triedIs gains value seedM ls H locs hI hP hD hS hl
      by_cases hj13 : j = 13
      · subst hj13
        refine lv_tableIn (off := 379) (tgt := 411) hx hb dL_law_32 (by decide) (by decide) (by decide) (by decide) ?_
        exact lc_down hLL C0 hK hi kk now rains length poles parts plain key stair air acnt tcnt letters cells kinds frames rainsB abouts stoods kept keptF keptR seed thrown textSize place stock partsM readStock readCells readParts acts tried soonMany soonWhich kindMany kindFirst restMany restFirst text lies kind readPart page trial book keptM isKept triedAbout triedIs gains value seedM ls H locs hI hP hD hS hl
      by_cases hj14 : j = 14
      · subst hj14
        refine lv_tableIn (off := 402) (tgt := 434) hx hb dL_law_32 (by decide) (by decide) (by decide) (by decide) ?_
        exact lc_soon hLL C0 hK hi kk now rains length poles parts plain key stair air acnt tcnt letters cells kinds frames rainsB abouts stoods kept keptF keptR seed thrown textSize place stock partsM readStock readCells readParts acts tried soonMany soonWhich kindMany kindFirst restMany restFirst text lies kind readPart page trial book keptM isKept triedAbout triedIs gains value seedM ls H locs hI hP hD hS hl
      by_cases hj15 : j = 15
      · subst hj15
        refine lv_tableIn (off := 435) (tgt := 467) hx hb dL_law_32 (by decide) (by decide) (by decide) (by decide) ?_
        exact lc_judge hLL C0 hK hi kk now rains length poles parts plain key stair air acnt tcnt letters cells kinds frames rainsB abouts stoods kept keptF keptR seed thrown textSize place stock partsM readStock readCells readParts acts tried soonMany soonWhich kindMany kindFirst restMany restFirst text lies kind readPart page trial book keptM isKept triedAbout triedIs gains value seedM ls H locs hI hP hD hS hl
      by_cases hj16 : j = 16
      · subst hj16
        refine lv_tableIn (off := 498) (tgt := 530) hx hb dL_law_32 (by decide) (by decide) (by decide) (by decide) ?_
        exact lc_share hLL C0 hK hi kk now rains length poles parts plain key stair air acnt tcnt letters cells kinds frames rainsB abouts stoods kept keptF keptR seed thrown textSize place stock partsM readStock readCells readParts acts tried soonMany soonWhich kindMany kindFirst restMany restFirst text lies kind readPart page trial book keptM isKept triedAbout triedIs gains value seedM ls H locs hI hP hD hS hl
      by_cases hj17 : j = 17
      · subst hj17
        refine lv_tableIn (off := 547) (tgt := 579) hx hb dL_law_32 (by decide) (by decide) (by decide) (by decide) ?_
        exact lc_attempt hLL C0 hK hi kk now rains length poles parts plain key stair air acnt tcnt letters cells kinds frames rainsB abouts stoods kept keptF keptR seed thrown textSize place stock partsM readStock readCells readParts acts tried soonMany soonWhich kindMany kindFirst restMany restFirst text lies kind readPart page trial book keptM isKept triedAbout triedIs gains value seedM ls H locs hI hP hD hS hl
      by_cases hj18 : j = 18
      · subst hj18
        refine lv_tableIn (off := 580) (tgt := 612) hx hb dL_law_32 (by decide) (by decide) (by decide) (by decide) ?_
        exact lc_unattempt hLL C0 hK hi kk now rains length poles parts plain key stair air acnt tcnt letters cells kinds frames rainsB abouts stoods kept keptF keptR seed thrown textSize place stock partsM readStock readCells readParts acts tried soonMany soonWhich kindMany kindFirst restMany restFirst text lies kind readPart page trial book keptM isKept triedAbout triedIs gains value seedM ls H locs hI hP hD hS hl
      by_cases hj19 : j = 19
      · subst hj19
        refine lv_tableIn (off := 593) (tgt := 625) hx hb dL_law_32 (by decide) (by decide) (by decide) (by decide) ?_
        exact lc_kinds hLL C0 hK hi kk now rains length poles parts plain key stair air acnt tcnt letters cells kinds frames rainsB abouts stoods kept keptF keptR seed thrown textSize place stock partsM readStock readCells readParts acts tried soonMany soonWhich kindMany kindFirst restMany restFirst text lies kind readPart page trial book keptM isKept triedAbout triedIs gains value seedM ls H locs hI hP hD hS hl
      by_cases hj20 : j = 20
      · subst hj20
        refine lv_tableIn (off := 616) (tgt := 648) hx hb dL_law_32 (by decide) (by decide) (by decide) (by decide) ?_
        exact lc_rests hLL C0 hK hi kk now rains length poles parts plain key stair air acnt tcnt letters cells kinds frames rainsB abouts stoods kept keptF keptR seed thrown textSize place stock partsM readStock readCells readParts acts tried soonMany soonWhich kindMany kindFirst restMany restFirst text lies kind readPart page trial book keptM isKept triedAbout triedIs gains value seedM ls H locs hI hP hD hS hl
      by_cases hj21 : j = 21
      · subst hj21
        refine lv_tableIn (off := 659) (tgt := 691) hx hb dL_law_32 (by decide) (by decide) (by decide) (by decide) ?_
        exact lc_wet hLL C0 hK hi kk now rains length poles parts plain key stair air acnt tcnt letters cells kinds frames rainsB abouts stoods kept keptF keptR seed thrown textSize place stock partsM readStock readCells readParts acts tried soonMany soonWhich kindMany kindFirst restMany restFirst text lies kind readPart page trial book keptM isKept triedAbout triedIs gains value seedM ls H locs hI hP hD hS hl
      by_cases hj22 : j = 22
      · subst hj22
        refine lv_tableIn (off := 718) (tgt := 750) hx hb dL_law_32 (by decide) (by decide) (by decide) (by decide) ?_
        exact lc_seed hLL C0 hK hi kk now rains length poles parts plain key stair air acnt tcnt letters cells kinds frames rainsB abouts stoods kept keptF keptR seed thrown textSize place stock partsM readStock readCells readParts acts tried soonMany soonWhich kindMany kindFirst restMany restFirst text lies kind readPart page trial book keptM isKept triedAbout triedIs gains value seedM ls H locs hI hP hD hS hl
      by_cases hj23 : j = 23
      · subst hj23
        refine lv_tableIn (off := 772) (tgt := 804) hx hb dL_law_32 (by decide) (by decide) (by decide) (by decide) ?_
        exact lc_terms hLL C0 hK hi kk now rains length poles parts plain key stair air acnt tcnt letters cells kinds frames rainsB abouts stoods kept keptF keptR seed thrown textSize place stock partsM readStock readCells readParts acts tried soonMany soonWhich kindMany kindFirst restMany restFirst text lies kind readPart page trial book keptM isKept triedAbout triedIs gains value seedM ls H locs hI hP hD hS hl
      by_cases hj24 : j = 24
      · subst hj24
        refine lv_tableIn (off := 795) (tgt := 827) hx hb dL_law_32 (by decide) (by decide) (by decide) (by decide) ?_
        exact lc_keep hLL C0 hK hi kk now rains length poles parts plain key stair air acnt tcnt letters cells kinds frames rainsB abouts stoods kept keptF keptR seed thrown textSize place stock partsM readStock readCells readParts acts tried soonMany soonWhich kindMany kindFirst restMany restFirst text lies kind readPart page trial book keptM isKept triedAbout triedIs gains value seedM ls H locs hI hP hD hS hl
      by_cases hj25 : j = 25
      · subst hj25
        refine lv_tableIn (off := 818) (tgt := 850) hx hb dL_law_32 (by decide) (by decide) (by decide) (by decide) ?_
        exact lc_again hLL C0 hK hi kk now rains length poles parts plain key stair air acnt tcnt letters cells kinds frames rainsB abouts stoods kept keptF keptR seed thrown textSize place stock partsM readStock readCells readParts acts tried soonMany soonWhich kindMany kindFirst restMany restFirst text lies kind readPart page trial book keptM isKept triedAbout triedIs gains value seedM ls H locs hI hP hD hS hl
      refine lv_tableOut (tgt := 873) hx hb dL_law_32 (by rw [ejT]; omega) (by decide) ?_
      exact kk now rains length poles parts plain key stair air acnt tcnt letters cells kinds frames rainsB abouts stoods kept keptF keptR seed thrown textSize place stock partsM readStock readCells readParts acts tried soonMany soonWhich kindMany kindFirst restMany restFirst text lies kind readPart page trial book keptM isKept triedAbout triedIs gains value seedM ls H locs hI hP hD hS hl
theorem lawBlindX {D : va_G} {ty : List (ClassId × FieldType)} {w : va_W} {av : List Value} {sz : Nat} : FrameBlind (va_Pc av (fun U => U.heap.size = sz ∧ va_P D vwCl w U.heap ∧ va_K D vwCl ty U ∧ va_D (fun _ => True) w ∧ (fun U => va_Nw (.methodLinkNest RX5 9 yX3_init RX5) U ∧ va_Nw (.methodLinkNest RX5 18 yX2_init RX5) U ∧ va_Nw (.methodLinkNest RX5 25 yX0_init RX5) U ∧ va_Nw (.methodLinkNest RX5 32 yX4_init RX5) U) U)) := by
  intro a U g mk q
  obtain ⟨q0, q1, qP, qK, qD, n1, n2, n3, n4⟩ := q
  exact ⟨q0, q1, qP, va_K.moved (u := U) (U := U.calling g mk a) (Vm.Alike.refl U.vm) qK, qD, va_Nw.same rfl rfl n1, va_Nw.same rfl rfl n2, va_Nw.same rfl rfl n3, va_Nw.same rfl rfl n4⟩
set_option maxHeartbeats 4000000 in
set_option maxRecDepth 100000 in
theorem whole_start {p : Program} {e : Env} {s : State} {m : MethodId} {below : List Frame} {meth : Method} {c : Code} (l : Launch) (hflags : l.flags = flags0) {b L : Nat} {xs : Nat → Int32} (hL : L ≤ 2048) (C0 : lw_At p s m meth c b L xs) : W p l e room_1 s m #[Value.ref b] below meth c s.heap [] 0 0 (lw_Z below #[Value.ref b] s) (entryFrame m ([Value.ref b] : List Value).toArray 4) := by
  obtain ⟨hx, hb, hr, hml, hown, hts0, hX, hbl, hlocks, hgv⟩ := id C0
  have hts : ∀ w ∈ tb, w.before #[Value.ref b] s = true := fun w h => hts0 w (tb_in w h)
  have hA : ∀ q : Nat, s.heap.size ≤ q → (fun q : Nat => s.heap.size ≤ q) q := fun _ h => h
  have hown : s.vm.findClass RL = some m.cls := hown
  obtain ⟨c0, iS0, hKn0⟩ := u_known (C := RX0) (T := TX0) (N := 3) (n := 3) hts tbX0 (hts _ tm_1_67)
  obtain ⟨c1, iS1, hKn1⟩ := u_known (C := RX2) (T := TX2) (N := 8) (n := 8) hts tbX2 (hts _ tm_1_34)
  obtain ⟨c2, iS2, hKn2⟩ := u_known (C := RX3) (T := TX3) (N := 2) (n := 2) hts tbX3 (hts _ tm_1_19)
  obtain ⟨c3, iS3, hKn3⟩ := u_known (C := RX4) (T := TX4) (N := 3) (n := 3) hts tbX4 (hts _ tm_1_84)
  obtain ⟨c4, iS4, hKn4⟩ := u_known (C := RX5) (T := TX5) (N := 10) (n := 10) hts tbX5 (hts _ tm_1_11)
  obtain ⟨c5, iS5, hKn5⟩ := u_known (C := RX6) (T := TX6) (N := 30) (n := 30) hts tbX6 (hts _ tm_2_236)
  obtain ⟨dC, dI, hKc⟩ : ∃ (dC : Nat → ClassId) (dI : Nat → Nat → Nat), ∀ (k : Nat) (q : vw_C), vwCl[k]? = some q → u_Kn s q.1 q.2.1 q.2.2 (dC k) (dI k) := by
    refine ⟨fun k => if k = 0 then c0 else if k = 1 then c1 else if k = 2 then c2 else if k = 3 then c3 else if k = 4 then c4 else c5, fun k => if k = 0 then iS0 else if k = 1 then iS1 else if k = 2 then iS2 else if k = 3 then iS3 else if k = 4 then iS4 else iS5, ?_⟩
    intro k q hq
    match k, hq with
    | 0, hq => cases hq; exact hKn0
    | 1, hq => cases hq; exact hKn1
    | 2, hq => cases hq; exact hKn2
    | 3, hq => cases hq; exact hKn3
    | 4, hq => cases hq; exact hKn4
    | 5, hq => cases hq; exact hKn5
    | k + 6, hq => simp [vwCl] at hq
  obtain ⟨cI, cZ, hK⟩ := tyL_of (D := (dC, dI)) hKc (hts (.arrayClass .int) tm_1_32) (hts (.arrayClass .boolean) tm_1_100)
  generalize (dC, dI) = D at hK
  have hS : va_S (fun q : Nat => s.heap.size ≤ q) s.heap s.heap [] := va_S.rf
  have hP : va_P D vwCl [] s.heap := va_P_nil
  have hD : va_D (fun q : Nat => s.heap.size ≤ q) [] := ⟨fun i j p q h => by simp at h, fun k q h => by simp at h⟩
  have hl := lv_entry ([.ref b]) (n := 4) (Nat.le_of_ble_eq_true rfl)
  rw [lg_entry_eq]
  generalize (lg_sl ([.ref b]) ++ List.replicate (4 - (lg_sl ([.ref b])).length) Slot.unset).toArray = ls at hl ⊢
  have hl : lv_has ls 4 [(0, .ref b)] := hl
  refine va_new (ci := 4) (fs := [.null, .null, .null, .null, .null, .null, .null, .int 0, .int 0, .long 0]) (C := RX5) (T := TX5) (N := 10) hx hb hts tbX5 tyX5 tyX5_ok hown (hts _ tm_1_10) (hts _ tm_1_11) (hts _ tm_1_1) hK hP hD hS hA rfl (fun j hj => by rcases (show j = 0 ∨ j = 1 ∨ j = 2 ∨ j = 3 ∨ j = 4 ∨ j = 5 ∨ j = 6 ∨ j = 7 ∨ j = 8 ∨ j = 9 by omega) with rfl | rfl | rfl | rfl | rfl | rfl | rfl | rfl | rfl | rfl <;> rfl) (Nat.le_of_ble_eq_true rfl) (Nat.le_of_ble_eq_true rfl) dL_law_0 (fun ox H hP hD hS => ?_)
  have hP : va_P D vwCl [(ox, .inr (4, [.null, .null, .null, .null, .null, .null, .null, .int 0, .int 0, .long 0]))] H := hP
  have hD : va_D (fun q : Nat => s.heap.size ≤ q) [(ox, .inr (4, [.null, .null, .null, .null, .null, .null, .null, .int 0, .int 0, .long 0]))] := hD
  refine W.widen (k := 1) (n := 10) (Nat.le_of_ble_eq_true rfl) (Nat.le_of_ble_eq_true rfl) ?_
  refine lv_dup hx hb dL_law_3 rfl ?_
  have hPc := hP.sub (ws' := [(ox, .inr (4, [.null, .null, .null, .null, .null, .null, .null, .int 0, .int 0, .long 0]))]) [0] rfl
  have hDc := hD.sub (ws' := [(ox, .inr (4, [.null, .null, .null, .null, .null, .null, .null, .int 0, .int 0, .long 0]))]) [0] (by decide) rfl
  have hFc := va_free (wc := [(ox, .inr (4, [.null, .null, .null, .null, .null, .null, .null, .int 0, .int 0, .long 0]))]) hD hS hA [0] rfl
  refine va_callv (va_runI (As := []) (rest := [.ref ox]) ⟨hx, hb, hml, hown, hts⟩ (c_X5_init l D cI cZ ox H.size) (cwI 0 hts (gdM tm_1_14) rfl rfl rfl (hts _ tm_1_1) (hts _ tm_1_12) (hts _ tm_1_13) rfl (by decide +kernel) ⟨Nat.le_of_ble_eq_true rfl, Nat.le_of_ble_eq_true rfl⟩) ⟨lawBlindX, fun U hU hW => ⟨rfl, by rw [hU], by rw [hU]; exact hPc, va_K.moved hW.alike hK, hDc.weaken (fun _ _ _ _ => trivial), ⟨va_Nw.warmM hW (va_Nw.of rfl (hts0 _ (tb1 20 (by decide +kernel)))), va_Nw.warmM hW (va_Nw.of rfl (hts0 _ (tb1 35 (by decide +kernel)))), va_Nw.warmM hW (va_Nw.of rfl (hts0 _ (tb1 68 (by decide +kernel)))), va_Nw.warmM hW (va_Nw.of rfl (hts0 _ (tb1 85 (by decide +kernel))))⟩⟩⟩ rfl rfl hl.1 rfl (lv_room (Nat.le_of_ble_eq_true rfl)) dL_law_4 ⟨Nat.le_of_ble_eq_true rfl, Nat.le_of_ble_eq_true rfl⟩) hS (fun q _ h => hFc q h) hFc (fun u t H1 locs ht hvm hw hB hz1 hk1 hS => ?_)
  obtain ⟨qx, hq0, rfl⟩ := hw
  subst hq0
  obtain ⟨hP1, hD1⟩ := hB
  rw [ht] at hP1
  obtain ⟨hP, hD⟩ := va_join (wr := []) (w1 := XW cI cZ qx 0 0 0 0 0 0 0 0 0 0 0 (fun _ => (0 : Int32)) cells0 (fun _ => (0 : Int32)) (fun _ => (0 : Int32)) (fun _ => (0 : Int32)) (fun _ => (0 : Int32)) (fun _ => (0 : Int32)) (fun _ => (0 : Int32)) (fun _ => (0 : Int32)) (fun _ => (0 : Int32)) 0) hP hD [0] [] rfl rfl (by decide) (by decide) hk1 hFc hP1 hD1
  generalize H1 = H at hP hS ⊢
  have hP : va_P D vwCl (XW cI cZ qx 0 0 0 0 0 0 0 0 0 0 0 (fun _ => (0 : Int32)) cells0 (fun _ => (0 : Int32)) (fun _ => (0 : Int32)) (fun _ => (0 : Int32)) (fun _ => (0 : Int32)) (fun _ => (0 : Int32)) (fun _ => (0 : Int32)) (fun _ => (0 : Int32)) (fun _ => (0 : Int32)) 0) H := hP
  have hD : va_D (fun q : Nat => s.heap.size ≤ q) (XW cI cZ qx 0 0 0 0 0 0 0 0 0 0 0 (fun _ => (0 : Int32)) cells0 (fun _ => (0 : Int32)) (fun _ => (0 : Int32)) (fun _ => (0 : Int32)) (fun _ => (0 : Int32)) (fun _ => (0 : Int32)) (fun _ => (0 : Int32)) (fun _ => (0 : Int32)) (fun _ => (0 : Int32)) 0) := hD
  refine W.widen (k := 15) (n := 118) (Nat.le_of_ble_eq_true rfl) (Nat.le_of_ble_eq_true rfl) ?_
  refine lv_astore_n (lv' := [(1, .ref (qx 0)), (0, .ref b)]) hx hb dL_law_7 rfl hl (by decide) rfl (fun ls hl => ?_)
  refine va_new (ci := 5) (fs := [.int 0, .null, .int 0, .int 0, .int 0, .int 0, .null, .null, .int 0, .int 0, .int 0, .null, .null, .null, .null, .int 0, .null, .null, .int 0, .null, .null, .long 0, .int 0, .int 0, .int 0, .int 0, .int 0, .int 0, .null, .null]) (C := RX6) (T := TX6) (N := 30) hx hb hts tbX6 tyX6 tyX6_ok hown (hts _ tm_2_235) (hts _ tm_2_236) (hts _ tm_1_6) hK hP hD hS hA rfl (fun j hj => by rcases (show j = 0 ∨ j = 1 ∨ j = 2 ∨ j = 3 ∨ j = 4 ∨ j = 5 ∨ j = 6 ∨ j = 7 ∨ j = 8 ∨ j = 9 ∨ j = 10 ∨ j = 11 ∨ j = 12 ∨ j = 13 ∨ j = 14 ∨ j = 15 ∨ j = 16 ∨ j = 17 ∨ j = 18 ∨ j = 19 ∨ j = 20 ∨ j = 21 ∨ j = 22 ∨ j = 23 ∨ j = 24 ∨ j = 25 ∨ j = 26 ∨ j = 27 ∨ j = 28 ∨ j = 29 by omega) with rfl | rfl | rfl | rfl | rfl | rfl | rfl | rfl | rfl | rfl | rfl | rfl | rfl | rfl | rfl | rfl | rfl | rfl | rfl | rfl | rfl | rfl | rfl | rfl | rfl | rfl | rfl | rfl | rfl | rfl <;> rfl) (Nat.le_of_ble_eq_true rfl) (Nat.le_of_ble_eq_true rfl) dL_law_8 (fun om H hP hD hS => ?_)
  have hP : va_P D vwCl (XW cI cZ qx 0 0 0 0 0 0 0 0 0 0 0 (fun _ => (0 : Int32)) cells0 (fun _ => (0 : Int32)) (fun _ => (0 : Int32)) (fun _ => (0 : Int32)) (fun _ => (0 : Int32)) (fun _ => (0 : Int32)) (fun _ => (0 : Int32)) (fun _ => (0 : Int32)) (fun _ => (0 : Int32)) 0 ++ [(om, .inr (5, [.int 0, .null, .int 0, .int 0, .int 0, .int 0, .null, .null, .int 0, .int 0, .int 0, .null, .null, .null, .null, .int 0, .null, .null, .int 0, .null, .null, .long 0, .int 0, .int 0, .int 0, .int 0, .int 0, .int 0, .null, .null]))]) H := hP
  have hD : va_D (fun q : Nat => s.heap.size ≤ q) (XW cI cZ qx 0 0 0 0 0 0 0 0 0 0 0 (fun _ => (0 : Int32)) cells0 (fun _ => (0 : Int32)) (fun _ => (0 : Int32)) (fun _ => (0 : Int32)) (fun _ => (0 : Int32)) (fun _ => (0 : Int32)) (fun _ => (0 : Int32)) (fun _ => (0 : Int32)) (fun _ => (0 : Int32)) 0 ++ [(om, .inr (5, [.int 0, .null, .int 0, .int 0, .int 0, .int 0, .null, .null, .int 0, .int 0, .int 0, .null, .null, .null, .null, .int 0, .null, .null, .int 0, .null, .null, .long 0, .int 0, .int 0, .int 0, .int 0, .int 0, .int 0, .null, .null]))]) := hD
  refine W.widen (k := 16) (n := 148) (Nat.le_of_ble_eq_true rfl) (Nat.le_of_ble_eq_true rfl) ?_
  refine lv_dup hx hb dL_law_11 rfl ?_
  have hPc := hP.sub (ws' := [(om, .inr (5, [.int 0, .null, .int 0, .int 0, .int 0, .int 0, .null, .null, .int 0, .int 0, .int 0, .null, .null, .null, .null, .int 0, .null, .null, .int 0, .null, .null, .long 0, .int 0, .int 0, .int 0, .int 0, .int 0, .int 0, .null, .null]))]) [15] rfl
  have hDc := hD.sub (ws' := [(om, .inr (5, [.int 0, .null, .int 0, .int 0, .int 0, .int 0, .null, .null, .int 0, .int 0, .int 0, .null, .null, .null, .null, .int 0, .null, .null, .int 0, .null, .null, .long 0, .int 0, .int 0, .int 0, .int 0, .int 0, .int 0, .null, .null]))]) [15] (by decide) rfl
  have hFc := va_free (wc := [(om, .inr (5, [.int 0, .null, .int 0, .int 0, .int 0, .int 0, .null, .null, .int 0, .int 0, .int 0, .null, .null, .null, .null, .int 0, .null, .null, .int 0, .null, .null, .long 0, .int 0, .int 0, .int 0, .int 0, .int 0, .int 0, .null, .null]))]) hD hS hA [15] rfl
  refine va_callv (va_runI (As := []) (rest := [.ref om]) ⟨hx, hb, hml, hown, hts⟩ (c_X6_init l D cI cZ om H.size) (cwI 0 hts (gdM tm_2_239) rfl rfl rfl (hts _ tm_1_6) (hts _ tm_2_237) (hts _ tm_2_238) rfl (by decide +kernel) ⟨Nat.le_of_ble_eq_true rfl, Nat.le_of_ble_eq_true rfl⟩) ⟨NwV.blind, fun U hU hW => ⟨rfl, by rw [hU], by rw [hU]; exact hPc, va_K.moved hW.alike hK, hDc.weaken (fun _ _ _ _ => trivial), trivial⟩⟩ rfl rfl hl.1 rfl (lv_room (Nat.le_of_ble_eq_true rfl)) dL_law_12 ⟨Nat.le_of_ble_eq_true rfl, Nat.le_of_ble_eq_true rfl⟩) hS (fun q _ h => hFc q h) hFc (fun u t H1 locs ht hvm hw hB hz1 hk1 hS => ?_)
  obtain ⟨qm, hq0, rfl⟩ := hw
  subst hq0
  obtain ⟨hP1, hD1⟩ := hB
  rw [ht] at hP1
  obtain ⟨hP, hD⟩ := va_join (wr := XW cI cZ qx 0 0 0 0 0 0 0 0 0 0 0 (fun _ => (0 : Int32)) cells0 (fun _ => (0 : Int32)) (fun _ => (0 : Int32)) (fun _ => (0 : Int32)) (fun _ => (0 : Int32)) (fun _ => (0 : Int32)) (fun _ => (0 : Int32)) (fun _ => (0 : Int32)) (fun _ => (0 : Int32)) 0) (w1 := MW cI cZ qm 0 0 0 0 0 0 0 0 0 0 0 0 0 0 0 0 (fun _ => (0 : Int32)) (fun _ => (0 : Int32)) (fun _ => (0 : Int32)) (fun _ => (0 : Int32)) (fun _ => (0 : Int32)) (fun _ => (0 : Int32)) (fun _ => (0 : Int32)) (fun _ => (0 : Int32)) (fun _ => (0 : Int32)) (fun _ => (0 : Int32)) (fun _ => (0 : Int32)) (fun _ => (0 : Int32)) (fun _ => (0 : Int32)) 0) hP hD [15] [0, 1, 2, 3, 4, 5, 6, 7, 8, 9, 10, 11, 12, 13, 14] rfl rfl (by decide) (by decide) hk1 hFc hP1 hD1
  generalize H1 = H at hP hS ⊢
  refine W.widen (k := 29) (n := 494) (Nat.le_of_ble_eq_true rfl) (Nat.le_of_ble_eq_true rfl) ?_
  refine lv_astore_n (lv' := [(2, .ref (qm 0)), (1, .ref (qx 0)), (0, .ref b)]) hx hb dL_law_15 rfl hl (by decide) rfl (fun ls hl => ?_)
  refine lv_iconst (v := 0) hx hb dL_law_16 (by decide) ?_
  refine lv_istore_n (lv' := [(3, .int 0), (2, .ref (qm 0)), (1, .ref (qx 0)), (0, .ref b)]) hx hb dL_law_17 rfl hl (by decide) rfl (fun ls hl => ?_)
  exact law_loop hL C0 hK (L + 1) 0 (by omega) (by omega) 0 0 0 0 0 0 0 0 0 0 0 (fun _ => (0 : Int32)) cells0 (fun _ => (0 : Int32)) (fun _ => (0 : Int32)) (fun _ => (0 : Int32)) (fun _ => (0 : Int32)) (fun _ => (0 : Int32)) (fun _ => (0 : Int32)) (fun _ => (0 : Int32)) (fun _ => (0 : Int32)) 0 0 0 0 0 0 0 0 0 0 0 0 0 0 0 0 0 (fun _ => (0 : Int32)) (fun _ => (0 : Int32)) (fun _ => (0 : Int32)) (fun _ => (0 : Int32)) (fun _ => (0 : Int32)) (fun _ => (0 : Int32)) (fun _ => (0 : Int32)) (fun _ => (0 : Int32)) (fun _ => (0 : Int32)) (fun _ => (0 : Int32)) (fun _ => (0 : Int32)) (fun _ => (0 : Int32)) (fun _ => (0 : Int32)) 0 ls H locs inv_start hP hD hS (lv_sub hl [3, 2, 1, 0] rfl)
