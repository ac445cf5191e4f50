theorem de_X6_left : deOK yX6_left 0 := by decide +kernel
theorem de_X6_about : deOK yX6_about 1 := by decide +kernel
theorem de_X6_part : deOK yX6_part 2 := by decide +kernel
theorem de_X6_column : deOK yX6_column 1 := by decide +kernel
theorem de_X6_at : deOK yX6_at 1 := by decide +kernel
theorem de_X6_note : deOK yX6_note 0 := by decide +kernel
theorem de_X6_put : deOK yX6_put 1 := by decide +kernel
theorem de_X6_strike : deOK yX6_strike 1 := by decide +kernel
theorem de_X6_rain : deOK yX6_rain 0 := by decide +kernel
theorem de_X6_undo : deOK yX6_undo 0 := by decide +kernel
theorem de_X6_loses : deOK yX6_loses 1 := by decide +kernel
theorem de_X6_down : deOK yX6_down 1 := by decide +kernel
def f_X6_left_l6  : Nat → Nat → (Nat → Int32) → Nat → Int32
  | 0, i_6, tr6 => tr6
  | d_6 + 1, i_6, tr6 => (f_X6_left_l6  d_6 (i_6 + 1) (upd tr6 i_6 (0 : Int32)))
theorem f_X6_left_l6_z  {i_6 : Nat} {tr6 : Nat → Int32} : f_X6_left_l6  0 i_6 tr6 = tr6 := by rw [f_X6_left_l6]
theorem f_X6_left_l6_s  {d_6 : Nat} {i_6 : Nat} {tr6 : Nat → Int32} : f_X6_left_l6  (d_6 + 1) i_6 tr6 = (f_X6_left_l6  d_6 (i_6 + 1) (upd tr6 i_6 (0 : Int32))) := by rw [f_X6_left_l6]
def f_X6_left (cl : Nat → Nat) (n : Nat) (lies : Nat → Int32) (kind : Nat → Int32) (page : Nat → Int32) (trial : Nat → Int32) : (Int32) × (Nat → Int32) := (((f_X6_settle cl n lies kind (f_X6_left_l6  4 0 (f_X6_begin page trial))).2 5), (f_X6_settle cl n lies kind (f_X6_left_l6  4 0 (f_X6_begin page trial))).2)
set_option maxHeartbeats 4000000 in
set_option maxRecDepth 100000 in
theorem c_X6_left (l : Launch) (D : va_G) (cI cZ : ClassId) (q : Nat → Nat) (thrown : Int32) (textSize : Int32) (place : Int32) (stock : Int32) (n : Nat) (readStock : Int32) (readCells : Int32) (readParts : Int32) (acts : Int32) (tried : Int32) (soonMany : Int32) (soonWhich : Int32) (kindMany : Int32) (kindFirst : Int32) (restMany : Int32) (restFirst : Int32) (text lies kind readPart page trial book kept isKept triedAbout triedIs gains value : Nat → Int32) (seed : Int64) (hn7 : n ≤ 7) (cl : Nat → Nat) (hcl : ∀ j, j < 7 → lies j = nI (cl j) ∧ cl j < 16) : WrI l yX6_left cX6_left 2 .int 6 142 D (tyL cI cZ) (MW cI cZ q thrown textSize place stock (nI n) readStock readCells readParts acts tried soonMany soonWhich kindMany kindFirst restMany restFirst text lies kind readPart page trial book kept isKept triedAbout triedIs gains value seed) [.ref (q 0)] (f_X6_left cl n lies kind page trial).1 (MW cI cZ q thrown textSize place stock (nI n) readStock readCells readParts acts tried soonMany soonWhich kindMany kindFirst restMany restFirst text lies kind readPart page (f_X6_left cl n lies kind page trial).2 book kept isKept triedAbout triedIs gains value seed) := by
  refine WrI.of (by decide) (Nat.le_of_ble_eq_true rfl) ?_
  intro p e s m args below meth c Q A hx hb hml hown hts hP hK hD hS fin ls hl
  have hown : s.vm.findClass RX6 = some m.cls := hown
  have hF : CallFix p m c cX6_left 2 s args tb RX6 := ⟨hx, hb, hml, hown, hts⟩
  have hl : lv_has ls 2 [(0, .ref (q 0))] := hl
  generalize hR : (f_X6_left cl n lies kind page trial) = R at fin
  unfold f_X6_left at hR
  refine lv_aload_n hx hb dX6_left_0 rfl (lv_at hl 0 rfl) ?_
  refine vWrV (b := (q 0)) (As := []) (rest := []) hF (c_X6_begin l D cI cZ q thrown textSize place stock (nI n) readStock readCells readParts acts tried soonMany soonWhich kindMany kindFirst restMany restFirst text lies kind readPart page trial book kept isKept triedAbout triedIs gains value seed) (gdV tm_3_137 tm_3_139 tp_13 tm_1_6 tm_3_140) de_X6_begin ⟨Nat.le_of_ble_eq_true rfl, Nat.le_of_ble_eq_true rfl⟩ hP hK (va_recv hK hP (ci := 5) (q0 := 0) rfl MW_0) hl.1 rfl (Nat.le_of_ble_eq_true rfl) dX6_left_1 ⟨Nat.zero_le _, Nat.zero_le _⟩ hD hS (fun H locs hP hS => ?_)
  have hP : va_P D vwCl (MW cI cZ q thrown textSize place stock (nI n) readStock readCells readParts acts tried soonMany soonWhich kindMany kindFirst restMany restFirst text lies kind readPart page (f_X6_begin page trial) book kept isKept triedAbout triedIs gains value seed) H := hP
  have hD : va_D A (MW cI cZ q thrown textSize place stock (nI n) readStock readCells readParts acts tried soonMany soonWhich kindMany kindFirst restMany restFirst text lies kind readPart page (f_X6_begin page trial) book kept isKept triedAbout triedIs gains value seed) := hD.same (MW_ad.trans MW_ad.symm)
  refine lv_iconst (v := (0 : Int32)) hx hb dX6_left_4 (by decide) ?_
  refine lv_istore_n (lv' := [(1, .int (0 : Int32)), (0, .ref (q 0))]) hx hb dX6_left_5 rfl hl (by decide) rfl (fun ls hl => ?_)
  obtain ⟨T_6, hT_6⟩ : ∃ z, f_X6_left_l6  4 0 (f_X6_begin page trial) = z := ⟨_, rfl⟩
  rw [hT_6] at hR
  have key_6 : ∀ (d_6 i_6 : Nat) (tr6 : Nat → Int32) (ls : Array Slot) (H : Heap) (locs : List Loc), i_6 + d_6 = 4 → f_X6_left_l6  d_6 i_6 tr6 = T_6 → lv_has ls 2 [(1, .int (nI i_6)), (0, .ref (q 0))] → va_P D vwCl (MW cI cZ q thrown textSize place stock (nI n) readStock readCells readParts acts tried soonMany soonWhich kindMany kindFirst restMany restFirst text lies kind readPart page tr6 book kept isKept triedAbout triedIs gains value seed) H → va_S A s.heap H locs → W p l e (rmO 6 142) s m args below meth c H locs 0 0 Q (F0 m 6 ls []) := by
    intro d_6
    induction d_6 with
    | zero =>
      intro i_6 tr6 ls H locs hi_6 hT_6 hl hP hS
      have hD : va_D A (MW cI cZ q thrown textSize place stock (nI n) readStock readCells readParts acts tried soonMany soonWhich kindMany kindFirst restMany restFirst text lies kind readPart page tr6 book kept isKept triedAbout triedIs gains value seed) := hD.same (MW_ad.trans MW_ad.symm)
      rw [f_X6_left_l6_z] at hT_6
      refine lv_iload_n hx hb dX6_left_6 rfl (lv_at hl 0 rfl) ?_
      refine lv_iconst (v := (4 : Int32)) hx hb dX6_left_7 (by decide) ?_
      refine lv_icmp_ge (tgt := 24) hx hb dX6_left_8 (by decide) (fun c_8 => ?_) (fun c_8 => absurd (nI_le (a := 4) (by omega) (by omega)) c_8)
      subst hT_6
      try dsimp only at hR
      refine lv_aload_n hx hb dX6_left_24 rfl (lv_at hl 1 rfl) ?_
      refine lv_aload_n hx hb dX6_left_25 rfl (lv_at hl 1 rfl) ?_
      refine va_get (D := D) (ci := 5) (v := .ref (q 6)) (C := RX6) (T := TX6) (N := 30) hx hb hts tbX6 hown hK hP 0 MW_0 rfl 13 (by decide) (hts _ tm_3_14) (fun _ h9 => h9) rfl dX6_left_26 ?_
      refine vWrI (b := (q 0)) (As := [.ref (q 6)]) (rest := []) hF (c_X6_settle_trial l D cI cZ q thrown textSize place stock n readStock readCells readParts acts tried soonMany soonWhich kindMany kindFirst restMany restFirst text lies kind readPart page tr6 book kept isKept triedAbout triedIs gains value seed hn7 cl hcl) (gdV tm_3_141 tm_3_143 tp_14 tm_1_6 tm_3_144) de_X6_settle ⟨Nat.le_of_ble_eq_true rfl, Nat.le_of_ble_eq_true rfl⟩ hP hK (va_recv hK hP (ci := 5) (q0 := 0) rfl MW_0) hl.1 rfl (Nat.le_of_ble_eq_true rfl) dX6_left_29 ⟨Nat.zero_le _, Nat.zero_le _⟩ hD hS (fun H locs hP hS => ?_)
      have hP : va_P D vwCl (MW cI cZ q thrown textSize place stock (nI n) readStock readCells readParts acts tried soonMany soonWhich kindMany kindFirst restMany restFirst text lies kind readPart page (f_X6_settle cl n lies kind tr6).2 book kept isKept triedAbout triedIs gains value seed) H := hP
      have hD : va_D A (MW cI cZ q thrown textSize place stock (nI n) readStock readCells readParts acts tried soonMany soonWhich kindMany kindFirst restMany restFirst text lies kind readPart page (f_X6_settle cl n lies kind tr6).2 book kept isKept triedAbout triedIs gains value seed) := hD.same (MW_ad.trans MW_ad.symm)
      refine lv_pop hx hb dX6_left_32 rfl ?_
      refine lv_aload_n hx hb dX6_left_33 rfl (lv_at hl 1 rfl) ?_
      refine va_get (D := D) (ci := 5) (v := .ref (q 6)) (C := RX6) (T := TX6) (N := 30) hx hb hts tbX6 hown hK hP 0 MW_0 rfl 13 (by decide) (hts _ tm_3_14) (fun _ h9 => h9) rfl dX6_left_34 ?_
      refine lv_iconst (v := (5 : Int32)) hx hb dX6_left_37 (by decide) ?_
      refine va_iald hx hb hK hP 6 0 MW_6 rfl (vp_in_nI (n := 5) (by decide) (by decide)) dX6_left_38 ?_
      refine lv_rw (z := ((f_X6_settle cl n lies kind tr6).2 5)) (congrArg (f_X6_settle cl n lies kind tr6).2 cl_5) ?_
      subst hR
      exact fin _ _ _ _ dX6_left_39 (nar_i _) hP hS
    | succ d_6 ih_6 =>
      intro i_6 tr6 ls H locs hi_6 hT_6 hl hP hS
      have hD : va_D A (MW cI cZ q thrown textSize place stock (nI n) readStock readCells readParts acts tried soonMany soonWhich kindMany kindFirst restMany restFirst text lies kind readPart page tr6 book kept isKept triedAbout triedIs gains value seed) := hD.same (MW_ad.trans MW_ad.symm)
      rw [f_X6_left_l6_s] at hT_6
      refine lv_iload_n hx hb dX6_left_6 rfl (lv_at hl 0 rfl) ?_
      refine lv_iconst (v := (4 : Int32)) hx hb dX6_left_7 (by decide) ?_
      refine lv_icmp_ge (tgt := 24) hx hb dX6_left_8 (by decide) (fun c_8 => absurd c_8 (nI_ge (b := 4) (by omega) (by omega))) (fun c_8 => ?_)
      refine lv_aload_n hx hb dX6_left_11 rfl (lv_at hl 1 rfl) ?_
      refine va_get (D := D) (ci := 5) (v := .ref (q 6)) (C := RX6) (T := TX6) (N := 30) hx hb hts tbX6 hown hK hP 0 MW_0 rfl 13 (by decide) (hts _ tm_3_14) (fun _ h9 => h9) rfl dX6_left_12 ?_
      refine lv_iload_n hx hb dX6_left_15 rfl (lv_at hl 0 rfl) ?_
      refine lv_iconst (v := (0 : Int32)) hx hb dX6_left_16 (by decide) ?_
      refine va_iast hx hb hK hP hD hS 6 0 MW_6 rfl (vp_in_nI (show i_6 < 7 by omega) (by omega)) dX6_left_17 (fun H locs hP _ hS => ?_)
      have hP : va_P D vwCl (MW cI cZ q thrown textSize place stock (nI n) readStock readCells readParts acts tried soonMany soonWhich kindMany kindFirst restMany restFirst text lies kind readPart page (upd tr6 (nI i_6).toNatClampNeg (0 : Int32)) book kept isKept triedAbout triedIs gains value seed) H := hP
      rw [(nI_clamp (show i_6 < 2 ^ 31 by omega))] at hP
      have hD : va_D A (MW cI cZ q thrown textSize place stock (nI n) readStock readCells readParts acts tried soonMany soonWhich kindMany kindFirst restMany restFirst text lies kind readPart page (upd tr6 i_6 (0 : Int32)) book kept isKept triedAbout triedIs gains value seed) := hD.same (MW_ad.trans MW_ad.symm)
      refine lv_iinc (v := (nI (i_6 + 1))) (lv' := [(1, .int (nI (i_6 + 1))), (0, .ref (q 0))]) hx hb dX6_left_18 hl (k := 0) rfl (nI_up i_6) (by decide) rfl (fun ls hl => ?_)
      refine lv_goto (tgt := 6) hx hb dX6_left_21 (by decide) ?_
      exact ih_6 (i_6 + 1) (upd tr6 i_6 (0 : Int32)) ls _ _ (by omega) hT_6 (lv_sub hl [0, 1] rfl) hP hS
  exact key_6 4 0 (f_X6_begin page trial) ls _ _ (by omega) hT_6 (lv_sub hl [0, 1] rfl) hP hS
def f_X6_about (cl : Nat → Nat) (n : Nat) (textSize : Int32) (acts : Int32) (tried : Int32) (lies : Nat → Int32) (kind : Nat → Int32) (page : Nat → Int32) (trial : Nat → Int32) (a1 : Int32) : (Int32) × (Int32) × (Nat → Int32) := (if a1 = (0 : Int32) then ((nI n), (0 : Int32), trial) else (if a1 = (1 : Int32) then ((page 4), (0 : Int32), trial) else (if a1 = (2 : Int32) then ((f_X6_poles page), (0 : Int32), trial) else (if a1 = (3 : Int32) then ((page 5), (0 : Int32), trial) else (if a1 = (4 : Int32) then ((page 6), (0 : Int32), trial) else (if a1 = (5 : Int32) then ((f_X6_left cl n lies kind page trial).1, (0 : Int32), (f_X6_left cl n lies kind page trial).2) else (if a1 = (6 : Int32) then (acts, (0 : Int32), trial) else (if a1 = (7 : Int32) then (tried, (0 : Int32), trial) else (if a1 = (8 : Int32) then (textSize, (0 : Int32), trial) else ((-2 : Int32), (0 : Int32), trial))))))))))
set_option maxHeartbeats 4000000 in
set_option maxRecDepth 100000 in
theorem c_X6_about (l : Launch) (D : va_G) (cI cZ : ClassId) (q : Nat → Nat) (thrown : Int32) (textSize : Int32) (place : Int32) (stock : Int32) (n : Nat) (readStock : Int32) (readCells : Int32) (readParts : Int32) (acts : Int32) (tried : Int32) (soonMany : Int32) (soonWhich : Int32) (kindMany : Int32) (kindFirst : Int32) (restMany : Int32) (restFirst : Int32) (text lies kind readPart page trial book kept isKept triedAbout triedIs gains value : Nat → Int32) (seed : Int64) (a1 : Int32) (hn7 : n ≤ 7) (cl : Nat → Nat) (hcl : ∀ j, j < 7 → lies j = nI (cl j) ∧ cl j < 16) : WrI l yX6_about cX6_about 2 .int 7 163 D (tyL cI cZ) (MW cI cZ q thrown textSize place stock (nI n) readStock readCells readParts acts tried soonMany soonWhich kindMany kindFirst restMany restFirst text lies kind readPart page trial book kept isKept triedAbout triedIs gains value seed) [.ref (q 0), .int a1] (f_X6_about cl n textSize acts tried lies kind page trial a1).1 (MW cI cZ q (f_X6_about cl n textSize acts tried lies kind page trial a1).2.1 textSize place stock (nI n) readStock readCells readParts acts tried soonMany soonWhich kindMany kindFirst restMany restFirst text lies kind readPart page (f_X6_about cl n textSize acts tried lies kind page trial a1).2.2 book kept isKept triedAbout triedIs gains value seed) := by
  refine WrI.of (by decide) (Nat.le_of_ble_eq_true rfl) ?_
  intro p e s m args below meth c Q A hx hb hml hown hts hP hK hD hS fin ls hl
  have hown : s.vm.findClass RX6 = some m.cls := hown
  have hF : CallFix p m c cX6_about 2 s args tb RX6 := ⟨hx, hb, hml, hown, hts⟩
  have hl : lv_has ls 2 [(0, .ref (q 0)), (1, .int a1)] := hl
  generalize hR : (f_X6_about cl n textSize acts tried lies kind page trial a1) = R at fin
  unfold f_X6_about at hR
  refine lv_aload_n hx hb dX6_about_0 rfl (lv_at hl 0 rfl) ?_
  refine lv_iconst (v := (0 : Int32)) hx hb dX6_about_1 (by decide) ?_
  refine va_put (D := D) (ci := 5) (v := .int (0 : Int32)) (ty := .int) (C := RX6) (T := TX6) (N := 30) hx hb hts tbX6 tyX6 tyX6_ok nmX6 hown hK hP hD hS 0 MW_0 rfl 0 (by decide) (hts _ tm_3_1) (fun _ h9 => h9) rfl (by decide +kernel) rfl rfl (Nat.le_of_ble_eq_true rfl) dX6_about_2 (fun H locs hP _ hS => ?_)
  have hP : va_P D vwCl (MW cI cZ q (0 : Int32) textSize place stock (nI n) readStock readCells readParts acts tried soonMany soonWhich kindMany kindFirst restMany restFirst text lies kind readPart page trial book kept isKept triedAbout triedIs gains value seed) H := hP
  have hD : va_D A (MW cI cZ q (0 : Int32) textSize place stock (nI n) readStock readCells readParts acts tried soonMany soonWhich kindMany kindFirst restMany restFirst text lies kind readPart page trial book kept isKept triedAbout triedIs gains value seed) := hD.same (MW_ad.trans MW_ad.symm)
  refine lv_iload_n hx hb dX6_about_5 rfl (lv_at hl 1 rfl) ?_
  refine Decidable.byCases (p := a1 = (0 : Int32)) (fun c_6_0 => ?_) (fun c_6_0 => ?_)
  · rw [if_pos c_6_0] at hR
    refine lv_tableIn (tgt := 56) hx hb dX6_about_6 (by rw [c_6_0]; decide) (by rw [c_6_0]; decide) (by rw [c_6_0]; rfl) (by decide) ?_
    refine lv_aload_n hx hb dX6_about_56 rfl (lv_at hl 0 rfl) ?_
    refine va_get (D := D) (ci := 5) (v := .int (nI n)) (C := RX6) (T := TX6) (N := 30) hx hb hts tbX6 hown hK hP 0 MW_0 rfl 5 (by decide) (hts _ tm_3_6) (fun _ h9 => h9) rfl dX6_about_57 ?_
    subst hR
    exact fin _ _ _ _ dX6_about_60 (nar_i _) hP hS
  · rw [if_neg c_6_0] at hR
    refine Decidable.byCases (p := a1 = (1 : Int32)) (fun c_6_1 => ?_) (fun c_6_1 => ?_)
    · rw [if_pos c_6_1] at hR
      refine lv_tableIn (tgt := 61) hx hb dX6_about_6 (by rw [c_6_1]; decide) (by rw [c_6_1]; decide) (by rw [c_6_1]; rfl) (by decide) ?_
      refine lv_aload_n hx hb dX6_about_61 rfl (lv_at hl 0 rfl) ?_
      refine va_get (D := D) (ci := 5) (v := .ref (q 5)) (C := RX6) (T := TX6) (N := 30) hx hb hts tbX6 hown hK hP 0 MW_0 rfl 12 (by decide) (hts _ tm_3_13) (fun _ h9 => h9) rfl dX6_about_62 ?_
      refine lv_iconst (v := (4 : Int32)) hx hb dX6_about_65 (by decide) ?_
      refine va_iald hx hb hK hP 5 0 MW_5 rfl (vp_in_nI (n := 4) (by decide) (by decide)) dX6_about_66 ?_
      refine lv_rw (z := (page 4)) (congrArg page cl_4) ?_
      subst hR
      exact fin _ _ _ _ dX6_about_67 (nar_i _) hP hS
    · rw [if_neg c_6_1] at hR
      refine Decidable.byCases (p := a1 = (2 : Int32)) (fun c_6_2 => ?_) (fun c_6_2 => ?_)
      · rw [if_pos c_6_2] at hR
        refine lv_tableIn (tgt := 68) hx hb dX6_about_6 (by rw [c_6_2]; decide) (by rw [c_6_2]; decide) (by rw [c_6_2]; rfl) (by decide) ?_
        refine lv_aload_n hx hb dX6_about_68 rfl (lv_at hl 0 rfl) ?_
        refine va_get (D := D) (ci := 5) (v := .ref (q 5)) (C := RX6) (T := TX6) (N := 30) hx hb hts tbX6 hown hK hP 0 MW_0 rfl 12 (by decide) (hts _ tm_3_13) (fun _ h9 => h9) rfl dX6_about_69 ?_
        refine sRdI (As := [.ref (q 5)]) (rest := []) hF (c_X6_poles l D cI cZ q (0 : Int32) textSize place stock (nI n) readStock readCells readParts acts tried soonMany soonWhich kindMany kindFirst restMany restFirst text lies kind readPart page trial book kept isKept triedAbout triedIs gains value seed 5 (q 5) page MW_5) (gdS tm_3_130 tm_3_131 tm_1_6 tm_3_132) de_X6_poles ⟨Nat.le_of_ble_eq_true rfl, Nat.le_of_ble_eq_true rfl⟩ hP hK hl.1 rfl (Nat.le_of_ble_eq_true rfl) dX6_about_72 ⟨Nat.zero_le _, Nat.zero_le _⟩ ?_
        subst hR
        exact fin _ _ _ _ dX6_about_75 (nar_i _) hP hS
      · rw [if_neg c_6_2] at hR
        refine Decidable.byCases (p := a1 = (3 : Int32)) (fun c_6_3 => ?_) (fun c_6_3 => ?_)
        · rw [if_pos c_6_3] at hR
          refine lv_tableIn (tgt := 76) hx hb dX6_about_6 (by rw [c_6_3]; decide) (by rw [c_6_3]; decide) (by rw [c_6_3]; rfl) (by decide) ?_
          refine lv_aload_n hx hb dX6_about_76 rfl (lv_at hl 0 rfl) ?_
          refine va_get (D := D) (ci := 5) (v := .ref (q 5)) (C := RX6) (T := TX6) (N := 30) hx hb hts tbX6 hown hK hP 0 MW_0 rfl 12 (by decide) (hts _ tm_3_13) (fun _ h9 => h9) rfl dX6_about_77 ?_
          refine lv_iconst (v := (5 : Int32)) hx hb dX6_about_80 (by decide) ?_
          refine va_iald hx hb hK hP 5 0 MW_5 rfl (vp_in_nI (n := 5) (by decide) (by decide)) dX6_about_81 ?_
          refine lv_rw (z := (page 5)) (congrArg page cl_5) ?_
          subst hR
          exact fin _ _ _ _ dX6_about_82 (nar_i _) hP hS
        · rw [if_neg c_6_3] at hR
          refine Decidable.byCases (p := a1 = (4 : Int32)) (fun c_6_4 => ?_) (fun c_6_4 => ?_)
          · rw [if_pos c_6_4] at hR
            refine lv_tableIn (tgt := 83) hx hb dX6_about_6 (by rw [c_6_4]; decide) (by rw [c_6_4]; decide) (by rw [c_6_4]; rfl) (by decide) ?_
            refine lv_aload_n hx hb dX6_about_83 rfl (lv_at hl 0 rfl) ?_
            refine va_get (D := D) (ci := 5) (v := .ref (q 5)) (C := RX6) (T := TX6) (N := 30) hx hb hts tbX6 hown hK hP 0 MW_0 rfl 12 (by decide) (hts _ tm_3_13) (fun _ h9 => h9) rfl dX6_about_84 ?_
            refine lv_bipush (v := (6 : Int32)) hx hb dX6_about_87 (by decide) ?_
            refine va_iald hx hb hK hP 5 0 MW_5 rfl (vp_in_nI (n := 6) (by decide) (by decide)) dX6_about_89 ?_
            refine lv_rw (z := (page 6)) (congrArg page cl_6) ?_
            subst hR
            exact fin _ _ _ _ dX6_about_90 (nar_i _) hP hS
          · rw [if_neg c_6_4] at hR
            refine Decidable.byCases (p := a1 = (5 : Int32)) (fun c_6_5 => ?_) (fun c_6_5 => ?_)
            · rw [if_pos c_6_5] at hR
              refine lv_tableIn (tgt := 91) hx hb dX6_about_6 (by rw [c_6_5]; decide) (by rw [c_6_5]; decide) (by rw [c_6_5]; rfl) (by decide) ?_
              refine lv_aload_n hx hb dX6_about_91 rfl (lv_at hl 0 rfl) ?_
              refine vWrI (b := (q 0)) (As := []) (rest := []) hF (c_X6_left l D cI cZ q (0 : Int32) textSize place stock n readStock readCells readParts acts tried soonMany soonWhich kindMany kindFirst restMany restFirst text lies kind readPart page trial book kept isKept triedAbout triedIs gains value seed hn7 cl hcl) (gdV tm_3_133 tm_3_135 tp_12 tm_1_6 tm_3_136) de_X6_left ⟨Nat.le_of_ble_eq_true rfl, Nat.le_of_ble_eq_true rfl⟩ hP hK (va_recv hK hP (ci := 5) (q0 := 0) rfl MW_0) hl.1 rfl (Nat.le_of_ble_eq_true rfl) dX6_about_92 ⟨Nat.zero_le _, Nat.zero_le _⟩ hD hS (fun H locs hP hS => ?_)
              have hP : va_P D vwCl (MW cI cZ q (0 : Int32) textSize place stock (nI n) readStock readCells readParts acts tried soonMany soonWhich kindMany kindFirst restMany restFirst text lies kind readPart page (f_X6_left cl n lies kind page trial).2 book kept isKept triedAbout triedIs gains value seed) H := hP
              have hD : va_D A (MW cI cZ q (0 : Int32) textSize place stock (nI n) readStock readCells readParts acts tried soonMany soonWhich kindMany kindFirst restMany restFirst text lies kind readPart page (f_X6_left cl n lies kind page trial).2 book kept isKept triedAbout triedIs gains value seed) := hD.same (MW_ad.trans MW_ad.symm)
              subst hR
              exact fin _ _ _ _ dX6_about_95 (nar_i _) hP hS
            · rw [if_neg c_6_5] at hR
              refine Decidable.byCases (p := a1 = (6 : Int32)) (fun c_6_6 => ?_) (fun c_6_6 => ?_)
              · rw [if_pos c_6_6] at hR
                refine lv_tableIn (tgt := 96) hx hb dX6_about_6 (by rw [c_6_6]; decide) (by rw [c_6_6]; decide) (by rw [c_6_6]; rfl) (by decide) ?_
                refine lv_aload_n hx hb dX6_about_96 rfl (lv_at hl 0 rfl) ?_
                refine va_get (D := D) (ci := 5) (v := .int acts) (C := RX6) (T := TX6) (N := 30) hx hb hts tbX6 hown hK hP 0 MW_0 rfl 15 (by decide) (hts _ tm_3_16) (fun _ h9 => h9) rfl dX6_about_97 ?_
                subst hR
                exact fin _ _ _ _ dX6_about_100 (nar_i _) hP hS
              · rw [if_neg c_6_6] at hR
                refine Decidable.byCases (p := a1 = (7 : Int32)) (fun c_6_7 => ?_) (fun c_6_7 => ?_)
                · rw [if_pos c_6_7] at hR
                  refine lv_tableIn (tgt := 101) hx hb dX6_about_6 (by rw [c_6_7]; decide) (by rw [c_6_7]; decide) (by rw [c_6_7]; rfl) (by decide) ?_
                  refine lv_aload_n hx hb dX6_about_101 rfl (lv_at hl 0 rfl) ?_
                  refine va_get (D := D) (ci := 5) (v := .int tried) (C := RX6) (T := TX6) (N := 30) hx hb hts tbX6 hown hK hP 0 MW_0 rfl 18 (by decide) (hts _ tm_3_19) (fun _ h9 => h9) rfl dX6_about_102 ?_
                  subst hR
                  exact fin _ _ _ _ dX6_about_105 (nar_i _) hP hS
                · rw [if_neg c_6_7] at hR
                  refine Decidable.byCases (p := a1 = (8 : Int32)) (fun c_6_8 => ?_) (fun c_6_8 => ?_)
                  · rw [if_pos c_6_8] at hR
                    refine lv_tableIn (tgt := 106) hx hb dX6_about_6 (by rw [c_6_8]; decide) (by rw [c_6_8]; decide) (by rw [c_6_8]; rfl) (by decide) ?_
                    refine lv_aload_n hx hb dX6_about_106 rfl (lv_at hl 0 rfl) ?_
                    refine va_get (D := D) (ci := 5) (v := .int textSize) (C := RX6) (T := TX6) (N := 30) hx hb hts tbX6 hown hK hP 0 MW_0 rfl 2 (by decide) (hts _ tm_3_3) (fun _ h9 => h9) rfl dX6_about_107 ?_
                    subst hR
                    exact fin _ _ _ _ dX6_about_110 (nar_i _) hP hS
                  · rw [if_neg c_6_8] at hR
                    refine lv_tableOut (tgt := 111) hx hb dX6_about_6 (by have h0 := lv_neT c_6_0 (a := 0) (by decide); have h1 := lv_neT c_6_1 (a := 1) (by decide); have h2 := lv_neT c_6_2 (a := 2) (by decide); have h3 := lv_neT c_6_3 (a := 3) (by decide); have h4 := lv_neT c_6_4 (a := 4) (by decide); have h5 := lv_neT c_6_5 (a := 5) (by decide); have h6 := lv_neT c_6_6 (a := 6) (by decide); have h7 := lv_neT c_6_7 (a := 7) (by decide); have h8 := lv_neT c_6_8 (a := 8) (by decide); omega) (by decide) ?_
                    refine lv_bipush (v := (-2 : Int32)) hx hb dX6_about_111 (by decide) ?_
                    subst hR
                    exact fin _ _ _ _ dX6_about_113 (nar_i _) hP hS
def f_X6_part (cl : Nat → Nat) (n : Nat) (lies : Nat → Int32) (kind : Nat → Int32) (page : Nat → Int32) (a1 : Int32) (a2 : Int32) : (Int32) × (Int32) := (if (f_X6_noPart n a1) = (0 : Int32) then (if a2 = (0 : Int32) then ((lies a1.toNatClampNeg), (0 : Int32)) else (if a2 = (1 : Int32) then ((kind a1.toNatClampNeg), (0 : Int32)) else (if a2 = (2 : Int32) then (((shr (page 5) a1) &&& (1 : Int32)), (0 : Int32)) else (if a2 = (3 : Int32) then (if (f_X6_hasPole cl a1.toNatClampNeg page) = (0 : Int32) then ((0 : Int32), (0 : Int32)) else ((1 : Int32), (0 : Int32))) else ((-2 : Int32), (0 : Int32)))))) else ((-1 : Int32), (0 : Int32)))
set_option maxHeartbeats 4000000 in
set_option maxRecDepth 100000 in
theorem c_X6_part (l : Launch) (D : va_G) (cI cZ : ClassId) (q : Nat → Nat) (thrown : Int32) (textSize : Int32) (place : Int32) (stock : Int32) (n : Nat) (readStock : Int32) (readCells : Int32) (readParts : Int32) (acts : Int32) (tried : Int32) (soonMany : Int32) (soonWhich : Int32) (kindMany : Int32) (kindFirst : Int32) (restMany : Int32) (restFirst : Int32) (text lies kind readPart page trial book kept isKept triedAbout triedIs gains value : Nat → Int32) (seed : Int64) (a1 : Int32) (a2 : Int32) (hn7 : n ≤ 7) (cl : Nat → Nat) (hcl : ∀ j, j < 7 → lies j = nI (cl j) ∧ cl j < 16) : WrI l yX6_part cX6_part 3 .int 2 46 D (tyL cI cZ) (MW cI cZ q thrown textSize place stock (nI n) readStock readCells readParts acts tried soonMany soonWhich kindMany kindFirst restMany restFirst text lies kind readPart page trial book kept isKept triedAbout triedIs gains value seed) [.ref (q 0), .int a1, .int a2] (f_X6_part cl n lies kind page a1 a2).1 (MW cI cZ q (f_X6_part cl n lies kind page a1 a2).2 textSize place stock (nI n) readStock readCells readParts acts tried soonMany soonWhich kindMany kindFirst restMany restFirst text lies kind readPart page trial book kept isKept triedAbout triedIs gains value seed) := by
  refine WrI.of (by decide) (Nat.le_of_ble_eq_true rfl) ?_
  intro p e s m args below meth c Q A hx hb hml hown hts hP hK hD hS fin ls hl
  have hown : s.vm.findClass RX6 = some m.cls := hown
  have hF : CallFix p m c cX6_part 3 s args tb RX6 := ⟨hx, hb, hml, hown, hts⟩
  have hl : lv_has ls 3 [(0, .ref (q 0)), (1, .int a1), (2, .int a2)] := hl
  generalize hR : (f_X6_part cl n lies kind page a1 a2) = R at fin
  unfold f_X6_part at hR
  refine lv_aload_n hx hb dX6_part_0 rfl (lv_at hl 0 rfl) ?_
  refine lv_iconst (v := (0 : Int32)) hx hb dX6_part_1 (by decide) ?_
  refine va_put (D := D) (ci := 5) (v := .int (0 : Int32)) (ty := .int) (C := RX6) (T := TX6) (N := 30) hx hb hts tbX6 tyX6 tyX6_ok nmX6 hown hK hP hD hS 0 MW_0 rfl 0 (by decide) (hts _ tm_3_1) (fun _ h9 => h9) rfl (by decide +kernel) rfl rfl (Nat.le_of_ble_eq_true rfl) dX6_part_2 (fun H locs hP _ hS => ?_)
  have hP : va_P D vwCl (MW cI cZ q (0 : Int32) textSize place stock (nI n) readStock readCells readParts acts tried soonMany soonWhich kindMany kindFirst restMany restFirst text lies kind readPart page trial book kept isKept triedAbout triedIs gains value seed) H := hP
  have hD : va_D A (MW cI cZ q (0 : Int32) textSize place stock (nI n) readStock readCells readParts acts tried soonMany soonWhich kindMany kindFirst restMany restFirst text lies kind readPart page trial book kept isKept triedAbout triedIs gains value seed) := hD.same (MW_ad.trans MW_ad.symm)
  refine lv_aload_n hx hb dX6_part_5 rfl (lv_at hl 0 rfl) ?_
  refine lv_iload_n hx hb dX6_part_6 rfl (lv_at hl 1 rfl) ?_
  refine vRdI (b := (q 0)) (As := [.int a1]) (rest := []) hF (c_X6_noPart l D cI cZ q (0 : Int32) textSize place stock n readStock readCells readParts acts tried soonMany soonWhich kindMany kindFirst restMany restFirst text lies kind readPart page trial book kept isKept triedAbout triedIs gains value seed a1) (gdV tm_3_178 tm_3_180 tp_20 tm_1_6 tm_3_181) de_X6_noPart ⟨Nat.le_of_ble_eq_true rfl, Nat.le_of_ble_eq_true rfl⟩ hP hK (va_recv hK hP (ci := 5) (q0 := 0) rfl MW_0) hl.1 rfl (Nat.le_of_ble_eq_true rfl) dX6_part_7 ⟨Nat.zero_le _, Nat.zero_le _⟩ ?_
  refine lv_if_eq (tgt := 15) hx hb dX6_part_10 (by decide) (fun c_10 => ?_) (fun c_10 => ?_)
  · rw [if_pos c_10] at hR
    have hp1 := noPart_nI hn7 c_10
    have hp2 := noPart_lt hn7 c_10
    refine lv_iload_n hx hb dX6_part_15 rfl (lv_at hl 2 rfl) ?_
    refine Decidable.byCases (p := a2 = (0 : Int32)) (fun c_16_0 => ?_) (fun c_16_0 => ?_)
    · rw [if_pos c_16_0] at hR
      refine lv_tableIn (tgt := 48) hx hb dX6_part_16 (by rw [c_16_0]; decide) (by rw [c_16_0]; decide) (by rw [c_16_0]; rfl) (by decide) ?_
      refine lv_aload_n hx hb dX6_part_48 rfl (lv_at hl 0 rfl) ?_
      refine va_get (D := D) (ci := 5) (v := .ref (q 2)) (C := RX6) (T := TX6) (N := 30) hx hb hts tbX6 hown hK hP 0 MW_0 rfl 6 (by decide) (hts _ tm_3_7) (fun _ h9 => h9) rfl dX6_part_49 ?_
      refine lv_iload_n hx hb dX6_part_52 rfl (lv_at hl 1 rfl) ?_
      refine lv_rw (z := (nI a1.toNatClampNeg)) hp1 ?_
      refine va_iald hx hb hK hP 2 0 MW_2 rfl (vp_in_nI (show a1.toNatClampNeg < 7 by omega) (by omega)) dX6_part_53 ?_
      refine lv_rw (z := (lies a1.toNatClampNeg)) (congrArg lies (nI_clamp (show a1.toNatClampNeg < 2 ^ 31 by omega))) ?_
      subst hR
      exact fin _ _ _ _ dX6_part_54 (nar_i _) hP hS
    · rw [if_neg c_16_0] at hR
      refine Decidable.byCases (p := a2 = (1 : Int32)) (fun c_16_1 => ?_) (fun c_16_1 => ?_)
      · rw [if_pos c_16_1] at hR
        refine lv_tableIn (tgt := 55) hx hb dX6_part_16 (by rw [c_16_1]; decide) (by rw [c_16_1]; decide) (by rw [c_16_1]; rfl) (by decide) ?_
        refine lv_aload_n hx hb dX6_part_55 rfl (lv_at hl 0 rfl) ?_
        refine va_get (D := D) (ci := 5) (v := .ref (q 3)) (C := RX6) (T := TX6) (N := 30) hx hb hts tbX6 hown hK hP 0 MW_0 rfl 7 (by decide) (hts _ tm_3_8) (fun _ h9 => h9) rfl dX6_part_56 ?_
        refine lv_iload_n hx hb dX6_part_59 rfl (lv_at hl 1 rfl) ?_
        refine lv_rw (z := (nI a1.toNatClampNeg)) hp1 ?_
        refine va_iald hx hb hK hP 3 0 MW_3 rfl (vp_in_nI (show a1.toNatClampNeg < 7 by omega) (by omega)) dX6_part_60 ?_
        refine lv_rw (z := (kind a1.toNatClampNeg)) (congrArg kind (nI_clamp (show a1.toNatClampNeg < 2 ^ 31 by omega))) ?_
        subst hR
        exact fin _ _ _ _ dX6_part_61 (nar_i _) hP hS
      · rw [if_neg c_16_1] at hR
        refine Decidable.byCases (p := a2 = (2 : Int32)) (fun c_16_2 => ?_) (fun c_16_2 => ?_)
        · rw [if_pos c_16_2] at hR
          refine lv_tableIn (tgt := 62) hx hb dX6_part_16 (by rw [c_16_2]; decide) (by rw [c_16_2]; decide) (by rw [c_16_2]; rfl) (by decide) ?_
          refine lv_aload_n hx hb dX6_part_62 rfl (lv_at hl 0 rfl) ?_
          refine va_get (D := D) (ci := 5) (v := .ref (q 5)) (C := RX6) (T := TX6) (N := 30) hx hb hts tbX6 hown hK hP 0 MW_0 rfl 12 (by decide) (hts _ tm_3_13) (fun _ h9 => h9) rfl dX6_part_63 ?_
          refine lv_iconst (v := (5 : Int32)) hx hb dX6_part_66 (by decide) ?_
          refine va_iald hx hb hK hP 5 0 MW_5 rfl (vp_in_nI (n := 5) (by decide) (by decide)) dX6_part_67 ?_
          refine lv_rw (z := (page 5)) (congrArg page cl_5) ?_
          refine lv_iload_n hx hb dX6_part_68 rfl (lv_at hl 1 rfl) ?_
          refine lv_ishr hx hb dX6_part_69 ?_
          refine lv_rw (z := (shr (page 5) a1)) rfl ?_
          refine lv_iconst (v := (1 : Int32)) hx hb dX6_part_70 (by decide) ?_
          refine lv_iand hx hb dX6_part_71 ?_
          subst hR
          exact fin _ _ _ _ dX6_part_72 (nar_i _) hP hS
        · rw [if_neg c_16_2] at hR
          refine Decidable.byCases (p := a2 = (3 : Int32)) (fun c_16_3 => ?_) (fun c_16_3 => ?_)
          · rw [if_pos c_16_3] at hR
            refine lv_tableIn (tgt := 73) hx hb dX6_part_16 (by rw [c_16_3]; decide) (by rw [c_16_3]; decide) (by rw [c_16_3]; rfl) (by decide) ?_
            refine lv_aload_n hx hb dX6_part_73 rfl (lv_at hl 0 rfl) ?_
            refine lv_aload_n hx hb dX6_part_74 rfl (lv_at hl 0 rfl) ?_
            refine va_get (D := D) (ci := 5) (v := .ref (q 5)) (C := RX6) (T := TX6) (N := 30) hx hb hts tbX6 hown hK hP 0 MW_0 rfl 12 (by decide) (hts _ tm_3_13) (fun _ h9 => h9) rfl dX6_part_75 ?_
            refine lv_iload_n hx hb dX6_part_78 rfl (lv_at hl 1 rfl) ?_
            refine lv_rw (z := (nI a1.toNatClampNeg)) hp1 ?_
            refine vRdI (b := (q 0)) (As := [.ref (q 5), .int (nI a1.toNatClampNeg)]) (rest := []) hF (c_X6_hasPole l D cI cZ q (0 : Int32) textSize place stock n readStock readCells readParts acts tried soonMany soonWhich kindMany kindFirst restMany restFirst text lies kind readPart page trial book kept isKept triedAbout triedIs gains value seed 5 (q 5) page MW_5 a1.toNatClampNeg (by omega) cl hcl) (gdV tm_3_153 tm_3_155 tp_17 tm_1_6 tm_3_156) de_X6_hasPole ⟨Nat.le_of_ble_eq_true rfl, Nat.le_of_ble_eq_true rfl⟩ hP hK (va_recv hK hP (ci := 5) (q0 := 0) rfl MW_0) hl.1 rfl (Nat.le_of_ble_eq_true rfl) dX6_part_79 ⟨Nat.zero_le _, Nat.zero_le _⟩ ?_
            refine lv_if_eq (tgt := 89) hx hb dX6_part_82 (by decide) (fun c_82 => ?_) (fun c_82 => ?_)
            · rw [if_pos c_82] at hR
              refine lv_iconst (v := (0 : Int32)) hx hb dX6_part_89 (by decide) ?_
              subst hR
              exact fin _ _ _ _ dX6_part_90 (nar_i _) hP hS
            · rw [if_neg c_82] at hR
              refine lv_iconst (v := (1 : Int32)) hx hb dX6_part_85 (by decide) ?_
              refine lv_goto (tgt := 90) hx hb dX6_part_86 (by decide) ?_
              subst hR
              exact fin _ _ _ _ dX6_part_90 (nar_i _) hP hS
          · rw [if_neg c_16_3] at hR
            refine lv_tableOut (tgt := 91) hx hb dX6_part_16 (by have h0 := lv_neT c_16_0 (a := 0) (by decide); have h1 := lv_neT c_16_1 (a := 1) (by decide); have h2 := lv_neT c_16_2 (a := 2) (by decide); have h3 := lv_neT c_16_3 (a := 3) (by decide); omega) (by decide) ?_
            refine lv_bipush (v := (-2 : Int32)) hx hb dX6_part_91 (by decide) ?_
            subst hR
            exact fin _ _ _ _ dX6_part_93 (nar_i _) hP hS
  · rw [if_neg c_10] at hR
    refine lv_iconst (v := (-1 : Int32)) hx hb dX6_part_13 (by decide) ?_
    subst hR
    exact fin _ _ _ _ dX6_part_14 (nar_i _) hP hS
def f_X6_column (page : Nat → Int32) (a1 : Int32) : (Int32) × (Int32) := (if (f_X6_noColumn a1) = (0 : Int32) then ((page a1.toNatClampNeg), (0 : Int32)) else ((-1 : Int32), (0 : Int32)))
set_option maxHeartbeats 4000000 in
set_option maxRecDepth 100000 in
theorem c_X6_column (l : Launch) (D : va_G) (cI cZ : ClassId) (q : Nat → Nat) (thrown textSize place stock parts readStock readCells readParts acts tried soonMany soonWhich kindMany kindFirst restMany restFirst : Int32) (text lies kind readPart page trial book kept isKept triedAbout triedIs gains value : Nat → Int32) (seed : Int64) (a1 : Int32) : WrI l yX6_column cX6_column 2 .int 2 45 D (tyL cI cZ) (MW cI cZ q thrown textSize place stock parts readStock readCells readParts acts tried soonMany soonWhich kindMany kindFirst restMany restFirst text lies kind readPart page trial book kept isKept triedAbout triedIs gains value seed) [.ref (q 0), .int a1] (f_X6_column page a1).1 (MW cI cZ q (f_X6_column page a1).2 textSize place stock parts readStock readCells readParts acts tried soonMany soonWhich kindMany kindFirst restMany restFirst text lies kind readPart page trial book kept isKept triedAbout triedIs gains value seed) := by
  refine WrI.of (by decide) (Nat.le_of_ble_eq_true rfl) ?_
  intro p e s m args below meth c Q A hx hb hml hown hts hP hK hD hS fin ls hl
  have hown : s.vm.findClass RX6 = some m.cls := hown
  have hF : CallFix p m c cX6_column 2 s args tb RX6 := ⟨hx, hb, hml, hown, hts⟩
  have hl : lv_has ls 2 [(0, .ref (q 0)), (1, .int a1)] := hl
  generalize hR : (f_X6_column page a1) = R at fin
  unfold f_X6_column at hR
  refine lv_aload_n hx hb dX6_column_0 rfl (lv_at hl 0 rfl) ?_
  refine lv_iconst (v := (0 : Int32)) hx hb dX6_column_1 (by decide) ?_
  refine va_put (D := D) (ci := 5) (v := .int (0 : Int32)) (ty := .int) (C := RX6) (T := TX6) (N := 30) hx hb hts tbX6 tyX6 tyX6_ok nmX6 hown hK hP hD hS 0 MW_0 rfl 0 (by decide) (hts _ tm_3_1) (fun _ h9 => h9) rfl (by decide +kernel) rfl rfl (Nat.le_of_ble_eq_true rfl) dX6_column_2 (fun H locs hP _ hS => ?_)
  have hP : va_P D vwCl (MW cI cZ q (0 : Int32) textSize place stock parts readStock readCells readParts acts tried soonMany soonWhich kindMany kindFirst restMany restFirst text lies kind readPart page trial book kept isKept triedAbout triedIs gains value seed) H := hP
  have hD : va_D A (MW cI cZ q (0 : Int32) textSize place stock parts readStock readCells readParts acts tried soonMany soonWhich kindMany kindFirst restMany restFirst text lies kind readPart page trial book kept isKept triedAbout triedIs gains value seed) := hD.same (MW_ad.trans MW_ad.symm)
  refine lv_iload_n hx hb dX6_column_5 rfl (lv_at hl 1 rfl) ?_
  refine sRdI (As := [.int a1]) (rest := []) hF (c_X6_noColumn l D cI cZ q a1) (gdS tm_3_161 tm_3_162 tm_1_6 tm_3_163) de_X6_noColumn ⟨Nat.le_of_ble_eq_true rfl, Nat.le_of_ble_eq_true rfl⟩ va_P_nil hK hl.1 rfl (Nat.le_of_ble_eq_true rfl) dX6_column_6 ⟨Nat.zero_le _, Nat.zero_le _⟩ ?_
  refine lv_if_eq (tgt := 16) hx hb dX6_column_9 (by decide) (fun c_9 => ?_) (fun c_9 => ?_)
  · rw [if_pos c_9] at hR
    have hc1 := noCol_nI c_9
    have hc2 := noCol_lt c_9
    refine lv_aload_n hx hb dX6_column_16 rfl (lv_at hl 0 rfl) ?_
    refine va_get (D := D) (ci := 5) (v := .ref (q 5)) (C := RX6) (T := TX6) (N := 30) hx hb hts tbX6 hown hK hP 0 MW_0 rfl 12 (by decide) (hts _ tm_3_13) (fun _ h9 => h9) rfl dX6_column_17 ?_
    refine lv_iload_n hx hb dX6_column_20 rfl (lv_at hl 1 rfl) ?_
    refine lv_rw (z := (nI a1.toNatClampNeg)) hc1 ?_
    refine va_iald hx hb hK hP 5 0 MW_5 rfl (vp_in_nI (show a1.toNatClampNeg < 7 by omega) (by omega)) dX6_column_21 ?_
    refine lv_rw (z := (page a1.toNatClampNeg)) (congrArg page (nI_clamp (show a1.toNatClampNeg < 2 ^ 31 by omega))) ?_
    subst hR
    exact fin _ _ _ _ dX6_column_22 (nar_i _) hP hS
  · rw [if_neg c_9] at hR
    refine lv_iconst (v := (-1 : Int32)) hx hb dX6_column_12 (by decide) ?_
    refine lv_goto (tgt := 22) hx hb dX6_column_13 (by decide) ?_
    subst hR
    exact fin _ _ _ _ dX6_column_22 (nar_i _) hP hS
def f_X6_at (n : Nat) (lies : Nat → Int32) (a1 : Int32) : (Int32) × (Int32) := (if (f_X6_in a1.toInt64 (0 : Int64) (15 : Int64)) = (0 : Int32) then ((-1 : Int32), (0 : Int32)) else ((f_X6_partAt n lies a1), (0 : Int32)))
set_option maxHeartbeats 4000000 in
set_option maxRecDepth 100000 in
theorem c_X6_at (l : Launch) (D : va_G) (cI cZ : ClassId) (q : Nat → Nat) (thrown : Int32) (textSize : Int32) (place : Int32) (stock : Int32) (n : Nat) (readStock : Int32) (readCells : Int32) (readParts : Int32) (acts : Int32) (tried : Int32) (soonMany : Int32) (soonWhich : Int32) (kindMany : Int32) (kindFirst : Int32) (restMany : Int32) (restFirst : Int32) (text lies kind readPart page trial book kept isKept triedAbout triedIs gains value : Nat → Int32) (seed : Int64) (a1 : Int32) (hn7 : n ≤ 7) : WrI l yX6_at cX6_at 2 .int 1 25 D (tyL cI cZ) (MW cI cZ q thrown textSize place stock (nI n) readStock readCells readParts acts tried soonMany soonWhich kindMany kindFirst restMany restFirst text lies kind readPart page trial book kept isKept triedAbout triedIs gains value seed) [.ref (q 0), .int a1] (f_X6_at n lies a1).1 (MW cI cZ q (f_X6_at n lies a1).2 textSize place stock (nI n) readStock readCells readParts acts tried soonMany soonWhich kindMany kindFirst restMany restFirst text lies kind readPart page trial book kept isKept triedAbout triedIs gains value seed) := by
  refine WrI.of (by decide) (Nat.le_of_ble_eq_true rfl) ?_
  intro p e s m args below meth c Q A hx hb hml hown hts hP hK hD hS fin ls hl
  have hown : s.vm.findClass RX6 = some m.cls := hown
  have hF : CallFix p m c cX6_at 2 s args tb RX6 := ⟨hx, hb, hml, hown, hts⟩
  have hl : lv_has ls 2 [(0, .ref (q 0)), (1, .int a1)] := hl
  generalize hR : (f_X6_at n lies a1) = R at fin
  unfold f_X6_at at hR
  refine lv_aload_n hx hb dX6_at_0 rfl (lv_at hl 0 rfl) ?_
  refine lv_iconst (v := (0 : Int32)) hx hb dX6_at_1 (by decide) ?_
  refine va_put (D := D) (ci := 5) (v := .int (0 : Int32)) (ty := .int) (C := RX6) (T := TX6) (N := 30) hx hb hts tbX6 tyX6 tyX6_ok nmX6 hown hK hP hD hS 0 MW_0 rfl 0 (by decide) (hts _ tm_3_1) (fun _ h9 => h9) rfl (by decide +kernel) rfl rfl (Nat.le_of_ble_eq_true rfl) dX6_at_2 (fun H locs hP _ hS => ?_)
  have hP : va_P D vwCl (MW cI cZ q (0 : Int32) textSize place stock (nI n) readStock readCells readParts acts tried soonMany soonWhich kindMany kindFirst restMany restFirst text lies kind readPart page trial book kept isKept triedAbout triedIs gains value seed) H := hP
  have hD : va_D A (MW cI cZ q (0 : Int32) textSize place stock (nI n) readStock readCells readParts acts tried soonMany soonWhich kindMany kindFirst restMany restFirst text lies kind readPart page trial book kept isKept triedAbout triedIs gains value seed) := hD.same (MW_ad.trans MW_ad.symm)
  refine lv_iload_n hx hb dX6_at_5 rfl (lv_at hl 1 rfl) ?_
  refine lv_i2l (v := a1.toInt64) hx hb dX6_at_6 rfl ?_
  refine lv_lconst (v := (0 : Int64)) hx hb dX6_at_7 (by decide) ?_
  refine lv_ldc2 (v := (15 : Int64)) hx hb hown (hts _ tm_3_117) dX6_at_8 ?_
  refine sRdI (As := [.long a1.toInt64, .long (0 : Int64), .long (15 : Int64)]) (rest := []) hF (c_X6_in l D cI cZ q a1.toInt64 (0 : Int64) (15 : Int64)) (gdS tm_3_97 tm_3_98 tm_1_6 tm_3_99) de_X6_in ⟨Nat.le_of_ble_eq_true rfl, Nat.le_of_ble_eq_true rfl⟩ va_P_nil hK hl.1 rfl (Nat.le_of_ble_eq_true rfl) dX6_at_11 ⟨Nat.zero_le _, Nat.zero_le _⟩ ?_
  refine lv_if_eq (tgt := 25) hx hb dX6_at_14 (by decide) (fun c_14 => ?_) (fun c_14 => ?_)
  · rw [if_pos c_14] at hR
    refine lv_iconst (v := (-1 : Int32)) hx hb dX6_at_25 (by decide) ?_
    subst hR
    exact fin _ _ _ _ dX6_at_26 (nar_i _) hP hS
  · rw [if_neg c_14] at hR
    refine lv_aload_n hx hb dX6_at_17 rfl (lv_at hl 0 rfl) ?_
    refine lv_iload_n hx hb dX6_at_18 rfl (lv_at hl 1 rfl) ?_
    refine vRdI (b := (q 0)) (As := [.int a1]) (rest := []) hF (c_X6_partAt l D cI cZ q (0 : Int32) textSize place stock n readStock readCells readParts acts tried soonMany soonWhich kindMany kindFirst restMany restFirst text lies kind readPart page trial book kept isKept triedAbout triedIs gains value seed a1 hn7) (gdV tm_3_164 tm_3_166 tp_19 tm_1_6 tm_3_167) de_X6_partAt ⟨Nat.le_of_ble_eq_true rfl, Nat.le_of_ble_eq_true rfl⟩ hP hK (va_recv hK hP (ci := 5) (q0 := 0) rfl MW_0) hl.1 rfl (Nat.le_of_ble_eq_true rfl) dX6_at_19 ⟨Nat.zero_le _, Nat.zero_le _⟩ ?_
    refine lv_goto (tgt := 26) hx hb dX6_at_22 (by decide) ?_
    subst hR
    exact fin _ _ _ _ dX6_at_26 (nar_i _) hP hS
def f_X6_note_l50 (page : Nat → Int32) (aj : Nat) : Nat → Nat → (Nat → Int32) → Nat → Int32
  | 0, i_50, bk50 => bk50
  | d_50 + 1, i_50, bk50 => (f_X6_note_l50 page aj d_50 (i_50 + 1) (upd bk50 (7 * aj + i_50) (page i_50)))
theorem f_X6_note_l50_z {page : Nat → Int32} {aj : Nat} {i_50 : Nat} {bk50 : Nat → Int32} : f_X6_note_l50 page aj 0 i_50 bk50 = bk50 := by rw [f_X6_note_l50]
theorem f_X6_note_l50_s {page : Nat → Int32} {aj : Nat} {d_50 : Nat} {i_50 : Nat} {bk50 : Nat → Int32} : f_X6_note_l50 page aj (d_50 + 1) i_50 bk50 = (f_X6_note_l50 page aj d_50 (i_50 + 1) (upd bk50 (7 * aj + i_50) (page i_50))) := by rw [f_X6_note_l50]
def f_X6_note_k48 (page : Nat → Int32) (aj : Nat) (bj : Nat → Int32) : (Int32) × (Nat → Int32) := ((nI (aj + 1)), (f_X6_note_l50 page aj 7 0 bj))
def f_X6_note_l11  : Nat → Nat → (Nat → Int32) → Nat → Int32
  | 0, i_11, bk11 => bk11
  | d_11 + 1, i_11, bk11 => (f_X6_note_l11  d_11 (i_11 + 1) (upd bk11 i_11 (bk11 (i_11 + 7))))
theorem f_X6_note_l11_z  {i_11 : Nat} {bk11 : Nat → Int32} : f_X6_note_l11  0 i_11 bk11 = bk11 := by rw [f_X6_note_l11]
theorem f_X6_note_l11_s  {d_11 : Nat} {i_11 : Nat} {bk11 : Nat → Int32} : f_X6_note_l11  (d_11 + 1) i_11 bk11 = (f_X6_note_l11  d_11 (i_11 + 1) (upd bk11 i_11 (bk11 (i_11 + 7)))) := by rw [f_X6_note_l11]
def f_X6_note (na : Nat) (page : Nat → Int32) (book : Nat → Int32) : (Int32) × (Nat → Int32) := (if (nI na) = (14 : Int32) then (f_X6_note_k48 page (na - 1) (f_X6_note_l11  91 0 book)) else (f_X6_note_k48 page na book))
set_option maxHeartbeats 4000000 in
set_option maxRecDepth 100000 in
theorem c_X6_note (l : Launch) (D : va_G) (cI cZ : ClassId) (q : Nat → Nat) (thrown : Int32) (textSize : Int32) (place : Int32) (stock : Int32) (parts : Int32) (readStock : Int32) (readCells : Int32) (readParts : Int32) (na : Nat) (tried : Int32) (soonMany : Int32) (soonWhich : Int32) (kindMany : Int32) (kindFirst : Int32) (restMany : Int32) (restFirst : Int32) (text lies kind readPart page trial book kept isKept triedAbout triedIs gains value : Nat → Int32) (seed : Int64) (hna14 : na ≤ 14) : WrV l yX6_note cX6_note 2 0 0 D (tyL cI cZ) (MW cI cZ q thrown textSize place stock parts readStock readCells readParts (nI na) tried soonMany soonWhich kindMany kindFirst restMany restFirst text lies kind readPart page trial book kept isKept triedAbout triedIs gains value seed) [.ref (q 0)] (MW cI cZ q thrown textSize place stock parts readStock readCells readParts (f_X6_note na page book).1 tried soonMany soonWhich kindMany kindFirst restMany restFirst text lies kind readPart page trial (f_X6_note na page book).2 kept isKept triedAbout triedIs gains value seed) := by
  refine WrV.of (by decide) (Nat.le_of_ble_eq_true rfl) ?_
  intro p e s m args below meth c Q A hx hb hml hown hts hP hK hD hS fin ls hl
  have hown : s.vm.findClass RX6 = some m.cls := hown
  have hF : CallFix p m c cX6_note 2 s args tb RX6 := ⟨hx, hb, hml, hown, hts⟩
  have hl : lv_has ls 2 [(0, .ref (q 0))] := hl
  generalize hR : (f_X6_note na page book) = R at fin
  unfold f_X6_note at hR
  have key_48 : ∀ (aj : Nat) (bj : Nat → Int32) (ls : Array Slot) (H : Heap) (locs : List Loc), aj ≤ 13 → f_X6_note_k48 page aj bj = R → lv_has ls 2 [(0, .ref (q 0))] → va_P D vwCl (MW cI cZ q thrown textSize place stock parts readStock readCells readParts (nI aj) tried soonMany soonWhich kindMany kindFirst restMany restFirst text lies kind readPart page trial bj kept isKept triedAbout triedIs gains value seed) H → va_S A s.heap H locs → W p l e (rmO 0 0) s m args below meth c H locs 0 0 Q (F0 m 48 ls []) := by
    intro aj bj ls H locs haj hR hl hP hS
    have hD : va_D A (MW cI cZ q thrown textSize place stock parts readStock readCells readParts (nI aj) tried soonMany soonWhich kindMany kindFirst restMany restFirst text lies kind readPart page trial bj kept isKept triedAbout triedIs gains value seed) := hD.same (MW_ad.trans MW_ad.symm)
    rw [f_X6_note_k48] at hR
    refine lv_iconst (v := (0 : Int32)) hx hb dX6_note_48 (by decide) ?_
    refine lv_istore_n (lv' := [(1, .int (0 : Int32)), (0, .ref (q 0))]) hx hb dX6_note_49 rfl hl (by decide) rfl (fun ls hl => ?_)
    obtain ⟨T_50, hT_50⟩ : ∃ z, f_X6_note_l50 page aj 7 0 bj = z := ⟨_, rfl⟩
    rw [hT_50] at hR
    have key_50 : ∀ (d_50 i_50 : Nat) (bk50 : Nat → Int32) (ls : Array Slot) (H : Heap) (locs : List Loc), i_50 + d_50 = 7 → f_X6_note_l50 page aj d_50 i_50 bk50 = T_50 → lv_has ls 2 [(1, .int (nI i_50)), (0, .ref (q 0))] → va_P D vwCl (MW cI cZ q thrown textSize place stock parts readStock readCells readParts (nI aj) tried soonMany soonWhich kindMany kindFirst restMany restFirst text lies kind readPart page trial bk50 kept isKept triedAbout triedIs gains value seed) H → va_S A s.heap H locs → W p l e (rmO 0 0) s m args below meth c H locs 0 0 Q (F0 m 50 ls []) := by
      intro d_50
      induction d_50 with
      | zero =>
        intro i_50 bk50 ls H locs hi_50 hT_50 hl hP hS
        have hD : va_D A (MW cI cZ q thrown textSize place stock parts readStock readCells readParts (nI aj) tried soonMany soonWhich kindMany kindFirst restMany restFirst text lies kind readPart page trial bk50 kept isKept triedAbout triedIs gains value seed) := hD.same (MW_ad.trans MW_ad.symm)
        rw [f_X6_note_l50_z] at hT_50
        refine lv_iload_n hx hb dX6_note_50 rfl (lv_at hl 0 rfl) ?_
        refine lv_bipush (v := (7 : Int32)) hx hb dX6_note_51 (by decide) ?_
        refine lv_icmp_ge (tgt := 82) hx hb dX6_note_53 (by decide) (fun c_53 => ?_) (fun c_53 => absurd (nI_le (a := 7) (by omega) (by omega)) c_53)
        subst hT_50
        try dsimp only at hR
        refine lv_aload_n hx hb dX6_note_82 rfl (lv_at hl 1 rfl) ?_
        refine lv_dup hx hb dX6_note_83 rfl ?_
        refine va_get (D := D) (ci := 5) (v := .int (nI aj)) (C := RX6) (T := TX6) (N := 30) hx hb hts tbX6 hown hK hP 0 MW_0 rfl 15 (by decide) (hts _ tm_3_16) (fun _ h9 => h9) rfl dX6_note_84 ?_
        refine lv_iconst (v := (1 : Int32)) hx hb dX6_note_87 (by decide) ?_
        refine lv_iadd hx hb dX6_note_88 ?_
        refine lv_rw (z := (nI (aj + 1))) (nI_1 _) ?_
        refine va_put (D := D) (ci := 5) (v := .int (nI (aj + 1))) (ty := .int) (C := RX6) (T := TX6) (N := 30) hx hb hts tbX6 tyX6 tyX6_ok nmX6 hown hK hP hD hS 0 MW_0 rfl 15 (by decide) (hts _ tm_3_16) (fun _ h9 => h9) rfl (by decide +kernel) rfl rfl (Nat.le_of_ble_eq_true rfl) dX6_note_89 (fun H locs hP _ hS => ?_)
        have hP : va_P D vwCl (MW cI cZ q thrown textSize place stock parts readStock readCells readParts (nI (aj + 1)) tried soonMany soonWhich kindMany kindFirst restMany restFirst text lies kind readPart page trial bk50 kept isKept triedAbout triedIs gains value seed) H := hP
        have hD : va_D A (MW cI cZ q thrown textSize place stock parts readStock readCells readParts (nI (aj + 1)) tried soonMany soonWhich kindMany kindFirst restMany restFirst text lies kind readPart page trial bk50 kept isKept triedAbout triedIs gains value seed) := hD.same (MW_ad.trans MW_ad.symm)
        subst hR
        exact fin _ _ _ _ dX6_note_92 hP hS
      | succ d_50 ih_50 =>
        intro i_50 bk50 ls H locs hi_50 hT_50 hl hP hS
        have hD : va_D A (MW cI cZ q thrown textSize place stock parts readStock readCells readParts (nI aj) tried soonMany soonWhich kindMany kindFirst restMany restFirst text lies kind readPart page trial bk50 kept isKept triedAbout triedIs gains value seed) := hD.same (MW_ad.trans MW_ad.symm)
        rw [f_X6_note_l50_s] at hT_50
        refine lv_iload_n hx hb dX6_note_50 rfl (lv_at hl 0 rfl) ?_
        refine lv_bipush (v := (7 : Int32)) hx hb dX6_note_51 (by decide) ?_
        refine lv_icmp_ge (tgt := 82) hx hb dX6_note_53 (by decide) (fun c_53 => absurd c_53 (nI_ge (b := 7) (by omega) (by omega))) (fun c_53 => ?_)
        refine lv_aload_n hx hb dX6_note_56 rfl (lv_at hl 1 rfl) ?_
        refine va_get (D := D) (ci := 5) (v := .ref (q 7)) (C := RX6) (T := TX6) (N := 30) hx hb hts tbX6 hown hK hP 0 MW_0 rfl 14 (by decide) (hts _ tm_3_15) (fun _ h9 => h9) rfl dX6_note_57 ?_
        refine lv_bipush (v := (7 : Int32)) hx hb dX6_note_60 (by decide) ?_
        refine lv_aload_n hx hb dX6_note_62 rfl (lv_at hl 1 rfl) ?_
        refine va_get (D := D) (ci := 5) (v := .int (nI aj)) (C := RX6) (T := TX6) (N := 30) hx hb hts tbX6 hown hK hP 0 MW_0 rfl 15 (by decide) (hts _ tm_3_16) (fun _ h9 => h9) rfl dX6_note_63 ?_
        refine lv_imul hx hb dX6_note_66 ?_
        refine lv_rw (z := (nI (7 * aj))) (pk_mul 7 _) ?_
        refine lv_iload_n hx hb dX6_note_67 rfl (lv_at hl 0 rfl) ?_
        refine lv_iadd hx hb dX6_note_68 ?_
        refine lv_rw (z := (nI (7 * aj + i_50))) (nI_add _ _) ?_
        refine lv_aload_n hx hb dX6_note_69 rfl (lv_at hl 1 rfl) ?_
        refine va_get (D := D) (ci := 5) (v := .ref (q 5)) (C := RX6) (T := TX6) (N := 30) hx hb hts tbX6 hown hK hP 0 MW_0 rfl 12 (by decide) (hts _ tm_3_13) (fun _ h9 => h9) rfl dX6_note_70 ?_
        refine lv_iload_n hx hb dX6_note_73 rfl (lv_at hl 0 rfl) ?_
        refine va_iald hx hb hK hP 5 0 MW_5 rfl (vp_in_nI (show i_50 < 7 by omega) (by omega)) dX6_note_74 ?_
        refine lv_rw (z := (page i_50)) (congrArg page (nI_clamp (show i_50 < 2 ^ 31 by omega))) ?_
        refine va_iast hx hb hK hP hD hS 7 0 MW_7 rfl (vp_in_nI (show (7 * aj + i_50) < 98 by omega) (by omega)) dX6_note_75 (fun H locs hP _ hS => ?_)
        have hP : va_P D vwCl (MW cI cZ q thrown textSize place stock parts readStock readCells readParts (nI aj) tried soonMany soonWhich kindMany kindFirst restMany restFirst text lies kind readPart page trial (upd bk50 (nI (7 * aj + i_50)).toNatClampNeg (page i_50)) kept isKept triedAbout triedIs gains value seed) H := hP
        rw [(nI_clamp (show (7 * aj + i_50) < 2 ^ 31 by omega))] at hP
        have hD : va_D A (MW cI cZ q thrown textSize place stock parts readStock readCells readParts (nI aj) tried soonMany soonWhich kindMany kindFirst restMany restFirst text lies kind readPart page trial (upd bk50 (7 * aj + i_50) (page i_50)) kept isKept triedAbout triedIs gains value seed) := hD.same (MW_ad.trans MW_ad.symm)
        refine lv_iinc (v := (nI (i_50 + 1))) (lv' := [(1, .int (nI (i_50 + 1))), (0, .ref (q 0))]) hx hb dX6_note_76 hl (k := 0) rfl (nI_up i_50) (by decide) rfl (fun ls hl => ?_)
        refine lv_goto (tgt := 50) hx hb dX6_note_79 (by decide) ?_
        exact ih_50 (i_50 + 1) (upd bk50 (7 * aj + i_50) (page i_50)) ls _ _ (by omega) hT_50 (lv_sub hl [0, 1] rfl) hP hS
    exact key_50 7 0 bj ls _ _ (by omega) hT_50 (lv_sub hl [0, 1] rfl) hP hS
  refine lv_aload_n hx hb dX6_note_0 rfl (lv_at hl 0 rfl) ?_
  refine va_get (D := D) (ci := 5) (v := .int (nI na)) (C := RX6) (T := TX6) (N := 30) hx hb hts tbX6 hown hK hP 0 MW_0 rfl 15 (by decide) (hts _ tm_3_16) (fun _ h9 => h9) rfl dX6_note_1 ?_
  refine lv_bipush (v := (14 : Int32)) hx hb dX6_note_4 (by decide) ?_
  refine lv_icmp_ne (tgt := 48) hx hb dX6_note_6 (by decide) (fun c_6 => ?_) (fun c_6 => ?_)
  · rw [if_neg c_6] at hR
    exact key_48 na book ls _ _ (by first | omega | exact note13 hna14 c_6) hR (lv_sub hl [0] rfl) hP hS
  · rw [if_pos c_6] at hR
    have h14 : na = 14 := note14 hna14 c_6
    refine lv_iconst (v := (0 : Int32)) hx hb dX6_note_9 (by decide) ?_
    refine lv_istore_n (lv' := [(1, .int (0 : Int32)), (0, .ref (q 0))]) hx hb dX6_note_10 rfl hl (by decide) rfl (fun ls hl => ?_)
    obtain ⟨T_11, hT_11⟩ : ∃ z, f_X6_note_l11  91 0 book = z := ⟨_, rfl⟩
    rw [hT_11] at hR
    have key_11 : ∀ (d_11 i_11 : Nat) (bk11 : Nat → Int32) (ls : Array Slot) (H : Heap) (locs : List Loc), i_11 + d_11 = 91 → f_X6_note_l11  d_11 i_11 bk11 = T_11 → lv_has ls 2 [(1, .int (nI i_11)), (0, .ref (q 0))] → va_P D vwCl (MW cI cZ q thrown textSize place stock parts readStock readCells readParts (nI na) tried soonMany soonWhich kindMany kindFirst restMany restFirst text lies kind readPart page trial bk11 kept isKept triedAbout triedIs gains value seed) H → va_S A s.heap H locs → W p l e (rmO 0 0) s m args below meth c H locs 0 0 Q (F0 m 11 ls []) := by
      intro d_11
      induction d_11 with
      | zero =>
        intro i_11 bk11 ls H locs hi_11 hT_11 hl hP hS
        have hD : va_D A (MW cI cZ q thrown textSize place stock parts readStock readCells readParts (nI na) tried soonMany soonWhich kindMany kindFirst restMany restFirst text lies kind readPart page trial bk11 kept isKept triedAbout triedIs gains value seed) := hD.same (MW_ad.trans MW_ad.symm)
        rw [f_X6_note_l11_z] at hT_11
        refine lv_iload_n hx hb dX6_note_11 rfl (lv_at hl 0 rfl) ?_
        refine lv_bipush (v := (91 : Int32)) hx hb dX6_note_12 (by decide) ?_
        refine lv_icmp_ge (tgt := 38) hx hb dX6_note_14 (by decide) (fun c_14 => ?_) (fun c_14 => absurd (nI_le (a := 91) (by omega) (by omega)) c_14)
        subst hT_11
        try dsimp only at hR
        refine lv_aload_n hx hb dX6_note_38 rfl (lv_at hl 1 rfl) ?_
        refine lv_dup hx hb dX6_note_39 rfl ?_
        refine va_get (D := D) (ci := 5) (v := .int (nI na)) (C := RX6) (T := TX6) (N := 30) hx hb hts tbX6 hown hK hP 0 MW_0 rfl 15 (by decide) (hts _ tm_3_16) (fun _ h9 => h9) rfl dX6_note_40 ?_
        refine lv_iconst (v := (1 : Int32)) hx hb dX6_note_43 (by decide) ?_
        refine lv_isub hx hb dX6_note_44 ?_
        refine lv_rw (z := (nI (na - 1))) (pk_sub (b := 1) (by omega)) ?_
        refine va_put (D := D) (ci := 5) (v := .int (nI (na - 1))) (ty := .int) (C := RX6) (T := TX6) (N := 30) hx hb hts tbX6 tyX6 tyX6_ok nmX6 hown hK hP hD hS 0 MW_0 rfl 15 (by decide) (hts _ tm_3_16) (fun _ h9 => h9) rfl (by decide +kernel) rfl rfl (Nat.le_of_ble_eq_true rfl) dX6_note_45 (fun H locs hP _ hS => ?_)
        have hP : va_P D vwCl (MW cI cZ q thrown textSize place stock parts readStock readCells readParts (nI (na - 1)) tried soonMany soonWhich kindMany kindFirst restMany restFirst text lies kind readPart page trial bk11 kept isKept triedAbout triedIs gains value seed) H := hP
        have hD : va_D A (MW cI cZ q thrown textSize place stock parts readStock readCells readParts (nI (na - 1)) tried soonMany soonWhich kindMany kindFirst restMany restFirst text lies kind readPart page trial bk11 kept isKept triedAbout triedIs gains value seed) := hD.same (MW_ad.trans MW_ad.symm)
        exact key_48 (na - 1) bk11 ls _ _ (by first | omega | exact note13 hna14 c_6) hR (lv_sub hl [1] rfl) hP hS
      | succ d_11 ih_11 =>
        intro i_11 bk11 ls H locs hi_11 hT_11 hl hP hS
        have hD : va_D A (MW cI cZ q thrown textSize place stock parts readStock readCells readParts (nI na) tried soonMany soonWhich kindMany kindFirst restMany restFirst text lies kind readPart page trial bk11 kept isKept triedAbout triedIs gains value seed) := hD.same (MW_ad.trans MW_ad.symm)
        rw [f_X6_note_l11_s] at hT_11
        refine lv_iload_n hx hb dX6_note_11 rfl (lv_at hl 0 rfl) ?_
        refine lv_bipush (v := (91 : Int32)) hx hb dX6_note_12 (by decide) ?_
        refine lv_icmp_ge (tgt := 38) hx hb dX6_note_14 (by decide) (fun c_14 => absurd c_14 (nI_ge (b := 91) (by omega) (by omega))) (fun c_14 => ?_)
        refine lv_aload_n hx hb dX6_note_17 rfl (lv_at hl 1 rfl) ?_
        refine va_get (D := D) (ci := 5) (v := .ref (q 7)) (C := RX6) (T := TX6) (N := 30) hx hb hts tbX6 hown hK hP 0 MW_0 rfl 14 (by decide) (hts _ tm_3_15) (fun _ h9 => h9) rfl dX6_note_18 ?_
        refine lv_iload_n hx hb dX6_note_21 rfl (lv_at hl 0 rfl) ?_
        refine lv_aload_n hx hb dX6_note_22 rfl (lv_at hl 1 rfl) ?_
        refine va_get (D := D) (ci := 5) (v := .ref (q 7)) (C := RX6) (T := TX6) (N := 30) hx hb hts tbX6 hown hK hP 0 MW_0 rfl 14 (by decide) (hts _ tm_3_15) (fun _ h9 => h9) rfl dX6_note_23 ?_
        refine lv_iload_n hx hb dX6_note_26 rfl (lv_at hl 0 rfl) ?_
        refine lv_bipush (v := (7 : Int32)) hx hb dX6_note_27 (by decide) ?_
        refine lv_iadd hx hb dX6_note_29 ?_
        refine lv_rw (z := (nI (i_11 + 7))) (nI_add _ 7) ?_
        refine va_iald hx hb hK hP 7 0 MW_7 rfl (vp_in_nI (show (i_11 + 7) < 98 by omega) (by omega)) dX6_note_30 ?_
        refine lv_rw (z := (bk11 (i_11 + 7))) (congrArg bk11 (nI_clamp (show (i_11 + 7) < 2 ^ 31 by omega))) ?_
        refine va_iast hx hb hK hP hD hS 7 0 MW_7 rfl (vp_in_nI (show i_11 < 98 by omega) (by omega)) dX6_note_31 (fun H locs hP _ hS => ?_)
        have hP : va_P D vwCl (MW cI cZ q thrown textSize place stock parts readStock readCells readParts (nI na) tried soonMany soonWhich kindMany kindFirst restMany restFirst text lies kind readPart page trial (upd bk11 (nI i_11).toNatClampNeg (bk11 (i_11 + 7))) kept isKept triedAbout triedIs gains value seed) H := hP
        rw [(nI_clamp (show i_11 < 2 ^ 31 by omega))] at hP
        have hD : va_D A (MW cI cZ q thrown textSize place stock parts readStock readCells readParts (nI na) tried soonMany soonWhich kindMany kindFirst restMany restFirst text lies kind readPart page trial (upd bk11 i_11 (bk11 (i_11 + 7))) kept isKept triedAbout triedIs gains value seed) := hD.same (MW_ad.trans MW_ad.symm)
        refine lv_iinc (v := (nI (i_11 + 1))) (lv' := [(1, .int (nI (i_11 + 1))), (0, .ref (q 0))]) hx hb dX6_note_32 hl (k := 0) rfl (nI_up i_11) (by decide) rfl (fun ls hl => ?_)
        refine lv_goto (tgt := 11) hx hb dX6_note_35 (by decide) ?_
        exact ih_11 (i_11 + 1) (upd bk11 i_11 (bk11 (i_11 + 7))) ls _ _ (by omega) hT_11 (lv_sub hl [0, 1] rfl) hP hS
    exact key_11 91 0 book ls _ _ (by omega) hT_11 (lv_sub hl [0, 1] rfl) hP hS
def f_X6_put (cl : Nat → Nat) (n : Nat) (na : Nat) (lies : Nat → Int32) (kind : Nat → Int32) (page : Nat → Int32) (book : Nat → Int32) (a1 : Int32) : (Int32) × (Int32) × (Int32) × (Nat → Int32) × (Nat → Int32) := (if (f_X6_noColumn a1) = (0 : Int32) then (if (page 4) = (0 : Int32) then ((-3 : Int32), (0 : Int32), (nI na), page, book) else (if (page a1.toNatClampNeg) = (4 : Int32) then ((-4 : Int32), (0 : Int32), (nI na), page, book) else ((f_X6_many ((f_X6_goPut cl n a1.toNatClampNeg lies kind page).2 5)), (0 : Int32), (f_X6_note na page book).1, (f_X6_goPut cl n a1.toNatClampNeg lies kind page).2, (f_X6_note na page book).2))) else ((-1 : Int32), (0 : Int32), (nI na), page, book))
set_option maxHeartbeats 4000000 in
set_option maxRecDepth 100000 in
theorem c_X6_put (l : Launch) (D : va_G) (cI cZ : ClassId) (q : Nat → Nat) (thrown : Int32) (textSize : Int32) (place : Int32) (stock : Int32) (n : Nat) (readStock : Int32) (readCells : Int32) (readParts : Int32) (na : Nat) (tried : Int32) (soonMany : Int32) (soonWhich : Int32) (kindMany : Int32) (kindFirst : Int32) (restMany : Int32) (restFirst : Int32) (text lies kind readPart page trial book kept isKept triedAbout triedIs gains value : Nat → Int32) (seed : Int64) (a1 : Int32) (hn7 : n ≤ 7) (cl : Nat → Nat) (hcl : ∀ j, j < 7 → lies j = nI (cl j) ∧ cl j < 16) (hna14 : na ≤ 14) : WrI l yX6_put cX6_put 2 .int 7 165 D (tyL cI cZ) (MW cI cZ q thrown textSize place stock (nI n) readStock readCells readParts (nI na) tried soonMany soonWhich kindMany kindFirst restMany restFirst text lies kind readPart page trial book kept isKept triedAbout triedIs gains value seed) [.ref (q 0), .int a1] (f_X6_put cl n na lies kind page book a1).1 (MW cI cZ q (f_X6_put cl n na lies kind page book a1).2.1 textSize place stock (nI n) readStock readCells readParts (f_X6_put cl n na lies kind page book a1).2.2.1 tried soonMany soonWhich kindMany kindFirst restMany restFirst text lies kind readPart (f_X6_put cl n na lies kind page book a1).2.2.2.1 trial (f_X6_put cl n na lies kind page book a1).2.2.2.2 kept isKept triedAbout triedIs gains value seed) := by
  refine WrI.of (by decide) (Nat.le_of_ble_eq_true rfl) ?_
  intro p e s m args below meth c Q A hx hb hml hown hts hP hK hD hS fin ls hl
  have hown : s.vm.findClass RX6 = some m.cls := hown
  have hF : CallFix p m c cX6_put 2 s args tb RX6 := ⟨hx, hb, hml, hown, hts⟩
  have hl : lv_has ls 2 [(0, .ref (q 0)), (1, .int a1)] := hl
  generalize hR : (f_X6_put cl n na lies kind page book a1) = R at fin
  unfold f_X6_put at hR
  refine lv_aload_n hx hb dX6_put_0 rfl (lv_at hl 0 rfl) ?_
  refine lv_iconst (v := (0 : Int32)) hx hb dX6_put_1 (by decide) ?_
  refine va_put (D := D) (ci := 5) (v := .int (0 : Int32)) (ty := .int) (C := RX6) (T := TX6) (N := 30) hx hb hts tbX6 tyX6 tyX6_ok nmX6 hown hK hP hD hS 0 MW_0 rfl 0 (by decide) (hts _ tm_3_1) (fun _ h9 => h9) rfl (by decide +kernel) rfl rfl (Nat.le_of_ble_eq_true rfl) dX6_put_2 (fun H locs hP _ hS => ?_)
  have hP : va_P D vwCl (MW cI cZ q (0 : Int32) textSize place stock (nI n) readStock readCells readParts (nI na) tried soonMany soonWhich kindMany kindFirst restMany restFirst text lies kind readPart page trial book kept isKept triedAbout triedIs gains value seed) H := hP
  have hD : va_D A (MW cI cZ q (0 : Int32) textSize place stock (nI n) readStock readCells readParts (nI na) tried soonMany soonWhich kindMany kindFirst restMany restFirst text lies kind readPart page trial book kept isKept triedAbout triedIs gains value seed) := hD.same (MW_ad.trans MW_ad.symm)
  refine lv_iload_n hx hb dX6_put_5 rfl (lv_at hl 1 rfl) ?_
  refine sRdI (As := [.int a1]) (rest := []) hF (c_X6_noColumn l D cI cZ q a1) (gdS tm_3_161 tm_3_162 tm_1_6 tm_3_163) de_X6_noColumn ⟨Nat.le_of_ble_eq_true rfl, Nat.le_of_ble_eq_true rfl⟩ va_P_nil hK hl.1 rfl (Nat.le_of_ble_eq_true rfl) dX6_put_6 ⟨Nat.zero_le _, Nat.zero_le _⟩ ?_
  refine lv_if_eq (tgt := 14) hx hb dX6_put_9 (by decide) (fun c_9 => ?_) (fun c_9 => ?_)
  · rw [if_pos c_9] at hR
    have hc1 := noCol_nI c_9
    have hc2 := noCol_lt c_9
    refine lv_aload_n hx hb dX6_put_14 rfl (lv_at hl 0 rfl) ?_
    refine va_get (D := D) (ci := 5) (v := .ref (q 5)) (C := RX6) (T := TX6) (N := 30) hx hb hts tbX6 hown hK hP 0 MW_0 rfl 12 (by decide) (hts _ tm_3_13) (fun _ h9 => h9) rfl dX6_put_15 ?_
    refine lv_iconst (v := (4 : Int32)) hx hb dX6_put_18 (by decide) ?_
    refine va_iald hx hb hK hP 5 0 MW_5 rfl (vp_in_nI (n := 4) (by decide) (by decide)) dX6_put_19 ?_
    refine lv_rw (z := (page 4)) (congrArg page cl_4) ?_
    refine lv_if_ne (tgt := 26) hx hb dX6_put_20 (by decide) (fun c_20 => ?_) (fun c_20 => ?_)
    · rw [if_neg c_20] at hR
      refine lv_aload_n hx hb dX6_put_26 rfl (lv_at hl 0 rfl) ?_
      refine va_get (D := D) (ci := 5) (v := .ref (q 5)) (C := RX6) (T := TX6) (N := 30) hx hb hts tbX6 hown hK hP 0 MW_0 rfl 12 (by decide) (hts _ tm_3_13) (fun _ h9 => h9) rfl dX6_put_27 ?_
      refine lv_iload_n hx hb dX6_put_30 rfl (lv_at hl 1 rfl) ?_
      refine lv_rw (z := (nI a1.toNatClampNeg)) hc1 ?_
      refine va_iald hx hb hK hP 5 0 MW_5 rfl (vp_in_nI (show a1.toNatClampNeg < 7 by omega) (by omega)) dX6_put_31 ?_
      refine lv_rw (z := (page a1.toNatClampNeg)) (congrArg page (nI_clamp (show a1.toNatClampNeg < 2 ^ 31 by omega))) ?_
      refine lv_iconst (v := (4 : Int32)) hx hb dX6_put_32 (by decide) ?_
      refine lv_icmp_ne (tgt := 39) hx hb dX6_put_33 (by decide) (fun c_33 => ?_) (fun c_33 => ?_)
      · rw [if_neg c_33] at hR
        refine lv_aload_n hx hb dX6_put_39 rfl (lv_at hl 0 rfl) ?_
        refine vWrV (b := (q 0)) (As := []) (rest := []) hF (c_X6_note l D cI cZ q (0 : Int32) textSize place stock (nI n) readStock readCells readParts na tried soonMany soonWhich kindMany kindFirst restMany restFirst text lies kind readPart page trial book kept isKept triedAbout triedIs gains value seed hna14) (gdV tm_3_194 tm_3_196 tp_21 tm_1_6 tm_3_197) de_X6_note ⟨Nat.le_of_ble_eq_true rfl, Nat.le_of_ble_eq_true rfl⟩ hP hK (va_recv hK hP (ci := 5) (q0 := 0) rfl MW_0) hl.1 rfl (Nat.le_of_ble_eq_true rfl) dX6_put_40 ⟨Nat.zero_le _, Nat.zero_le _⟩ hD hS (fun H locs hP hS => ?_)
        have hP : va_P D vwCl (MW cI cZ q (0 : Int32) textSize place stock (nI n) readStock readCells readParts (f_X6_note na page book).1 tried soonMany soonWhich kindMany kindFirst restMany restFirst text lies kind readPart page trial (f_X6_note na page book).2 kept isKept triedAbout triedIs gains value seed) H := hP
        have hD : va_D A (MW cI cZ q (0 : Int32) textSize place stock (nI n) readStock readCells readParts (f_X6_note na page book).1 tried soonMany soonWhich kindMany kindFirst restMany restFirst text lies kind readPart page trial (f_X6_note na page book).2 kept isKept triedAbout triedIs gains value seed) := hD.same (MW_ad.trans MW_ad.symm)
        refine lv_aload_n hx hb dX6_put_43 rfl (lv_at hl 0 rfl) ?_
        refine lv_aload_n hx hb dX6_put_44 rfl (lv_at hl 0 rfl) ?_
        refine va_get (D := D) (ci := 5) (v := .ref (q 5)) (C := RX6) (T := TX6) (N := 30) hx hb hts tbX6 hown hK hP 0 MW_0 rfl 12 (by decide) (hts _ tm_3_13) (fun _ h9 => h9) rfl dX6_put_45 ?_
        refine lv_iload_n hx hb dX6_put_48 rfl (lv_at hl 1 rfl) ?_
        refine lv_rw (z := (nI a1.toNatClampNeg)) hc1 ?_
        refine vWrI (b := (q 0)) (As := [.ref (q 5), .int (nI a1.toNatClampNeg)]) (rest := []) hF (c_X6_goPut_page l D cI cZ q (0 : Int32) textSize place stock n readStock readCells readParts (f_X6_note na page book).1 tried soonMany soonWhich kindMany kindFirst restMany restFirst text lies kind readPart page trial (f_X6_note na page book).2 kept isKept triedAbout triedIs gains value seed a1.toNatClampNeg hn7 hc2 cl hcl) (gdV tm_3_198 tm_3_200 tp_22 tm_1_6 tm_3_201) de_X6_goPut ⟨Nat.le_of_ble_eq_true rfl, Nat.le_of_ble_eq_true rfl⟩ hP hK (va_recv hK hP (ci := 5) (q0 := 0) rfl MW_0) hl.1 rfl (Nat.le_of_ble_eq_true rfl) dX6_put_49 ⟨Nat.zero_le _, Nat.zero_le _⟩ hD hS (fun H locs hP hS => ?_)
        have hP : va_P D vwCl (MW cI cZ q (0 : Int32) textSize place stock (nI n) readStock readCells readParts (f_X6_note na page book).1 tried soonMany soonWhich kindMany kindFirst restMany restFirst text lies kind readPart (f_X6_goPut cl n a1.toNatClampNeg lies kind page).2 trial (f_X6_note na page book).2 kept isKept triedAbout triedIs gains value seed) H := hP
        have hD : va_D A (MW cI cZ q (0 : Int32) textSize place stock (nI n) readStock readCells readParts (f_X6_note na page book).1 tried soonMany soonWhich kindMany kindFirst restMany restFirst text lies kind readPart (f_X6_goPut cl n a1.toNatClampNeg lies kind page).2 trial (f_X6_note na page book).2 kept isKept triedAbout triedIs gains value seed) := hD.same (MW_ad.trans MW_ad.symm)
        refine lv_pop hx hb dX6_put_52 rfl ?_
        refine lv_aload_n hx hb dX6_put_53 rfl (lv_at hl 0 rfl) ?_
        refine va_get (D := D) (ci := 5) (v := .ref (q 5)) (C := RX6) (T := TX6) (N := 30) hx hb hts tbX6 hown hK hP 0 MW_0 rfl 12 (by decide) (hts _ tm_3_13) (fun _ h9 => h9) rfl dX6_put_54 ?_
        refine lv_iconst (v := (5 : Int32)) hx hb dX6_put_57 (by decide) ?_
        refine va_iald hx hb hK hP 5 0 MW_5 rfl (vp_in_nI (n := 5) (by decide) (by decide)) dX6_put_58 ?_
        refine lv_rw (z := ((f_X6_goPut cl n a1.toNatClampNeg lies kind page).2 5)) (congrArg (f_X6_goPut cl n a1.toNatClampNeg lies kind page).2 cl_5) ?_
        refine sRdI (As := [.int ((f_X6_goPut cl n a1.toNatClampNeg lies kind page).2 5)]) (rest := []) hF (c_X6_many l D cI cZ q ((f_X6_goPut cl n a1.toNatClampNeg lies kind page).2 5)) (gdS tm_3_171 tm_3_172 tm_1_6 tm_3_173) de_X6_many ⟨Nat.le_of_ble_eq_true rfl, Nat.le_of_ble_eq_true rfl⟩ va_P_nil hK hl.1 rfl (Nat.le_of_ble_eq_true rfl) dX6_put_59 ⟨Nat.zero_le _, Nat.zero_le _⟩ ?_
        subst hR
        exact fin _ _ _ _ dX6_put_62 (nar_i _) hP hS
      · rw [if_pos c_33] at hR
        refine lv_bipush (v := (-4 : Int32)) hx hb dX6_put_36 (by decide) ?_
        subst hR
        exact fin _ _ _ _ dX6_put_38 (nar_i _) hP hS
    · rw [if_pos c_20] at hR
      refine lv_bipush (v := (-3 : Int32)) hx hb dX6_put_23 (by decide) ?_
      subst hR
      exact fin _ _ _ _ dX6_put_25 (nar_i _) hP hS
  · rw [if_neg c_9] at hR
    refine lv_iconst (v := (-1 : Int32)) hx hb dX6_put_12 (by decide) ?_
    subst hR
    exact fin _ _ _ _ dX6_put_13 (nar_i _) hP hS
def f_X6_strike (cl : Nat → Nat) (n : Nat) (na : Nat) (lies : Nat → Int32) (kind : Nat → Int32) (page : Nat → Int32) (book : Nat → Int32) (a1 : Int32) : (Int32) × (Int32) × (Int32) × (Nat → Int32) × (Nat → Int32) := (if (f_X6_noColumn a1) = (0 : Int32) then (if (page a1.toNatClampNeg) = (0 : Int32) then ((-3 : Int32), (0 : Int32), (nI na), page, book) else ((f_X6_goStrike cl n a1.toNatClampNeg lies kind page).1, (0 : Int32), (f_X6_note na page book).1, (f_X6_goStrike cl n a1.toNatClampNeg lies kind page).2, (f_X6_note na page book).2)) else ((-1 : Int32), (0 : Int32), (nI na), page, book))
set_option maxHeartbeats 4000000 in
set_option maxRecDepth 100000 in
theorem c_X6_strike (l : Launch) (D : va_G) (cI cZ : ClassId) (q : Nat → Nat) (thrown : Int32) (textSize : Int32) (place : Int32) (stock : Int32) (n : Nat) (readStock : Int32) (readCells : Int32) (readParts : Int32) (na : Nat) (tried : Int32) (soonMany : Int32) (soonWhich : Int32) (kindMany : Int32) (kindFirst : Int32) (restMany : Int32) (restFirst : Int32) (text lies kind readPart page trial book kept isKept triedAbout triedIs gains value : Nat → Int32) (seed : Int64) (a1 : Int32) (hn7 : n ≤ 7) (cl : Nat → Nat) (hcl : ∀ j, j < 7 → lies j = nI (cl j) ∧ cl j < 16) (hna14 : na ≤ 14) : WrI l yX6_strike cX6_strike 2 .int 7 164 D (tyL cI cZ) (MW cI cZ q thrown textSize place stock (nI n) readStock readCells readParts (nI na) tried soonMany soonWhich kindMany kindFirst restMany restFirst text lies kind readPart page trial book kept isKept triedAbout triedIs gains value seed) [.ref (q 0), .int a1] (f_X6_strike cl n na lies kind page book a1).1 (MW cI cZ q (f_X6_strike cl n na lies kind page book a1).2.1 textSize place stock (nI n) readStock readCells readParts (f_X6_strike cl n na lies kind page book a1).2.2.1 tried soonMany soonWhich kindMany kindFirst restMany restFirst text lies kind readPart (f_X6_strike cl n na lies kind page book a1).2.2.2.1 trial (f_X6_strike cl n na lies kind page book a1).2.2.2.2 kept isKept triedAbout triedIs gains value seed) := by
  refine WrI.of (by decide) (Nat.le_of_ble_eq_true rfl) ?_
  intro p e s m args below meth c Q A hx hb hml hown hts hP hK hD hS fin ls hl
  have hown : s.vm.findClass RX6 = some m.cls := hown
  have hF : CallFix p m c cX6_strike 2 s args tb RX6 := ⟨hx, hb, hml, hown, hts⟩
  have hl : lv_has ls 2 [(0, .ref (q 0)), (1, .int a1)] := hl
  generalize hR : (f_X6_strike cl n na lies kind page book a1) = R at fin
  unfold f_X6_strike at hR
  refine lv_aload_n hx hb dX6_strike_0 rfl (lv_at hl 0 rfl) ?_
  refine lv_iconst (v := (0 : Int32)) hx hb dX6_strike_1 (by decide) ?_
  refine va_put (D := D) (ci := 5) (v := .int (0 : Int32)) (ty := .int) (C := RX6) (T := TX6) (N := 30) hx hb hts tbX6 tyX6 tyX6_ok nmX6 hown hK hP hD hS 0 MW_0 rfl 0 (by decide) (hts _ tm_3_1) (fun _ h9 => h9) rfl (by decide +kernel) rfl rfl (Nat.le_of_ble_eq_true rfl) dX6_strike_2 (fun H locs hP _ hS => ?_)
  have hP : va_P D vwCl (MW cI cZ q (0 : Int32) textSize place stock (nI n) readStock readCells readParts (nI na) tried soonMany soonWhich kindMany kindFirst restMany restFirst text lies kind readPart page trial book kept isKept triedAbout triedIs gains value seed) H := hP
  have hD : va_D A (MW cI cZ q (0 : Int32) textSize place stock (nI n) readStock readCells readParts (nI na) tried soonMany soonWhich kindMany kindFirst restMany restFirst text lies kind readPart page trial book kept isKept triedAbout triedIs gains value seed) := hD.same (MW_ad.trans MW_ad.symm)
  refine lv_iload_n hx hb dX6_strike_5 rfl (lv_at hl 1 rfl) ?_
  refine sRdI (As := [.int a1]) (rest := []) hF (c_X6_noColumn l D cI cZ q a1) (gdS tm_3_161 tm_3_162 tm_1_6 tm_3_163) de_X6_noColumn ⟨Nat.le_of_ble_eq_true rfl, Nat.le_of_ble_eq_true rfl⟩ va_P_nil hK hl.1 rfl (Nat.le_of_ble_eq_true rfl) dX6_strike_6 ⟨Nat.zero_le _, Nat.zero_le _⟩ ?_
  refine lv_if_eq (tgt := 14) hx hb dX6_strike_9 (by decide) (fun c_9 => ?_) (fun c_9 => ?_)
  · rw [if_pos c_9] at hR
    have hc1 := noCol_nI c_9
    have hc2 := noCol_lt c_9
    refine lv_aload_n hx hb dX6_strike_14 rfl (lv_at hl 0 rfl) ?_
    refine va_get (D := D) (ci := 5) (v := .ref (q 5)) (C := RX6) (T := TX6) (N := 30) hx hb hts tbX6 hown hK hP 0 MW_0 rfl 12 (by decide) (hts _ tm_3_13) (fun _ h9 => h9) rfl dX6_strike_15 ?_
    refine lv_iload_n hx hb dX6_strike_18 rfl (lv_at hl 1 rfl) ?_
    refine lv_rw (z := (nI a1.toNatClampNeg)) hc1 ?_
    refine va_iald hx hb hK hP 5 0 MW_5 rfl (vp_in_nI (show a1.toNatClampNeg < 7 by omega) (by omega)) dX6_strike_19 ?_
    refine lv_rw (z := (page a1.toNatClampNeg)) (congrArg page (nI_clamp (show a1.toNatClampNeg < 2 ^ 31 by omega))) ?_
    refine lv_if_ne (tgt := 26) hx hb dX6_strike_20 (by decide) (fun c_20 => ?_) (fun c_20 => ?_)
    · rw [if_neg c_20] at hR
      refine lv_aload_n hx hb dX6_strike_26 rfl (lv_at hl 0 rfl) ?_
      refine vWrV (b := (q 0)) (As := []) (rest := []) hF (c_X6_note l D cI cZ q (0 : Int32) textSize place stock (nI n) readStock readCells readParts na tried soonMany soonWhich kindMany kindFirst restMany restFirst text lies kind readPart page trial book kept isKept triedAbout triedIs gains value seed hna14) (gdV tm_3_194 tm_3_196 tp_21 tm_1_6 tm_3_197) de_X6_note ⟨Nat.le_of_ble_eq_true rfl, Nat.le_of_ble_eq_true rfl⟩ hP hK (va_recv hK hP (ci := 5) (q0 := 0) rfl MW_0) hl.1 rfl (Nat.le_of_ble_eq_true rfl) dX6_strike_27 ⟨Nat.zero_le _, Nat.zero_le _⟩ hD hS (fun H locs hP hS => ?_)
      have hP : va_P D vwCl (MW cI cZ q (0 : Int32) textSize place stock (nI n) readStock readCells readParts (f_X6_note na page book).1 tried soonMany soonWhich kindMany kindFirst restMany restFirst text lies kind readPart page trial (f_X6_note na page book).2 kept isKept triedAbout triedIs gains value seed) H := hP
      have hD : va_D A (MW cI cZ q (0 : Int32) textSize place stock (nI n) readStock readCells readParts (f_X6_note na page book).1 tried soonMany soonWhich kindMany kindFirst restMany restFirst text lies kind readPart page trial (f_X6_note na page book).2 kept isKept triedAbout triedIs gains value seed) := hD.same (MW_ad.trans MW_ad.symm)
      refine lv_aload_n hx hb dX6_strike_30 rfl (lv_at hl 0 rfl) ?_
      refine lv_aload_n hx hb dX6_strike_31 rfl (lv_at hl 0 rfl) ?_
      refine va_get (D := D) (ci := 5) (v := .ref (q 5)) (C := RX6) (T := TX6) (N := 30) hx hb hts tbX6 hown hK hP 0 MW_0 rfl 12 (by decide) (hts _ tm_3_13) (fun _ h9 => h9) rfl dX6_strike_32 ?_
      refine lv_iload_n hx hb dX6_strike_35 rfl (lv_at hl 1 rfl) ?_
      refine lv_rw (z := (nI a1.toNatClampNeg)) hc1 ?_
      refine vWrI (b := (q 0)) (As := [.ref (q 5), .int (nI a1.toNatClampNeg)]) (rest := []) hF (c_X6_goStrike_page l D cI cZ q (0 : Int32) textSize place stock n readStock readCells readParts (f_X6_note na page book).1 tried soonMany soonWhich kindMany kindFirst restMany restFirst text lies kind readPart page trial (f_X6_note na page book).2 kept isKept triedAbout triedIs gains value seed a1.toNatClampNeg hn7 hc2 cl hcl) (gdV tm_3_206 tm_3_208 tp_23 tm_1_6 tm_3_209) de_X6_goStrike ⟨Nat.le_of_ble_eq_true rfl, Nat.le_of_ble_eq_true rfl⟩ hP hK (va_recv hK hP (ci := 5) (q0 := 0) rfl MW_0) hl.1 rfl (Nat.le_of_ble_eq_true rfl) dX6_strike_36 ⟨Nat.zero_le _, Nat.zero_le _⟩ hD hS (fun H locs hP hS => ?_)
      have hP : va_P D vwCl (MW cI cZ q (0 : Int32) textSize place stock (nI n) readStock readCells readParts (f_X6_note na page book).1 tried soonMany soonWhich kindMany kindFirst restMany restFirst text lies kind readPart (f_X6_goStrike cl n a1.toNatClampNeg lies kind page).2 trial (f_X6_note na page book).2 kept isKept triedAbout triedIs gains value seed) H := hP
      have hD : va_D A (MW cI cZ q (0 : Int32) textSize place stock (nI n) readStock readCells readParts (f_X6_note na page book).1 tried soonMany soonWhich kindMany kindFirst restMany restFirst text lies kind readPart (f_X6_goStrike cl n a1.toNatClampNeg lies kind page).2 trial (f_X6_note na page book).2 kept isKept triedAbout triedIs gains value seed) := hD.same (MW_ad.trans MW_ad.symm)
      subst hR
      exact fin _ _ _ _ dX6_strike_39 (nar_i _) hP hS
    · rw [if_pos c_20] at hR
      refine lv_bipush (v := (-3 : Int32)) hx hb dX6_strike_23 (by decide) ?_
      subst hR
      exact fin _ _ _ _ dX6_strike_25 (nar_i _) hP hS
  · rw [if_neg c_9] at hR
    refine lv_iconst (v := (-1 : Int32)) hx hb dX6_strike_12 (by decide) ?_
    subst hR
    exact fin _ _ _ _ dX6_strike_13 (nar_i _) hP hS
def f_X6_rain (cl : Nat → Nat) (n : Nat) (na : Nat) (lies : Nat → Int32) (kind : Nat → Int32) (page : Nat → Int32) (book : Nat → Int32) : (Int32) × (Int32) × (Int32) × (Nat → Int32) × (Nat → Int32) := ((f_X6_goRain cl n lies kind page).1, (0 : Int32), (f_X6_note na page book).1, (f_X6_goRain cl n lies kind page).2, (f_X6_note na page book).2)
set_option maxHeartbeats 4000000 in
set_option maxRecDepth 100000 in
theorem c_X6_rain (l : Launch) (D : va_G) (cI cZ : ClassId) (q : Nat → Nat) (thrown : Int32) (textSize : Int32) (place : Int32) (stock : Int32) (n : Nat) (readStock : Int32) (readCells : Int32) (readParts : Int32) (na : Nat) (tried : Int32) (soonMany : Int32) (soonWhich : Int32) (kindMany : Int32) (kindFirst : Int32) (restMany : Int32) (restFirst : Int32) (text lies kind readPart page trial book kept isKept triedAbout triedIs gains value : Nat → Int32) (seed : Int64) (hn7 : n ≤ 7) (cl : Nat → Nat) (hcl : ∀ j, j < 7 → lies j = nI (cl j) ∧ cl j < 16) (hna14 : na ≤ 14) : WrI l yX6_rain cX6_rain 1 .int 7 165 D (tyL cI cZ) (MW cI cZ q thrown textSize place stock (nI n) readStock readCells readParts (nI na) tried soonMany soonWhich kindMany kindFirst restMany restFirst text lies kind readPart page trial book kept isKept triedAbout triedIs gains value seed) [.ref (q 0)] (f_X6_rain cl n na lies kind page book).1 (MW cI cZ q (f_X6_rain cl n na lies kind page book).2.1 textSize place stock (nI n) readStock readCells readParts (f_X6_rain cl n na lies kind page book).2.2.1 tried soonMany soonWhich kindMany kindFirst restMany restFirst text lies kind readPart (f_X6_rain cl n na lies kind page book).2.2.2.1 trial (f_X6_rain cl n na lies kind page book).2.2.2.2 kept isKept triedAbout triedIs gains value seed) := by
  refine WrI.of (by decide) (Nat.le_of_ble_eq_true rfl) ?_
  intro p e s m args below meth c Q A hx hb hml hown hts hP hK hD hS fin ls hl
  have hown : s.vm.findClass RX6 = some m.cls := hown
  have hF : CallFix p m c cX6_rain 1 s args tb RX6 := ⟨hx, hb, hml, hown, hts⟩
  have hl : lv_has ls 1 [(0, .ref (q 0))] := hl
  generalize hR : (f_X6_rain cl n na lies kind page book) = R at fin
  unfold f_X6_rain at hR
  refine lv_aload_n hx hb dX6_rain_0 rfl (lv_at hl 0 rfl) ?_
  refine lv_iconst (v := (0 : Int32)) hx hb dX6_rain_1 (by decide) ?_
  refine va_put (D := D) (ci := 5) (v := .int (0 : Int32)) (ty := .int) (C := RX6) (T := TX6) (N := 30) hx hb hts tbX6 tyX6 tyX6_ok nmX6 hown hK hP hD hS 0 MW_0 rfl 0 (by decide) (hts _ tm_3_1) (fun _ h9 => h9) rfl (by decide +kernel) rfl rfl (Nat.le_of_ble_eq_true rfl) dX6_rain_2 (fun H locs hP _ hS => ?_)
  have hP : va_P D vwCl (MW cI cZ q (0 : Int32) textSize place stock (nI n) readStock readCells readParts (nI na) tried soonMany soonWhich kindMany kindFirst restMany restFirst text lies kind readPart page trial book kept isKept triedAbout triedIs gains value seed) H := hP
  have hD : va_D A (MW cI cZ q (0 : Int32) textSize place stock (nI n) readStock readCells readParts (nI na) tried soonMany soonWhich kindMany kindFirst restMany restFirst text lies kind readPart page trial book kept isKept triedAbout triedIs gains value seed) := hD.same (MW_ad.trans MW_ad.symm)
  refine lv_aload_n hx hb dX6_rain_5 rfl (lv_at hl 0 rfl) ?_
  refine vWrV (b := (q 0)) (As := []) (rest := []) hF (c_X6_note l D cI cZ q (0 : Int32) textSize place stock (nI n) readStock readCells readParts na tried soonMany soonWhich kindMany kindFirst restMany restFirst text lies kind readPart page trial book kept isKept triedAbout triedIs gains value seed hna14) (gdV tm_3_194 tm_3_196 tp_21 tm_1_6 tm_3_197) de_X6_note ⟨Nat.le_of_ble_eq_true rfl, Nat.le_of_ble_eq_true rfl⟩ hP hK (va_recv hK hP (ci := 5) (q0 := 0) rfl MW_0) hl.1 rfl (Nat.le_of_ble_eq_true rfl) dX6_rain_6 ⟨Nat.zero_le _, Nat.zero_le _⟩ hD hS (fun H locs hP hS => ?_)
  have hP : va_P D vwCl (MW cI cZ q (0 : Int32) textSize place stock (nI n) readStock readCells readParts (f_X6_note na page book).1 tried soonMany soonWhich kindMany kindFirst restMany restFirst text lies kind readPart page trial (f_X6_note na page book).2 kept isKept triedAbout triedIs gains value seed) H := hP
  have hD : va_D A (MW cI cZ q (0 : Int32) textSize place stock (nI n) readStock readCells readParts (f_X6_note na page book).1 tried soonMany soonWhich kindMany kindFirst restMany restFirst text lies kind readPart page trial (f_X6_note na page book).2 kept isKept triedAbout triedIs gains value seed) := hD.same (MW_ad.trans MW_ad.symm)
  refine lv_aload_n hx hb dX6_rain_9 rfl (lv_at hl 0 rfl) ?_
  refine lv_aload_n hx hb dX6_rain_10 rfl (lv_at hl 0 rfl) ?_
  refine va_get (D := D) (ci := 5) (v := .ref (q 5)) (C := RX6) (T := TX6) (N := 30) hx hb hts tbX6 hown hK hP 0 MW_0 rfl 12 (by decide) (hts _ tm_3_13) (fun _ h9 => h9) rfl dX6_rain_11 ?_
  refine vWrI (b := (q 0)) (As := [.ref (q 5)]) (rest := []) hF (c_X6_goRain_page l D cI cZ q (0 : Int32) textSize place stock n readStock readCells readParts (f_X6_note na page book).1 tried soonMany soonWhich kindMany kindFirst restMany restFirst text lies kind readPart page trial (f_X6_note na page book).2 kept isKept triedAbout triedIs gains value seed hn7 cl hcl) (gdV tm_3_214 tm_3_216 tp_24 tm_1_6 tm_3_217) de_X6_goRain ⟨Nat.le_of_ble_eq_true rfl, Nat.le_of_ble_eq_true rfl⟩ hP hK (va_recv hK hP (ci := 5) (q0 := 0) rfl MW_0) hl.1 rfl (Nat.le_of_ble_eq_true rfl) dX6_rain_14 ⟨Nat.zero_le _, Nat.zero_le _⟩ hD hS (fun H locs hP hS => ?_)
  have hP : va_P D vwCl (MW cI cZ q (0 : Int32) textSize place stock (nI n) readStock readCells readParts (f_X6_note na page book).1 tried soonMany soonWhich kindMany kindFirst restMany restFirst text lies kind readPart (f_X6_goRain cl n lies kind page).2 trial (f_X6_note na page book).2 kept isKept triedAbout triedIs gains value seed) H := hP
  have hD : va_D A (MW cI cZ q (0 : Int32) textSize place stock (nI n) readStock readCells readParts (f_X6_note na page book).1 tried soonMany soonWhich kindMany kindFirst restMany restFirst text lies kind readPart (f_X6_goRain cl n lies kind page).2 trial (f_X6_note na page book).2 kept isKept triedAbout triedIs gains value seed) := hD.same (MW_ad.trans MW_ad.symm)
  subst hR
  exact fin _ _ _ _ dX6_rain_17 (nar_i _) hP hS
def f_X6_undo_l27 (na : Nat) (book : Nat → Int32) : Nat → Nat → (Nat → Int32) → Nat → Int32
  | 0, i_27, pg27 => pg27
  | d_27 + 1, i_27, pg27 => (f_X6_undo_l27 na book d_27 (i_27 + 1) (upd pg27 i_27 (book (7 * (na - 1) + i_27))))
theorem f_X6_undo_l27_z {na : Nat} {book : Nat → Int32} {i_27 : Nat} {pg27 : Nat → Int32} : f_X6_undo_l27 na book 0 i_27 pg27 = pg27 := by rw [f_X6_undo_l27]
theorem f_X6_undo_l27_s {na : Nat} {book : Nat → Int32} {d_27 : Nat} {i_27 : Nat} {pg27 : Nat → Int32} : f_X6_undo_l27 na book (d_27 + 1) i_27 pg27 = (f_X6_undo_l27 na book d_27 (i_27 + 1) (upd pg27 i_27 (book (7 * (na - 1) + i_27)))) := by rw [f_X6_undo_l27]
def f_X6_undo (na : Nat) (page : Nat → Int32) (book : Nat → Int32) : (Int32) × (Int32) × (Int32) × (Nat → Int32) := (if (nI na) = (0 : Int32) then ((-3 : Int32), (0 : Int32), (nI na), page) else ((nI (na - 1)), (0 : Int32), (nI (na - 1)), (f_X6_undo_l27 na book 7 0 page)))
set_option maxHeartbeats 4000000 in
set_option maxRecDepth 100000 in
theorem c_X6_undo (l : Launch) (D : va_G) (cI cZ : ClassId) (q : Nat → Nat) (thrown : Int32) (textSize : Int32) (place : Int32) (stock : Int32) (parts : Int32) (readStock : Int32) (readCells : Int32) (readParts : Int32) (na : Nat) (tried : Int32) (soonMany : Int32) (soonWhich : Int32) (kindMany : Int32) (kindFirst : Int32) (restMany : Int32) (restFirst : Int32) (text lies kind readPart page trial book kept isKept triedAbout triedIs gains value : Nat → Int32) (seed : Int64) (hna14 : na ≤ 14) : WrI l yX6_undo cX6_undo 2 .int 0 0 D (tyL cI cZ) (MW cI cZ q thrown textSize place stock parts readStock readCells readParts (nI na) tried soonMany soonWhich kindMany kindFirst restMany restFirst text lies kind readPart page trial book kept isKept triedAbout triedIs gains value seed) [.ref (q 0)] (f_X6_undo na page book).1 (MW cI cZ q (f_X6_undo na page book).2.1 textSize place stock parts readStock readCells readParts (f_X6_undo na page book).2.2.1 tried soonMany soonWhich kindMany kindFirst restMany restFirst text lies kind readPart (f_X6_undo na page book).2.2.2 trial book kept isKept triedAbout triedIs gains value seed) := by
  refine WrI.of (by decide) (Nat.le_of_ble_eq_true rfl) ?_
  intro p e s m args below meth c Q A hx hb hml hown hts hP hK hD hS fin ls hl
  have hown : s.vm.findClass RX6 = some m.cls := hown
  have hF : CallFix p m c cX6_undo 2 s args tb RX6 := ⟨hx, hb, hml, hown, hts⟩
  have hl : lv_has ls 2 [(0, .ref (q 0))] := hl
  generalize hR : (f_X6_undo na page book) = R at fin
  unfold f_X6_undo at hR
  refine lv_aload_n hx hb dX6_undo_0 rfl (lv_at hl 0 rfl) ?_
  refine lv_iconst (v := (0 : Int32)) hx hb dX6_undo_1 (by decide) ?_
  refine va_put (D := D) (ci := 5) (v := .int (0 : Int32)) (ty := .int) (C := RX6) (T := TX6) (N := 30) hx hb hts tbX6 tyX6 tyX6_ok nmX6 hown hK hP hD hS 0 MW_0 rfl 0 (by decide) (hts _ tm_3_1) (fun _ h9 => h9) rfl (by decide +kernel) rfl rfl (Nat.le_of_ble_eq_true rfl) dX6_undo_2 (fun H locs hP _ hS => ?_)
  have hP : va_P D vwCl (MW cI cZ q (0 : Int32) textSize place stock parts readStock readCells readParts (nI na) tried soonMany soonWhich kindMany kindFirst restMany restFirst text lies kind readPart page trial book kept isKept triedAbout triedIs gains value seed) H := hP
  have hD : va_D A (MW cI cZ q (0 : Int32) textSize place stock parts readStock readCells readParts (nI na) tried soonMany soonWhich kindMany kindFirst restMany restFirst text lies kind readPart page trial book kept isKept triedAbout triedIs gains value seed) := hD.same (MW_ad.trans MW_ad.symm)
  refine lv_aload_n hx hb dX6_undo_5 rfl (lv_at hl 0 rfl) ?_
  refine va_get (D := D) (ci := 5) (v := .int (nI na)) (C := RX6) (T := TX6) (N := 30) hx hb hts tbX6 hown hK hP 0 MW_0 rfl 15 (by decide) (hts _ tm_3_16) (fun _ h9 => h9) rfl dX6_undo_6 ?_
  refine lv_if_ne (tgt := 15) hx hb dX6_undo_9 (by decide) (fun c_9 => ?_) (fun c_9 => ?_)
  · rw [if_neg c_9] at hR
    have h0 : na ≠ 0 := nI_ne_of (b := 0) c_9
    refine lv_aload_n hx hb dX6_undo_15 rfl (lv_at hl 0 rfl) ?_
    refine lv_dup hx hb dX6_undo_16 rfl ?_
    refine va_get (D := D) (ci := 5) (v := .int (nI na)) (C := RX6) (T := TX6) (N := 30) hx hb hts tbX6 hown hK hP 0 MW_0 rfl 15 (by decide) (hts _ tm_3_16) (fun _ h9 => h9) rfl dX6_undo_17 ?_
    refine lv_iconst (v := (1 : Int32)) hx hb dX6_undo_20 (by decide) ?_
    refine lv_isub hx hb dX6_undo_21 ?_
    refine lv_rw (z := (nI (na - 1))) (pk_sub (b := 1) (by omega)) ?_
    refine va_put (D := D) (ci := 5) (v := .int (nI (na - 1))) (ty := .int) (C := RX6) (T := TX6) (N := 30) hx hb hts tbX6 tyX6 tyX6_ok nmX6 hown hK hP hD hS 0 MW_0 rfl 15 (by decide) (hts _ tm_3_16) (fun _ h9 => h9) rfl (by decide +kernel) rfl rfl (Nat.le_of_ble_eq_true rfl) dX6_undo_22 (fun H locs hP _ hS => ?_)
    have hP : va_P D vwCl (MW cI cZ q (0 : Int32) textSize place stock parts readStock readCells readParts (nI (na - 1)) tried soonMany soonWhich kindMany kindFirst restMany restFirst text lies kind readPart page trial book kept isKept triedAbout triedIs gains value seed) H := hP
    have hD : va_D A (MW cI cZ q (0 : Int32) textSize place stock parts readStock readCells readParts (nI (na - 1)) tried soonMany soonWhich kindMany kindFirst restMany restFirst text lies kind readPart page trial book kept isKept triedAbout triedIs gains value seed) := hD.same (MW_ad.trans MW_ad.symm)
    refine lv_iconst (v := (0 : Int32)) hx hb dX6_undo_25 (by decide) ?_
    refine lv_istore_n (lv' := [(1, .int (0 : Int32)), (0, .ref (q 0))]) hx hb dX6_undo_26 rfl hl (by decide) rfl (fun ls hl => ?_)
    obtain ⟨T_27, hT_27⟩ : ∃ z, f_X6_undo_l27 na book 7 0 page = z := ⟨_, rfl⟩
    rw [hT_27] at hR
    have key_27 : ∀ (d_27 i_27 : Nat) (pg27 : Nat → Int32) (ls : Array Slot) (H : Heap) (locs : List Loc), i_27 + d_27 = 7 → f_X6_undo_l27 na book d_27 i_27 pg27 = T_27 → lv_has ls 2 [(1, .int (nI i_27)), (0, .ref (q 0))] → va_P D vwCl (MW cI cZ q (0 : Int32) textSize place stock parts readStock readCells readParts (nI (na - 1)) tried soonMany soonWhich kindMany kindFirst restMany restFirst text lies kind readPart pg27 trial book kept isKept triedAbout triedIs gains value seed) H → va_S A s.heap H locs → W p l e (rmO 0 0) s m args below meth c H locs 0 0 Q (F0 m 27 ls []) := by
      intro d_27
      induction d_27 with
      | zero =>
        intro i_27 pg27 ls H locs hi_27 hT_27 hl hP hS
        have hD : va_D A (MW cI cZ q (0 : Int32) textSize place stock parts readStock readCells readParts (nI (na - 1)) tried soonMany soonWhich kindMany kindFirst restMany restFirst text lies kind readPart pg27 trial book kept isKept triedAbout triedIs gains value seed) := hD.same (MW_ad.trans MW_ad.symm)
        rw [f_X6_undo_l27_z] at hT_27
        refine lv_iload_n hx hb dX6_undo_27 rfl (lv_at hl 0 rfl) ?_
        refine lv_bipush (v := (7 : Int32)) hx hb dX6_undo_28 (by decide) ?_
        refine lv_icmp_ge (tgt := 59) hx hb dX6_undo_30 (by decide) (fun c_30 => ?_) (fun c_30 => absurd (nI_le (a := 7) (by omega) (by omega)) c_30)
        subst hT_27
        try dsimp only at hR
        refine lv_aload_n hx hb dX6_undo_59 rfl (lv_at hl 1 rfl) ?_
        refine va_get (D := D) (ci := 5) (v := .int (nI (na - 1))) (C := RX6) (T := TX6) (N := 30) hx hb hts tbX6 hown hK hP 0 MW_0 rfl 15 (by decide) (hts _ tm_3_16) (fun _ h9 => h9) rfl dX6_undo_60 ?_
        subst hR
        exact fin _ _ _ _ dX6_undo_63 (nar_i _) hP hS
      | succ d_27 ih_27 =>
        intro i_27 pg27 ls H locs hi_27 hT_27 hl hP hS
        have hD : va_D A (MW cI cZ q (0 : Int32) textSize place stock parts readStock readCells readParts (nI (na - 1)) tried soonMany soonWhich kindMany kindFirst restMany restFirst text lies kind readPart pg27 trial book kept isKept triedAbout triedIs gains value seed) := hD.same (MW_ad.trans MW_ad.symm)
        rw [f_X6_undo_l27_s] at hT_27
        refine lv_iload_n hx hb dX6_undo_27 rfl (lv_at hl 0 rfl) ?_
        refine lv_bipush (v := (7 : Int32)) hx hb dX6_undo_28 (by decide) ?_
        refine lv_icmp_ge (tgt := 59) hx hb dX6_undo_30 (by decide) (fun c_30 => absurd c_30 (nI_ge (b := 7) (by omega) (by omega))) (fun c_30 => ?_)
        refine lv_aload_n hx hb dX6_undo_33 rfl (lv_at hl 1 rfl) ?_
        refine va_get (D := D) (ci := 5) (v := .ref (q 5)) (C := RX6) (T := TX6) (N := 30) hx hb hts tbX6 hown hK hP 0 MW_0 rfl 12 (by decide) (hts _ tm_3_13) (fun _ h9 => h9) rfl dX6_undo_34 ?_
        refine lv_iload_n hx hb dX6_undo_37 rfl (lv_at hl 0 rfl) ?_
        refine lv_aload_n hx hb dX6_undo_38 rfl (lv_at hl 1 rfl) ?_
        refine va_get (D := D) (ci := 5) (v := .ref (q 7)) (C := RX6) (T := TX6) (N := 30) hx hb hts tbX6 hown hK hP 0 MW_0 rfl 14 (by decide) (hts _ tm_3_15) (fun _ h9 => h9) rfl dX6_undo_39 ?_
        refine lv_bipush (v := (7 : Int32)) hx hb dX6_undo_42 (by decide) ?_
        refine lv_aload_n hx hb dX6_undo_44 rfl (lv_at hl 1 rfl) ?_
        refine va_get (D := D) (ci := 5) (v := .int (nI (na - 1))) (C := RX6) (T := TX6) (N := 30) hx hb hts tbX6 hown hK hP 0 MW_0 rfl 15 (by decide) (hts _ tm_3_16) (fun _ h9 => h9) rfl dX6_undo_45 ?_
        refine lv_imul hx hb dX6_undo_48 ?_
        refine lv_rw (z := (nI (7 * (na - 1)))) (pk_mul 7 _) ?_
        refine lv_iload_n hx hb dX6_undo_49 rfl (lv_at hl 0 rfl) ?_
        refine lv_iadd hx hb dX6_undo_50 ?_
        refine lv_rw (z := (nI (7 * (na - 1) + i_27))) (nI_add _ _) ?_
        refine va_iald hx hb hK hP 7 0 MW_7 rfl (vp_in_nI (show (7 * (na - 1) + i_27) < 98 by omega) (by omega)) dX6_undo_51 ?_
        refine lv_rw (z := (book (7 * (na - 1) + i_27))) (congrArg book (nI_clamp (show (7 * (na - 1) + i_27) < 2 ^ 31 by omega))) ?_
        refine va_iast hx hb hK hP hD hS 5 0 MW_5 rfl (vp_in_nI (show i_27 < 7 by omega) (by omega)) dX6_undo_52 (fun H locs hP _ hS => ?_)
        have hP : va_P D vwCl (MW cI cZ q (0 : Int32) textSize place stock parts readStock readCells readParts (nI (na - 1)) tried soonMany soonWhich kindMany kindFirst restMany restFirst text lies kind readPart (upd pg27 (nI i_27).toNatClampNeg (book (7 * (na - 1) + i_27))) trial book kept isKept triedAbout triedIs gains value seed) H := hP
        rw [(nI_clamp (show i_27 < 2 ^ 31 by omega))] at hP
        have hD : va_D A (MW cI cZ q (0 : Int32) textSize place stock parts readStock readCells readParts (nI (na - 1)) tried soonMany soonWhich kindMany kindFirst restMany restFirst text lies kind readPart (upd pg27 i_27 (book (7 * (na - 1) + i_27))) trial book kept isKept triedAbout triedIs gains value seed) := hD.same (MW_ad.trans MW_ad.symm)
        refine lv_iinc (v := (nI (i_27 + 1))) (lv' := [(1, .int (nI (i_27 + 1))), (0, .ref (q 0))]) hx hb dX6_undo_53 hl (k := 0) rfl (nI_up i_27) (by decide) rfl (fun ls hl => ?_)
        refine lv_goto (tgt := 27) hx hb dX6_undo_56 (by decide) ?_
        exact ih_27 (i_27 + 1) (upd pg27 i_27 (book (7 * (na - 1) + i_27))) ls _ _ (by omega) hT_27 (lv_sub hl [0, 1] rfl) hP hS
    exact key_27 7 0 page ls _ _ (by omega) hT_27 (lv_sub hl [0, 1] rfl) hP hS
  · rw [if_pos c_9] at hR
    refine lv_bipush (v := (-3 : Int32)) hx hb dX6_undo_12 (by decide) ?_
    subst hR
    exact fin _ _ _ _ dX6_undo_14 (nar_i _) hP hS
def f_X6_loses (cl : Nat → Nat) (n : Nat) (lies : Nat → Int32) (kind : Nat → Int32) (page : Nat → Int32) (trial : Nat → Int32) (a1 : Int32) : (Int32) × (Int32) × (Nat → Int32) := (if (f_X6_noColumn a1) = (0 : Int32) then (if (page a1.toNatClampNeg) = (0 : Int32) then ((-3 : Int32), (0 : Int32), trial) else (((page 5) &&& (((f_X6_goStrike cl n a1.toNatClampNeg lies kind (f_X6_begin page trial)).2 5) ^^^ (-1 : Int32))), (0 : Int32), (f_X6_goStrike cl n a1.toNatClampNeg lies kind (f_X6_begin page trial)).2)) else ((-1 : Int32), (0 : Int32), trial))
set_option maxHeartbeats 4000000 in
set_option maxRecDepth 100000 in
theorem c_X6_loses (l : Launch) (D : va_G) (cI cZ : ClassId) (q : Nat → Nat) (thrown : Int32) (textSize : Int32) (place : Int32) (stock : Int32) (n : Nat) (readStock : Int32) (readCells : Int32) (readParts : Int32) (acts : Int32) (tried : Int32) (soonMany : Int32) (soonWhich : Int32) (kindMany : Int32) (kindFirst : Int32) (restMany : Int32) (restFirst : Int32) (text lies kind readPart page trial book kept isKept triedAbout triedIs gains value : Nat → Int32) (seed : Int64) (a1 : Int32) (hn7 : n ≤ 7) (cl : Nat → Nat) (hcl : ∀ j, j < 7 → lies j = nI (cl j) ∧ cl j < 16) : WrI l yX6_loses cX6_loses 2 .int 7 164 D (tyL cI cZ) (MW cI cZ q thrown textSize place stock (nI n) readStock readCells readParts acts tried soonMany soonWhich kindMany kindFirst restMany restFirst text lies kind readPart page trial book kept isKept triedAbout triedIs gains value seed) [.ref (q 0), .int a1] (f_X6_loses cl n lies kind page trial a1).1 (MW cI cZ q (f_X6_loses cl n lies kind page trial a1).2.1 textSize place stock (nI n) readStock readCells readParts acts tried soonMany soonWhich kindMany kindFirst restMany restFirst text lies kind readPart page (f_X6_loses cl n lies kind page trial a1).2.2 book kept isKept triedAbout triedIs gains value seed) := by
  refine WrI.of (by decide) (Nat.le_of_ble_eq_true rfl) ?_
  intro p e s m args below meth c Q A hx hb hml hown hts hP hK hD hS fin ls hl
  have hown : s.vm.findClass RX6 = some m.cls := hown
  have hF : CallFix p m c cX6_loses 2 s args tb RX6 := ⟨hx, hb, hml, hown, hts⟩
  have hl : lv_has ls 2 [(0, .ref (q 0)), (1, .int a1)] := hl
  generalize hR : (f_X6_loses cl n lies kind page trial a1) = R at fin
  unfold f_X6_loses at hR
  refine lv_aload_n hx hb dX6_loses_0 rfl (lv_at hl 0 rfl) ?_
  refine lv_iconst (v := (0 : Int32)) hx hb dX6_loses_1 (by decide) ?_
  refine va_put (D := D) (ci := 5) (v := .int (0 : Int32)) (ty := .int) (C := RX6) (T := TX6) (N := 30) hx hb hts tbX6 tyX6 tyX6_ok nmX6 hown hK hP hD hS 0 MW_0 rfl 0 (by decide) (hts _ tm_3_1) (fun _ h9 => h9) rfl (by decide +kernel) rfl rfl (Nat.le_of_ble_eq_true rfl) dX6_loses_2 (fun H locs hP _ hS => ?_)
  have hP : va_P D vwCl (MW cI cZ q (0 : Int32) textSize place stock (nI n) readStock readCells readParts acts tried soonMany soonWhich kindMany kindFirst restMany restFirst text lies kind readPart page trial book kept isKept triedAbout triedIs gains value seed) H := hP
  have hD : va_D A (MW cI cZ q (0 : Int32) textSize place stock (nI n) readStock readCells readParts acts tried soonMany soonWhich kindMany kindFirst restMany restFirst text lies kind readPart page trial book kept isKept triedAbout triedIs gains value seed) := hD.same (MW_ad.trans MW_ad.symm)
  refine lv_iload_n hx hb dX6_loses_5 rfl (lv_at hl 1 rfl) ?_
  refine sRdI (As := [.int a1]) (rest := []) hF (c_X6_noColumn l D cI cZ q a1) (gdS tm_3_161 tm_3_162 tm_1_6 tm_3_163) de_X6_noColumn ⟨Nat.le_of_ble_eq_true rfl, Nat.le_of_ble_eq_true rfl⟩ va_P_nil hK hl.1 rfl (Nat.le_of_ble_eq_true rfl) dX6_loses_6 ⟨Nat.zero_le _, Nat.zero_le _⟩ ?_
  refine lv_if_eq (tgt := 14) hx hb dX6_loses_9 (by decide) (fun c_9 => ?_) (fun c_9 => ?_)
  · rw [if_pos c_9] at hR
    have hc1 := noCol_nI c_9
    have hc2 := noCol_lt c_9
    refine lv_aload_n hx hb dX6_loses_14 rfl (lv_at hl 0 rfl) ?_
    refine va_get (D := D) (ci := 5) (v := .ref (q 5)) (C := RX6) (T := TX6) (N := 30) hx hb hts tbX6 hown hK hP 0 MW_0 rfl 12 (by decide) (hts _ tm_3_13) (fun _ h9 => h9) rfl dX6_loses_15 ?_
    refine lv_iload_n hx hb dX6_loses_18 rfl (lv_at hl 1 rfl) ?_
    refine lv_rw (z := (nI a1.toNatClampNeg)) hc1 ?_
    refine va_iald hx hb hK hP 5 0 MW_5 rfl (vp_in_nI (show a1.toNatClampNeg < 7 by omega) (by omega)) dX6_loses_19 ?_
    refine lv_rw (z := (page a1.toNatClampNeg)) (congrArg page (nI_clamp (show a1.toNatClampNeg < 2 ^ 31 by omega))) ?_
    refine lv_if_ne (tgt := 26) hx hb dX6_loses_20 (by decide) (fun c_20 => ?_) (fun c_20 => ?_)
    · rw [if_neg c_20] at hR
      refine lv_aload_n hx hb dX6_loses_26 rfl (lv_at hl 0 rfl) ?_
      refine vWrV (b := (q 0)) (As := []) (rest := []) hF (c_X6_begin l D cI cZ q (0 : Int32) textSize place stock (nI n) readStock readCells readParts acts tried soonMany soonWhich kindMany kindFirst restMany restFirst text lies kind readPart page trial book kept isKept triedAbout triedIs gains value seed) (gdV tm_3_137 tm_3_139 tp_13 tm_1_6 tm_3_140) de_X6_begin ⟨Nat.le_of_ble_eq_true rfl, Nat.le_of_ble_eq_true rfl⟩ hP hK (va_recv hK hP (ci := 5) (q0 := 0) rfl MW_0) hl.1 rfl (Nat.le_of_ble_eq_true rfl) dX6_loses_27 ⟨Nat.zero_le _, Nat.zero_le _⟩ hD hS (fun H locs hP hS => ?_)
      have hP : va_P D vwCl (MW cI cZ q (0 : Int32) textSize place stock (nI n) readStock readCells readParts acts tried soonMany soonWhich kindMany kindFirst restMany restFirst text lies kind readPart page (f_X6_begin page trial) book kept isKept triedAbout triedIs gains value seed) H := hP
      have hD : va_D A (MW cI cZ q (0 : Int32) textSize place stock (nI n) readStock readCells readParts acts tried soonMany soonWhich kindMany kindFirst restMany restFirst text lies kind readPart page (f_X6_begin page trial) book kept isKept triedAbout triedIs gains value seed) := hD.same (MW_ad.trans MW_ad.symm)
      refine lv_aload_n hx hb dX6_loses_30 rfl (lv_at hl 0 rfl) ?_
      refine lv_aload_n hx hb dX6_loses_31 rfl (lv_at hl 0 rfl) ?_
      refine va_get (D := D) (ci := 5) (v := .ref (q 6)) (C := RX6) (T := TX6) (N := 30) hx hb hts tbX6 hown hK hP 0 MW_0 rfl 13 (by decide) (hts _ tm_3_14) (fun _ h9 => h9) rfl dX6_loses_32 ?_
      refine lv_iload_n hx hb dX6_loses_35 rfl (lv_at hl 1 rfl) ?_
      refine lv_rw (z := (nI a1.toNatClampNeg)) hc1 ?_
      refine vWrI (b := (q 0)) (As := [.ref (q 6), .int (nI a1.toNatClampNeg)]) (rest := []) hF (c_X6_goStrike_trial l D cI cZ q (0 : Int32) textSize place stock n readStock readCells readParts acts tried soonMany soonWhich kindMany kindFirst restMany restFirst text lies kind readPart page (f_X6_begin page trial) book kept isKept triedAbout triedIs gains value seed a1.toNatClampNeg hn7 hc2 cl hcl) (gdV tm_3_206 tm_3_208 tp_23 tm_1_6 tm_3_209) de_X6_goStrike ⟨Nat.le_of_ble_eq_true rfl, Nat.le_of_ble_eq_true rfl⟩ hP hK (va_recv hK hP (ci := 5) (q0 := 0) rfl MW_0) hl.1 rfl (Nat.le_of_ble_eq_true rfl) dX6_loses_36 ⟨Nat.zero_le _, Nat.zero_le _⟩ hD hS (fun H locs hP hS => ?_)
      have hP : va_P D vwCl (MW cI cZ q (0 : Int32) textSize place stock (nI n) readStock readCells readParts acts tried soonMany soonWhich kindMany kindFirst restMany restFirst text lies kind readPart page (f_X6_goStrike cl n a1.toNatClampNeg lies kind (f_X6_begin page trial)).2 book kept isKept triedAbout triedIs gains value seed) H := hP
      have hD : va_D A (MW cI cZ q (0 : Int32) textSize place stock (nI n) readStock readCells readParts acts tried soonMany soonWhich kindMany kindFirst restMany restFirst text lies kind readPart page (f_X6_goStrike cl n a1.toNatClampNeg lies kind (f_X6_begin page trial)).2 book kept isKept triedAbout triedIs gains value seed) := hD.same (MW_ad.trans MW_ad.symm)
      refine lv_pop hx hb dX6_loses_39 rfl ?_
      refine lv_aload_n hx hb dX6_loses_40 rfl (lv_at hl 0 rfl) ?_
      refine va_get (D := D) (ci := 5) (v := .ref (q 5)) (C := RX6) (T := TX6) (N := 30) hx hb hts tbX6 hown hK hP 0 MW_0 rfl 12 (by decide) (hts _ tm_3_13) (fun _ h9 => h9) rfl dX6_loses_41 ?_
      refine lv_iconst (v := (5 : Int32)) hx hb dX6_loses_44 (by decide) ?_
      refine va_iald hx hb hK hP 5 0 MW_5 rfl (vp_in_nI (n := 5) (by decide) (by decide)) dX6_loses_45 ?_
      refine lv_rw (z := (page 5)) (congrArg page cl_5) ?_
      refine lv_aload_n hx hb dX6_loses_46 rfl (lv_at hl 0 rfl) ?_
      refine va_get (D := D) (ci := 5) (v := .ref (q 6)) (C := RX6) (T := TX6) (N := 30) hx hb hts tbX6 hown hK hP 0 MW_0 rfl 13 (by decide) (hts _ tm_3_14) (fun _ h9 => h9) rfl dX6_loses_47 ?_
      refine lv_iconst (v := (5 : Int32)) hx hb dX6_loses_50 (by decide) ?_
      refine va_iald hx hb hK hP 6 0 MW_6 rfl (vp_in_nI (n := 5) (by decide) (by decide)) dX6_loses_51 ?_
      refine lv_rw (z := ((f_X6_goStrike cl n a1.toNatClampNeg lies kind (f_X6_begin page trial)).2 5)) (congrArg (f_X6_goStrike cl n a1.toNatClampNeg lies kind (f_X6_begin page trial)).2 cl_5) ?_
      refine lv_iconst (v := (-1 : Int32)) hx hb dX6_loses_52 (by decide) ?_
      refine lv_ixor hx hb dX6_loses_53 ?_
      refine lv_iand hx hb dX6_loses_54 ?_
      subst hR
      exact fin _ _ _ _ dX6_loses_55 (nar_i _) hP hS
    · rw [if_pos c_20] at hR
      refine lv_bipush (v := (-3 : Int32)) hx hb dX6_loses_23 (by decide) ?_
      subst hR
      exact fin _ _ _ _ dX6_loses_25 (nar_i _) hP hS
  · rw [if_neg c_9] at hR
    refine lv_iconst (v := (-1 : Int32)) hx hb dX6_loses_12 (by decide) ?_
    subst hR
    exact fin _ _ _ _ dX6_loses_13 (nar_i _) hP hS
theorem goStrike_at {n : Nat} {cl : Nat → Nat} {lies kind tr : Nat → Int32} {cc : Nat} (h : cc < 4) : (f_X6_goStrike cl n cc lies kind tr).2 cc = tr cc - 1 := by
  unfold f_X6_goStrike f_X6_settle
  dsimp only
  rw [pk_un (by omega), pk_un (by omega), pk_us]
theorem down0 {y : Int32} (h : ∃ x : Nat, y = nI x ∧ x ≤ 0) : y ≤ 0 := by
  obtain ⟨x, rfl, hx⟩ := h
  rw [show x = 0 by omega]; decide
theorem downS {y z : Int32} {d : Nat} (h : ∃ x : Nat, y = nI x ∧ x ≤ d + 1) (h0 : ¬ y ≤ 0) (hz : z = y - 1) : ∃ x : Nat, z = nI x ∧ x ≤ d := by
  obtain ⟨x, rfl, hx⟩ := h
  have hx0 : x ≠ 0 := fun e => h0 (by rw [e]; decide)
  exact ⟨x - 1, by rw [hz]; exact pk_sub (b := 1) (by omega), by omega⟩
def f_X6_down_l18 (cl : Nat → Nat) (n : Nat) (lies : Nat → Int32) (kind : Nat → Int32) (a1 : Int32) : Nat → (Nat → Int32) → (Int32) × (Int32) × (Nat → Int32)
  | 0, tr18 => ((0 : Int32), (0 : Int32), tr18)
  | d_18 + 1, tr18 => (if (tr18 a1.toNatClampNeg) ≤ (0 : Int32) then ((0 : Int32), (0 : Int32), tr18) else (if (f_X6_goStrike cl n a1.toNatClampNeg lies kind tr18).1 ≤ (0 : Int32) then (f_X6_down_l18 cl n lies kind a1 d_18 (f_X6_goStrike cl n a1.toNatClampNeg lies kind tr18).2) else ((((f_X6_goStrike cl n a1.toNatClampNeg lies kind tr18).2 a1.toNatClampNeg) + (1 : Int32)), (0 : Int32), (f_X6_goStrike cl n a1.toNatClampNeg lies kind tr18).2)))
theorem f_X6_down_l18_z {cl : Nat → Nat} {n : Nat} {lies : Nat → Int32} {kind : Nat → Int32} {a1 : Int32} {tr18 : Nat → Int32} : f_X6_down_l18 cl n lies kind a1 0 tr18 = ((0 : Int32), (0 : Int32), tr18) := by rw [f_X6_down_l18]
theorem f_X6_down_l18_s {cl : Nat → Nat} {n : Nat} {lies : Nat → Int32} {kind : Nat → Int32} {a1 : Int32} {d_18 : Nat} {tr18 : Nat → Int32} : f_X6_down_l18 cl n lies kind a1 (d_18 + 1) tr18 = (if (tr18 a1.toNatClampNeg) ≤ (0 : Int32) then ((0 : Int32), (0 : Int32), tr18) else (if (f_X6_goStrike cl n a1.toNatClampNeg lies kind tr18).1 ≤ (0 : Int32) then (f_X6_down_l18 cl n lies kind a1 d_18 (f_X6_goStrike cl n a1.toNatClampNeg lies kind tr18).2) else ((((f_X6_goStrike cl n a1.toNatClampNeg lies kind tr18).2 a1.toNatClampNeg) + (1 : Int32)), (0 : Int32), (f_X6_goStrike cl n a1.toNatClampNeg lies kind tr18).2))) := by rw [f_X6_down_l18]
def f_X6_down (cl : Nat → Nat) (n : Nat) (lies : Nat → Int32) (kind : Nat → Int32) (page : Nat → Int32) (trial : Nat → Int32) (a1 : Int32) : (Int32) × (Int32) × (Nat → Int32) := (if (f_X6_noColumn a1) = (0 : Int32) then (f_X6_down_l18 cl n lies kind a1 4 (f_X6_begin page trial)) else ((-1 : Int32), (0 : Int32), trial))
set_option maxHeartbeats 4000000 in
set_option maxRecDepth 100000 in
theorem c_X6_down (l : Launch) (D : va_G) (cI cZ : ClassId) (q : Nat → Nat) (thrown : Int32) (textSize : Int32) (place : Int32) (stock : Int32) (n : Nat) (readStock : Int32) (readCells : Int32) (readParts : Int32) (acts : Int32) (tried : Int32) (soonMany : Int32) (soonWhich : Int32) (kindMany : Int32) (kindFirst : Int32) (restMany : Int32) (restFirst : Int32) (text lies kind readPart page trial book kept isKept triedAbout triedIs gains value : Nat → Int32) (seed : Int64) (a1 : Int32) (hn7 : n ≤ 7) (cl : Nat → Nat) (hcl : ∀ j, j < 7 → lies j = nI (cl j) ∧ cl j < 16) (hh : Nat → Nat) (hpg : ∀ j, j < 4 → page j = nI (hh j) ∧ hh j ≤ 4) : WrI l yX6_down cX6_down 2 .int 7 164 D (tyL cI cZ) (MW cI cZ q thrown textSize place stock (nI n) readStock readCells readParts acts tried soonMany soonWhich kindMany kindFirst restMany restFirst text lies kind readPart page trial book kept isKept triedAbout triedIs gains value seed) [.ref (q 0), .int a1] (f_X6_down cl n lies kind page trial a1).1 (MW cI cZ q (f_X6_down cl n lies kind page trial a1).2.1 textSize place stock (nI n) readStock readCells readParts acts tried soonMany soonWhich kindMany kindFirst restMany restFirst text lies kind readPart page (f_X6_down cl n lies kind page trial a1).2.2 book kept isKept triedAbout triedIs gains value seed) := by
  refine WrI.of (by decide) (Nat.le_of_ble_eq_true rfl) ?_
  intro p e s m args below meth c Q A hx hb hml hown hts hP hK hD hS fin ls hl
  have hown : s.vm.findClass RX6 = some m.cls := hown
  have hF : CallFix p m c cX6_down 2 s args tb RX6 := ⟨hx, hb, hml, hown, hts⟩
  have hl : lv_has ls 2 [(0, .ref (q 0)), (1, .int a1)] := hl
  generalize hR : (f_X6_down cl n lies kind page trial a1) = R at fin
  unfold f_X6_down at hR
  refine lv_aload_n hx hb dX6_down_0 rfl (lv_at hl 0 rfl) ?_
  refine lv_iconst (v := (0 : Int32)) hx hb dX6_down_1 (by decide) ?_
  refine va_put (D := D) (ci := 5) (v := .int (0 : Int32)) (ty := .int) (C := RX6) (T := TX6) (N := 30) hx hb hts tbX6 tyX6 tyX6_ok nmX6 hown hK hP hD hS 0 MW_0 rfl 0 (by decide) (hts _ tm_3_1) (fun _ h9 => h9) rfl (by decide +kernel) rfl rfl (Nat.le_of_ble_eq_true rfl) dX6_down_2 (fun H locs hP _ hS => ?_)
  have hP : va_P D vwCl (MW cI cZ q (0 : Int32) textSize place stock (nI n) readStock readCells readParts acts tried soonMany soonWhich kindMany kindFirst restMany restFirst text lies kind readPart page trial book kept isKept triedAbout triedIs gains value seed) H := hP
  have hD : va_D A (MW cI cZ q (0 : Int32) textSize place stock (nI n) readStock readCells readParts acts tried soonMany soonWhich kindMany kindFirst restMany restFirst text lies kind readPart page trial book kept isKept triedAbout triedIs gains value seed) := hD.same (MW_ad.trans MW_ad.symm)
  refine lv_iload_n hx hb dX6_down_5 rfl (lv_at hl 1 rfl) ?_
  refine sRdI (As := [.int a1]) (rest := []) hF (c_X6_noColumn l D cI cZ q a1) (gdS tm_3_161 tm_3_162 tm_1_6 tm_3_163) de_X6_noColumn ⟨Nat.le_of_ble_eq_true rfl, Nat.le_of_ble_eq_true rfl⟩ va_P_nil hK hl.1 rfl (Nat.le_of_ble_eq_true rfl) dX6_down_6 ⟨Nat.zero_le _, Nat.zero_le _⟩ ?_
  refine lv_if_eq (tgt := 14) hx hb dX6_down_9 (by decide) (fun c_9 => ?_) (fun c_9 => ?_)
  · rw [if_pos c_9] at hR
    have hc1 := noCol_nI c_9
    have hc2 := noCol_lt c_9
    refine lv_aload_n hx hb dX6_down_14 rfl (lv_at hl 0 rfl) ?_
    refine vWrV (b := (q 0)) (As := []) (rest := []) hF (c_X6_begin l D cI cZ q (0 : Int32) textSize place stock (nI n) readStock readCells readParts acts tried soonMany soonWhich kindMany kindFirst restMany restFirst text lies kind readPart page trial book kept isKept triedAbout triedIs gains value seed) (gdV tm_3_137 tm_3_139 tp_13 tm_1_6 tm_3_140) de_X6_begin ⟨Nat.le_of_ble_eq_true rfl, Nat.le_of_ble_eq_true rfl⟩ hP hK (va_recv hK hP (ci := 5) (q0 := 0) rfl MW_0) hl.1 rfl (Nat.le_of_ble_eq_true rfl) dX6_down_15 ⟨Nat.zero_le _, Nat.zero_le _⟩ hD hS (fun H locs hP hS => ?_)
    have hP : va_P D vwCl (MW cI cZ q (0 : Int32) textSize place stock (nI n) readStock readCells readParts acts tried soonMany soonWhich kindMany kindFirst restMany restFirst text lies kind readPart page (f_X6_begin page trial) book kept isKept triedAbout triedIs gains value seed) H := hP
    have hD : va_D A (MW cI cZ q (0 : Int32) textSize place stock (nI n) readStock readCells readParts acts tried soonMany soonWhich kindMany kindFirst restMany restFirst text lies kind readPart page (f_X6_begin page trial) book kept isKept triedAbout triedIs gains value seed) := hD.same (MW_ad.trans MW_ad.symm)
    have key_18 : ∀ (d_18 : Nat) (tr18 : Nat → Int32) (ls : Array Slot) (H : Heap) (locs : List Loc), (∃ x : Nat, tr18 a1.toNatClampNeg = nI x ∧ x ≤ d_18) → f_X6_down_l18 cl n lies kind a1 d_18 tr18 = R → lv_has ls 2 [(0, .ref (q 0)), (1, .int a1)] → va_P D vwCl (MW cI cZ q (0 : Int32) textSize place stock (nI n) readStock readCells readParts acts tried soonMany soonWhich kindMany kindFirst restMany restFirst text lies kind readPart page tr18 book kept isKept triedAbout triedIs gains value seed) H → va_S A s.heap H locs → W p l e (rmO 7 164) s m args below meth c H locs 0 0 Q (F0 m 18 ls []) := by
      intro d_18
      induction d_18 with
      | zero =>
        intro tr18 ls H locs hx_18 hR hl hP hS
        have hD : va_D A (MW cI cZ q (0 : Int32) textSize place stock (nI n) readStock readCells readParts acts tried soonMany soonWhich kindMany kindFirst restMany restFirst text lies kind readPart page tr18 book kept isKept triedAbout triedIs gains value seed) := hD.same (MW_ad.trans MW_ad.symm)
        rw [f_X6_down_l18_z] at hR
        refine lv_aload_n hx hb dX6_down_18 rfl (lv_at hl 0 rfl) ?_
        refine va_get (D := D) (ci := 5) (v := .ref (q 6)) (C := RX6) (T := TX6) (N := 30) hx hb hts tbX6 hown hK hP 0 MW_0 rfl 13 (by decide) (hts _ tm_3_14) (fun _ h9 => h9) rfl dX6_down_19 ?_
        refine lv_iload_n hx hb dX6_down_22 rfl (lv_at hl 1 rfl) ?_
        refine lv_rw (z := (nI a1.toNatClampNeg)) hc1 ?_
        refine va_iald hx hb hK hP 6 0 MW_6 rfl (vp_in_nI (show a1.toNatClampNeg < 7 by omega) (by omega)) dX6_down_23 ?_
        refine lv_rw (z := (tr18 a1.toNatClampNeg)) (congrArg tr18 (nI_clamp (show a1.toNatClampNeg < 2 ^ 31 by omega))) ?_
        refine lv_if_le (tgt := 48) hx hb dX6_down_24 (by decide) (fun c_24 => ?_) (fun c_24 => absurd (down0 hx_18) c_24)
        refine lv_iconst (v := (0 : Int32)) hx hb dX6_down_48 (by decide) ?_
        subst hR
        exact fin _ _ _ _ dX6_down_49 (nar_i _) hP hS
      | succ d_18 ih_18 =>
        intro tr18 ls H locs hx_18 hR hl hP hS
        have hD : va_D A (MW cI cZ q (0 : Int32) textSize place stock (nI n) readStock readCells readParts acts tried soonMany soonWhich kindMany kindFirst restMany restFirst text lies kind readPart page tr18 book kept isKept triedAbout triedIs gains value seed) := hD.same (MW_ad.trans MW_ad.symm)
        rw [f_X6_down_l18_s] at hR
        refine lv_aload_n hx hb dX6_down_18 rfl (lv_at hl 0 rfl) ?_
        refine va_get (D := D) (ci := 5) (v := .ref (q 6)) (C := RX6) (T := TX6) (N := 30) hx hb hts tbX6 hown hK hP 0 MW_0 rfl 13 (by decide) (hts _ tm_3_14) (fun _ h9 => h9) rfl dX6_down_19 ?_
        refine lv_iload_n hx hb dX6_down_22 rfl (lv_at hl 1 rfl) ?_
        refine lv_rw (z := (nI a1.toNatClampNeg)) hc1 ?_
        refine va_iald hx hb hK hP 6 0 MW_6 rfl (vp_in_nI (show a1.toNatClampNeg < 7 by omega) (by omega)) dX6_down_23 ?_
        refine lv_rw (z := (tr18 a1.toNatClampNeg)) (congrArg tr18 (nI_clamp (show a1.toNatClampNeg < 2 ^ 31 by omega))) ?_
        refine lv_if_le (tgt := 48) hx hb dX6_down_24 (by decide) (fun c_24 => ?_) (fun c_24 => ?_)
        · rw [if_pos c_24] at hR
          refine lv_iconst (v := (0 : Int32)) hx hb dX6_down_48 (by decide) ?_
          subst hR
          exact fin _ _ _ _ dX6_down_49 (nar_i _) hP hS
        · rw [if_neg c_24] at hR
          refine lv_aload_n hx hb dX6_down_27 rfl (lv_at hl 0 rfl) ?_
          refine lv_aload_n hx hb dX6_down_28 rfl (lv_at hl 0 rfl) ?_
          refine va_get (D := D) (ci := 5) (v := .ref (q 6)) (C := RX6) (T := TX6) (N := 30) hx hb hts tbX6 hown hK hP 0 MW_0 rfl 13 (by decide) (hts _ tm_3_14) (fun _ h9 => h9) rfl dX6_down_29 ?_
          refine lv_iload_n hx hb dX6_down_32 rfl (lv_at hl 1 rfl) ?_
          refine lv_rw (z := (nI a1.toNatClampNeg)) hc1 ?_
          refine vWrI (b := (q 0)) (As := [.ref (q 6), .int (nI a1.toNatClampNeg)]) (rest := []) hF (c_X6_goStrike_trial l D cI cZ q (0 : Int32) textSize place stock n readStock readCells readParts acts tried soonMany soonWhich kindMany kindFirst restMany restFirst text lies kind readPart page tr18 book kept isKept triedAbout triedIs gains value seed a1.toNatClampNeg hn7 hc2 cl hcl) (gdV tm_3_206 tm_3_208 tp_23 tm_1_6 tm_3_209) de_X6_goStrike ⟨Nat.le_of_ble_eq_true rfl, Nat.le_of_ble_eq_true rfl⟩ hP hK (va_recv hK hP (ci := 5) (q0 := 0) rfl MW_0) hl.1 rfl (Nat.le_of_ble_eq_true rfl) dX6_down_33 ⟨Nat.zero_le _, Nat.zero_le _⟩ hD hS (fun H locs hP hS => ?_)
          have hP : va_P D vwCl (MW cI cZ q (0 : Int32) textSize place stock (nI n) readStock readCells readParts acts tried soonMany soonWhich kindMany kindFirst restMany restFirst text lies kind readPart page (f_X6_goStrike cl n a1.toNatClampNeg lies kind tr18).2 book kept isKept triedAbout triedIs gains value seed) H := hP
          have hD : va_D A (MW cI cZ q (0 : Int32) textSize place stock (nI n) readStock readCells readParts acts tried soonMany soonWhich kindMany kindFirst restMany restFirst text lies kind readPart page (f_X6_goStrike cl n a1.toNatClampNeg lies kind tr18).2 book kept isKept triedAbout triedIs gains value seed) := hD.same (MW_ad.trans MW_ad.symm)
          refine lv_if_le (tgt := 18) hx hb dX6_down_36 (by decide) (fun c_36 => ?_) (fun c_36 => ?_)
          · rw [if_pos c_36] at hR
            exact ih_18 (f_X6_goStrike cl n a1.toNatClampNeg lies kind tr18).2 ls _ _ (downS hx_18 c_24 (goStrike_at hc2)) hR (lv_sub hl [0, 1] rfl) hP hS
          · rw [if_neg c_36] at hR
            refine lv_aload_n hx hb dX6_down_39 rfl (lv_at hl 0 rfl) ?_
            refine va_get (D := D) (ci := 5) (v := .ref (q 6)) (C := RX6) (T := TX6) (N := 30) hx hb hts tbX6 hown hK hP 0 MW_0 rfl 13 (by decide) (hts _ tm_3_14) (fun _ h9 => h9) rfl dX6_down_40 ?_
            refine lv_iload_n hx hb dX6_down_43 rfl (lv_at hl 1 rfl) ?_
            refine lv_rw (z := (nI a1.toNatClampNeg)) hc1 ?_
            refine va_iald hx hb hK hP 6 0 MW_6 rfl (vp_in_nI (show a1.toNatClampNeg < 7 by omega) (by omega)) dX6_down_44 ?_
            refine lv_rw (z := ((f_X6_goStrike cl n a1.toNatClampNeg lies kind tr18).2 a1.toNatClampNeg)) (congrArg (f_X6_goStrike cl n a1.toNatClampNeg lies kind tr18).2 (nI_clamp (show a1.toNatClampNeg < 2 ^ 31 by omega))) ?_
            refine lv_iconst (v := (1 : Int32)) hx hb dX6_down_45 (by decide) ?_
            refine lv_iadd hx hb dX6_down_46 ?_
            subst hR
            exact fin _ _ _ _ dX6_down_47 (nar_i _) hP hS
    exact key_18 4 (f_X6_begin page trial) ls _ _ ⟨hh a1.toNatClampNeg, by rw [begin_at _ _ _ (by omega)]; exact (hpg _ hc2).1, (hpg _ hc2).2⟩ hR (lv_sub hl [0, 1] rfl) hP hS
  · rw [if_neg c_9] at hR
    refine lv_iconst (v := (-1 : Int32)) hx hb dX6_down_12 (by decide) ?_
    subst hR
    exact fin _ _ _ _ dX6_down_13 (nar_i _) hP hS
