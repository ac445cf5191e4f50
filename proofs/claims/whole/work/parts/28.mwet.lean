theorem de_X6_columnsWith : deOK yX6_columnsWith 0 := by decide +kernel
theorem de_X6_wet : deOK yX6_wet 3 := by decide +kernel
theorem de_X6_terms : deOK yX6_terms 1 := by decide +kernel
theorem de_X6_keep : deOK yX6_keep 1 := by decide +kernel
theorem de_X6_again : deOK yX6_again 1 := by decide +kernel
def f_X6_columnsWith_l4 (page : Nat → Int32) : Nat → Nat → (Int32) → Int32
  | 0, i_4, se4 => se4
  | d_4 + 1, i_4, se4 => (if (page i_4) ≤ (0 : Int32) then (f_X6_columnsWith_l4 page d_4 (i_4 + 1) (se4 ||| (0 : Int32))) else (f_X6_columnsWith_l4 page d_4 (i_4 + 1) (se4 ||| (shl (1 : Int32) (nI i_4)))))
theorem f_X6_columnsWith_l4_z {page : Nat → Int32} {i_4 : Nat} {se4 : Int32} : f_X6_columnsWith_l4 page 0 i_4 se4 = se4 := by rw [f_X6_columnsWith_l4]
theorem f_X6_columnsWith_l4_s {page : Nat → Int32} {d_4 : Nat} {i_4 : Nat} {se4 : Int32} : f_X6_columnsWith_l4 page (d_4 + 1) i_4 se4 = (if (page i_4) ≤ (0 : Int32) then (f_X6_columnsWith_l4 page d_4 (i_4 + 1) (se4 ||| (0 : Int32))) else (f_X6_columnsWith_l4 page d_4 (i_4 + 1) (se4 ||| (shl (1 : Int32) (nI i_4))))) := by rw [f_X6_columnsWith_l4]
def f_X6_columnsWith (page : Nat → Int32) : Int32 := (f_X6_columnsWith_l4 page 4 0 (0 : Int32))
set_option maxHeartbeats 4000000 in
set_option maxRecDepth 100000 in
theorem c_X6_columnsWith (l : Launch) (D : va_G) (cI cZ : ClassId) (q : Nat → Nat) (thrown textSize place stock parts readStock readCells readParts acts tried soonMany soonWhich kindMany kindFirst restMany restFirst : Int32) (text lies kind readPart page trial book kept isKept triedAbout triedIs gains value : Nat → Int32) (seed : Int64) : RdI l yX6_columnsWith cX6_columnsWith 3 .int 0 0 D (tyL cI cZ) (MW cI cZ q thrown textSize place stock parts readStock readCells readParts acts tried soonMany soonWhich kindMany kindFirst restMany restFirst text lies kind readPart page trial book kept isKept triedAbout triedIs gains value seed) [.ref (q 0)] (f_X6_columnsWith page) := by
  refine RdI.of (by decide) (Nat.le_of_ble_eq_true rfl) ?_
  intro p e s m args below meth c Q hx hb hml hown hts hP hK fin ls hl
  have hown : s.vm.findClass RX6 = some m.cls := hown
  have hF : CallFix p m c cX6_columnsWith 3 s args tb RX6 := ⟨hx, hb, hml, hown, hts⟩
  have hl : lv_has ls 3 [(0, .ref (q 0))] := hl
  generalize hR : (f_X6_columnsWith page) = R at fin
  unfold f_X6_columnsWith at hR
  refine lv_iconst (v := (0 : Int32)) hx hb dX6_columnsWith_0 (by decide) ?_
  refine lv_istore_n (lv' := [(1, .int (0 : Int32)), (0, .ref (q 0))]) hx hb dX6_columnsWith_1 rfl hl (by decide) rfl (fun ls hl => ?_)
  refine lv_iconst (v := (0 : Int32)) hx hb dX6_columnsWith_2 (by decide) ?_
  refine lv_istore_n (lv' := [(2, .int (0 : Int32)), (1, .int (0 : Int32)), (0, .ref (q 0))]) hx hb dX6_columnsWith_3 rfl hl (by decide) rfl (fun ls hl => ?_)
  obtain ⟨T_4, hT_4⟩ : ∃ z, f_X6_columnsWith_l4 page 4 0 (0 : Int32) = z := ⟨_, rfl⟩
  rw [hT_4] at hR
  have key_4 : ∀ (d_4 i_4 : Nat) (se4 : Int32) (ls : Array Slot), i_4 + d_4 = 4 → f_X6_columnsWith_l4 page d_4 i_4 se4 = T_4 → lv_has ls 3 [(2, .int (nI i_4)), (1, .int se4), (0, .ref (q 0))] → W p l e (rmO 0 0) s m args below meth c s.heap [] 0 0 Q (F0 m 4 ls []) := by
    intro d_4
    induction d_4 with
    | zero =>
      intro i_4 se4 ls hi_4 hT_4 hl
      rw [f_X6_columnsWith_l4_z] at hT_4
      refine lv_iload_n hx hb dX6_columnsWith_4 rfl (lv_at hl 0 rfl) ?_
      refine lv_iconst (v := (4 : Int32)) hx hb dX6_columnsWith_5 (by decide) ?_
      refine lv_icmp_ge (tgt := 34) hx hb dX6_columnsWith_6 (by decide) (fun c_6 => ?_) (fun c_6 => absurd (nI_le (a := 4) (by omega) (by omega)) c_6)
      subst hT_4
      try dsimp only at hR
      refine lv_iload_n hx hb dX6_columnsWith_34 rfl (lv_at hl 1 rfl) ?_
      subst hR
      exact fin _ _ dX6_columnsWith_35 (nar_i _)
    | succ d_4 ih_4 =>
      intro i_4 se4 ls hi_4 hT_4 hl
      rw [f_X6_columnsWith_l4_s] at hT_4
      refine lv_iload_n hx hb dX6_columnsWith_4 rfl (lv_at hl 0 rfl) ?_
      refine lv_iconst (v := (4 : Int32)) hx hb dX6_columnsWith_5 (by decide) ?_
      refine lv_icmp_ge (tgt := 34) hx hb dX6_columnsWith_6 (by decide) (fun c_6 => absurd c_6 (nI_ge (b := 4) (by omega) (by omega))) (fun c_6 => ?_)
      refine lv_iload_n hx hb dX6_columnsWith_9 rfl (lv_at hl 1 rfl) ?_
      refine lv_aload_n hx hb dX6_columnsWith_10 rfl (lv_at hl 2 rfl) ?_
      refine va_get (D := D) (ci := 5) (v := .ref (q 5)) (C := RX6) (T := TX6) (N := 30) hx hb hts tbX6 hown hK hP 0 MW_0 rfl 12 (by decide) (hts _ tm_3_13) (fun _ h9 => h9) rfl dX6_columnsWith_11 ?_
      refine lv_iload_n hx hb dX6_columnsWith_14 rfl (lv_at hl 0 rfl) ?_
      refine va_iald hx hb hK hP 5 0 MW_5 rfl (vp_in_nI (show i_4 < 7 by omega) (by omega)) dX6_columnsWith_15 ?_
      refine lv_rw (z := (page i_4)) (congrArg page (nI_clamp (show i_4 < 2 ^ 31 by omega))) ?_
      refine lv_if_le (tgt := 25) hx hb dX6_columnsWith_16 (by decide) (fun c_16 => ?_) (fun c_16 => ?_)
      · rw [if_pos c_16] at hT_4
        refine lv_iconst (v := (0 : Int32)) hx hb dX6_columnsWith_25 (by decide) ?_
        refine lv_ior hx hb dX6_columnsWith_26 ?_
        refine lv_istore_n (lv' := [(1, .int (se4 ||| (0 : Int32))), (2, .int (nI i_4)), (0, .ref (q 0))]) hx hb dX6_columnsWith_27 rfl hl (by decide) rfl (fun ls hl => ?_)
        refine lv_iinc (v := (nI (i_4 + 1))) (lv' := [(2, .int (nI (i_4 + 1))), (1, .int (se4 ||| (0 : Int32))), (0, .ref (q 0))]) hx hb dX6_columnsWith_28 hl (k := 1) rfl (nI_up i_4) (by decide) rfl (fun ls hl => ?_)
        refine lv_goto (tgt := 4) hx hb dX6_columnsWith_31 (by decide) ?_
        exact ih_4 (i_4 + 1) (se4 ||| (0 : Int32)) ls (by omega) hT_4 (lv_sub hl [0, 1, 2] rfl)
      · rw [if_neg c_16] at hT_4
        refine lv_iconst (v := (1 : Int32)) hx hb dX6_columnsWith_19 (by decide) ?_
        refine lv_iload_n hx hb dX6_columnsWith_20 rfl (lv_at hl 0 rfl) ?_
        refine lv_ishl hx hb dX6_columnsWith_21 ?_
        refine lv_rw (z := (shl (1 : Int32) (nI i_4))) rfl ?_
        refine lv_goto (tgt := 26) hx hb dX6_columnsWith_22 (by decide) ?_
        refine lv_ior hx hb dX6_columnsWith_26 ?_
        refine lv_istore_n (lv' := [(1, .int (se4 ||| (shl (1 : Int32) (nI i_4)))), (2, .int (nI i_4)), (0, .ref (q 0))]) hx hb dX6_columnsWith_27 rfl hl (by decide) rfl (fun ls hl => ?_)
        refine lv_iinc (v := (nI (i_4 + 1))) (lv' := [(2, .int (nI (i_4 + 1))), (1, .int (se4 ||| (shl (1 : Int32) (nI i_4)))), (0, .ref (q 0))]) hx hb dX6_columnsWith_28 hl (k := 1) rfl (nI_up i_4) (by decide) rfl (fun ls hl => ?_)
        refine lv_goto (tgt := 4) hx hb dX6_columnsWith_31 (by decide) ?_
        exact ih_4 (i_4 + 1) (se4 ||| (shl (1 : Int32) (nI i_4))) ls (by omega) hT_4 (lv_sub hl [0, 1, 2] rfl)
  exact key_4 4 0 (0 : Int32) ls (by omega) hT_4 (lv_sub hl [0, 1, 2] rfl)
def f_X6_wet_l75 (i_51 : Nat) : Nat → Nat → (Nat → Int32) → Nat → Int32
  | 0, i_75, tr75 => tr75
  | d_75 + 1, i_75, tr75 => (f_X6_wet_l75 i_51 d_75 (i_75 + 1) (upd tr75 i_75 ((tr75 i_75) - ((shr (nI i_51) (nI i_75)) &&& (1 : Int32)))))
theorem f_X6_wet_l75_z {i_51 : Nat} {i_75 : Nat} {tr75 : Nat → Int32} : f_X6_wet_l75 i_51 0 i_75 tr75 = tr75 := by rw [f_X6_wet_l75]
theorem f_X6_wet_l75_s {i_51 : Nat} {d_75 : Nat} {i_75 : Nat} {tr75 : Nat → Int32} : f_X6_wet_l75 i_51 (d_75 + 1) i_75 tr75 = (f_X6_wet_l75 i_51 d_75 (i_75 + 1) (upd tr75 i_75 ((tr75 i_75) - ((shr (nI i_51) (nI i_75)) &&& (1 : Int32))))) := by rw [f_X6_wet_l75]
def f_X6_wet_l51 (cl : Nat → Nat) (n : Nat) (lies : Nat → Int32) (kind : Nat → Int32) (page : Nat → Int32) (a1 : Int32) (a2 : Int32) : Nat → Nat → (Int32) → (Nat → Int32) → (Int32) × (Nat → Int32)
  | 0, i_51, up51, tr51 => (up51, tr51)
  | d_51 + 1, i_51, up51, tr51 => (if ((nI i_51) &&& ((f_X6_columnsWith page) ^^^ (-1 : Int32))) = (0 : Int32) then (if (f_X6_many ((f_X6_settle cl n lies kind (f_X6_wet_l75 i_51 4 0 (f_X6_begin page tr51))).2 5)) < a1 then (f_X6_wet_l51 cl n lies kind page a1 a2 d_51 (i_51 + 1) (up51 + (0 : Int32)) (f_X6_settle cl n lies kind (f_X6_wet_l75 i_51 4 0 (f_X6_begin page tr51))).2) else (f_X6_wet_l51 cl n lies kind page a1 a2 d_51 (i_51 + 1) (up51 + ((f_X6_power a2 (f_X6_many (nI i_51))) * (f_X6_power ((10 : Int32) - a2) ((f_X6_many (f_X6_columnsWith page)) - (f_X6_many (nI i_51)))))) (f_X6_settle cl n lies kind (f_X6_wet_l75 i_51 4 0 (f_X6_begin page tr51))).2)) else (f_X6_wet_l51 cl n lies kind page a1 a2 d_51 (i_51 + 1) up51 tr51))
theorem f_X6_wet_l51_z {cl : Nat → Nat} {n : Nat} {lies : Nat → Int32} {kind : Nat → Int32} {page : Nat → Int32} {a1 : Int32} {a2 : Int32} {i_51 : Nat} {up51 : Int32} {tr51 : Nat → Int32} : f_X6_wet_l51 cl n lies kind page a1 a2 0 i_51 up51 tr51 = (up51, tr51) := by rw [f_X6_wet_l51]
theorem f_X6_wet_l51_s {cl : Nat → Nat} {n : Nat} {lies : Nat → Int32} {kind : Nat → Int32} {page : Nat → Int32} {a1 : Int32} {a2 : Int32} {d_51 : Nat} {i_51 : Nat} {up51 : Int32} {tr51 : Nat → Int32} : f_X6_wet_l51 cl n lies kind page a1 a2 (d_51 + 1) i_51 up51 tr51 = (if ((nI i_51) &&& ((f_X6_columnsWith page) ^^^ (-1 : Int32))) = (0 : Int32) then (if (f_X6_many ((f_X6_settle cl n lies kind (f_X6_wet_l75 i_51 4 0 (f_X6_begin page tr51))).2 5)) < a1 then (f_X6_wet_l51 cl n lies kind page a1 a2 d_51 (i_51 + 1) (up51 + (0 : Int32)) (f_X6_settle cl n lies kind (f_X6_wet_l75 i_51 4 0 (f_X6_begin page tr51))).2) else (f_X6_wet_l51 cl n lies kind page a1 a2 d_51 (i_51 + 1) (up51 + ((f_X6_power a2 (f_X6_many (nI i_51))) * (f_X6_power ((10 : Int32) - a2) ((f_X6_many (f_X6_columnsWith page)) - (f_X6_many (nI i_51)))))) (f_X6_settle cl n lies kind (f_X6_wet_l75 i_51 4 0 (f_X6_begin page tr51))).2)) else (f_X6_wet_l51 cl n lies kind page a1 a2 d_51 (i_51 + 1) up51 tr51)) := by rw [f_X6_wet_l51]
def f_X6_wet (cl : Nat → Nat) (n : Nat) (lies : Nat → Int32) (kind : Nat → Int32) (page : Nat → Int32) (trial : Nat → Int32) (a1 : Int32) (a2 : Int32) (a3 : Int32) : (Int32) × (Int32) × (Nat → Int32) := (if (f_X6_in a1.toInt64 (0 : Int64) (7 : Int64)) = (0 : Int32) then ((-2 : Int32), (0 : Int32), trial) else (if (f_X6_in a2.toInt64 (0 : Int64) (10 : Int64)) = (0 : Int32) then ((-2 : Int32), (0 : Int32), trial) else ((f_X6_fraction (f_X6_wet_l51 cl n lies kind page a1 a2 16 0 (0 : Int32) trial).1 (f_X6_power (10 : Int32) (f_X6_many (f_X6_columnsWith page))) a3), (0 : Int32), (f_X6_wet_l51 cl n lies kind page a1 a2 16 0 (0 : Int32) trial).2)))
set_option maxHeartbeats 4000000 in
set_option maxRecDepth 100000 in
theorem c_X6_wet (l : Launch) (D : va_G) (cI cZ : ClassId) (q : Nat → Nat) (thrown : Int32) (textSize : Int32) (place : Int32) (stock : Int32) (n : Nat) (readStock : Int32) (readCells : Int32) (readParts : Int32) (acts : Int32) (tried : Int32) (soonMany : Int32) (soonWhich : Int32) (kindMany : Int32) (kindFirst : Int32) (restMany : Int32) (restFirst : Int32) (text lies kind readPart page trial book kept isKept triedAbout triedIs gains value : Nat → Int32) (seed : Int64) (a1 : Int32) (a2 : Int32) (a3 : Int32) (hn7 : n ≤ 7) (cl : Nat → Nat) (hcl : ∀ j, j < 7 → lies j = nI (cl j) ∧ cl j < 16) : WrI l yX6_wet cX6_wet 9 .int 6 142 D (tyL cI cZ) (MW cI cZ q thrown textSize place stock (nI n) readStock readCells readParts acts tried soonMany soonWhich kindMany kindFirst restMany restFirst text lies kind readPart page trial book kept isKept triedAbout triedIs gains value seed) [.ref (q 0), .int a1, .int a2, .int a3] (f_X6_wet cl n lies kind page trial a1 a2 a3).1 (MW cI cZ q (f_X6_wet cl n lies kind page trial a1 a2 a3).2.1 textSize place stock (nI n) readStock readCells readParts acts tried soonMany soonWhich kindMany kindFirst restMany restFirst text lies kind readPart page (f_X6_wet cl n lies kind page trial a1 a2 a3).2.2 book kept isKept triedAbout triedIs gains value seed) := by
  refine WrI.of (by decide) (Nat.le_of_ble_eq_true rfl) ?_
  intro p e s m args below meth c Q A hx hb hml hown hts hP hK hD hS fin ls hl
  have hown : s.vm.findClass RX6 = some m.cls := hown
  have hF : CallFix p m c cX6_wet 9 s args tb RX6 := ⟨hx, hb, hml, hown, hts⟩
  have hl : lv_has ls 9 [(0, .ref (q 0)), (1, .int a1), (2, .int a2), (3, .int a3)] := hl
  generalize hR : (f_X6_wet cl n lies kind page trial a1 a2 a3) = R at fin
  unfold f_X6_wet at hR
  refine lv_aload_n hx hb dX6_wet_0 rfl (lv_at hl 0 rfl) ?_
  refine lv_iconst (v := (0 : Int32)) hx hb dX6_wet_1 (by decide) ?_
  refine va_put (D := D) (ci := 5) (v := .int (0 : Int32)) (ty := .int) (C := RX6) (T := TX6) (N := 30) hx hb hts tbX6 tyX6 tyX6_ok nmX6 hown hK hP hD hS 0 MW_0 rfl 0 (by decide) (hts _ tm_3_1) (fun _ h9 => h9) rfl (by decide +kernel) rfl rfl (Nat.le_of_ble_eq_true rfl) dX6_wet_2 (fun H locs hP _ hS => ?_)
  have hP : va_P D vwCl (MW cI cZ q (0 : Int32) textSize place stock (nI n) readStock readCells readParts acts tried soonMany soonWhich kindMany kindFirst restMany restFirst text lies kind readPart page trial book kept isKept triedAbout triedIs gains value seed) H := hP
  have hD : va_D A (MW cI cZ q (0 : Int32) textSize place stock (nI n) readStock readCells readParts acts tried soonMany soonWhich kindMany kindFirst restMany restFirst text lies kind readPart page trial book kept isKept triedAbout triedIs gains value seed) := hD.same (MW_ad.trans MW_ad.symm)
  refine lv_iload_n hx hb dX6_wet_5 rfl (lv_at hl 1 rfl) ?_
  refine lv_i2l (v := a1.toInt64) hx hb dX6_wet_6 rfl ?_
  refine lv_lconst (v := (0 : Int64)) hx hb dX6_wet_7 (by decide) ?_
  refine lv_ldc2 (v := (7 : Int64)) hx hb hown (hts _ tm_4_64) dX6_wet_8 ?_
  refine sRdI (As := [.long a1.toInt64, .long (0 : Int64), .long (7 : Int64)]) (rest := []) hF (c_X6_in l D cI cZ q a1.toInt64 (0 : Int64) (7 : Int64)) (gdS tm_3_97 tm_3_98 tm_1_6 tm_3_99) de_X6_in ⟨Nat.le_of_ble_eq_true rfl, Nat.le_of_ble_eq_true rfl⟩ va_P_nil hK hl.1 rfl (Nat.le_of_ble_eq_true rfl) dX6_wet_11 ⟨Nat.zero_le _, Nat.zero_le _⟩ ?_
  refine lv_if_eq (tgt := 29) hx hb dX6_wet_14 (by decide) (fun c_14 => ?_) (fun c_14 => ?_)
  · rw [if_pos c_14] at hR
    refine lv_bipush (v := (-2 : Int32)) hx hb dX6_wet_29 (by decide) ?_
    subst hR
    exact fin _ _ _ _ dX6_wet_31 (nar_i _) hP hS
  · rw [if_neg c_14] at hR
    refine lv_iload_n hx hb dX6_wet_17 rfl (lv_at hl 2 rfl) ?_
    refine lv_i2l (v := a2.toInt64) hx hb dX6_wet_18 rfl ?_
    refine lv_lconst (v := (0 : Int64)) hx hb dX6_wet_19 (by decide) ?_
    refine lv_ldc2 (v := (10 : Int64)) hx hb hown (hts _ tm_4_65) dX6_wet_20 ?_
    refine sRdI (As := [.long a2.toInt64, .long (0 : Int64), .long (10 : Int64)]) (rest := []) hF (c_X6_in l D cI cZ q a2.toInt64 (0 : Int64) (10 : Int64)) (gdS tm_3_97 tm_3_98 tm_1_6 tm_3_99) de_X6_in ⟨Nat.le_of_ble_eq_true rfl, Nat.le_of_ble_eq_true rfl⟩ va_P_nil hK hl.1 rfl (Nat.le_of_ble_eq_true rfl) dX6_wet_23 ⟨Nat.zero_le _, Nat.zero_le _⟩ ?_
    refine lv_if_ne (tgt := 32) hx hb dX6_wet_26 (by decide) (fun c_26 => ?_) (fun c_26 => ?_)
    · rw [if_neg c_26] at hR
      refine lv_aload_n hx hb dX6_wet_32 rfl (lv_at hl 0 rfl) ?_
      refine vRdI (b := (q 0)) (As := []) (rest := []) hF (c_X6_columnsWith l D cI cZ q (0 : Int32) textSize place stock (nI n) readStock readCells readParts acts tried soonMany soonWhich kindMany kindFirst restMany restFirst text lies kind readPart page trial book kept isKept triedAbout triedIs gains value seed) (gdV tm_4_66 tm_4_68 tp_31 tm_1_6 tm_4_69) de_X6_columnsWith ⟨Nat.le_of_ble_eq_true rfl, Nat.le_of_ble_eq_true rfl⟩ hP hK (va_recv hK hP (ci := 5) (q0 := 0) rfl MW_0) hl.1 rfl (Nat.le_of_ble_eq_true rfl) dX6_wet_33 ⟨Nat.zero_le _, Nat.zero_le _⟩ ?_
      refine lv_istore (lv' := [(4, .int (f_X6_columnsWith page)), (0, .ref (q 0)), (1, .int a1), (2, .int a2), (3, .int a3)]) hx hb dX6_wet_36 hl (by decide) rfl (fun ls hl => ?_)
      refine lv_iload hx hb dX6_wet_38 (lv_at hl 0 rfl) ?_
      refine sRdI (As := [.int (f_X6_columnsWith page)]) (rest := []) hF (c_X6_many l D cI cZ q (f_X6_columnsWith page)) (gdS tm_3_171 tm_3_172 tm_1_6 tm_3_173) de_X6_many ⟨Nat.le_of_ble_eq_true rfl, Nat.le_of_ble_eq_true rfl⟩ va_P_nil hK hl.1 rfl (Nat.le_of_ble_eq_true rfl) dX6_wet_40 ⟨Nat.zero_le _, Nat.zero_le _⟩ ?_
      refine lv_istore (lv' := [(5, .int (f_X6_many (f_X6_columnsWith page))), (4, .int (f_X6_columnsWith page)), (0, .ref (q 0)), (1, .int a1), (2, .int a2), (3, .int a3)]) hx hb dX6_wet_43 hl (by decide) rfl (fun ls hl => ?_)
      refine lv_iconst (v := (0 : Int32)) hx hb dX6_wet_45 (by decide) ?_
      refine lv_istore (lv' := [(6, .int (0 : Int32)), (5, .int (f_X6_many (f_X6_columnsWith page))), (4, .int (f_X6_columnsWith page)), (0, .ref (q 0)), (1, .int a1), (2, .int a2), (3, .int a3)]) hx hb dX6_wet_46 hl (by decide) rfl (fun ls hl => ?_)
      refine lv_iconst (v := (0 : Int32)) hx hb dX6_wet_48 (by decide) ?_
      refine lv_istore (lv' := [(7, .int (0 : Int32)), (6, .int (0 : Int32)), (5, .int (f_X6_many (f_X6_columnsWith page))), (4, .int (f_X6_columnsWith page)), (0, .ref (q 0)), (1, .int a1), (2, .int a2), (3, .int a3)]) hx hb dX6_wet_49 hl (by decide) rfl (fun ls hl => ?_)
      obtain ⟨T_51, hT_51⟩ : ∃ z, f_X6_wet_l51 cl n lies kind page a1 a2 16 0 (0 : Int32) trial = z := ⟨_, rfl⟩
      rw [hT_51] at hR
      have key_51 : ∀ (d_51 i_51 : Nat) (up51 : Int32) (tr51 : Nat → Int32) (ls : Array Slot) (H : Heap) (locs : List Loc), i_51 + d_51 = 16 → f_X6_wet_l51 cl n lies kind page a1 a2 d_51 i_51 up51 tr51 = T_51 → lv_has ls 9 [(7, .int (nI i_51)), (6, .int up51), (5, .int (f_X6_many (f_X6_columnsWith page))), (4, .int (f_X6_columnsWith page)), (0, .ref (q 0)), (1, .int a1), (2, .int a2), (3, .int a3)] → va_P D vwCl (MW cI cZ q (0 : Int32) textSize place stock (nI n) readStock readCells readParts acts tried soonMany soonWhich kindMany kindFirst restMany restFirst text lies kind readPart page tr51 book kept isKept triedAbout triedIs gains value seed) H → va_S A s.heap H locs → W p l e (rmO 6 142) s m args below meth c H locs 0 0 Q (F0 m 51 ls []) := by
        intro d_51
        induction d_51 with
        | zero =>
          intro i_51 up51 tr51 ls H locs hi_51 hT_51 hl hP hS
          have hD : va_D A (MW cI cZ q (0 : Int32) textSize place stock (nI n) readStock readCells readParts acts tried soonMany soonWhich kindMany kindFirst restMany restFirst text lies kind readPart page tr51 book kept isKept triedAbout triedIs gains value seed) := hD.same (MW_ad.trans MW_ad.symm)
          rw [f_X6_wet_l51_z] at hT_51
          refine lv_iload hx hb dX6_wet_51 (lv_at hl 0 rfl) ?_
          refine lv_bipush (v := (16 : Int32)) hx hb dX6_wet_53 (by decide) ?_
          refine lv_icmp_ge (tgt := 167) hx hb dX6_wet_55 (by decide) (fun c_55 => ?_) (fun c_55 => absurd (nI_le (a := 16) (by omega) (by omega)) c_55)
          subst hT_51
          try dsimp only at hR
          refine lv_iload hx hb dX6_wet_167 (lv_at hl 1 rfl) ?_
          refine lv_bipush (v := (10 : Int32)) hx hb dX6_wet_169 (by decide) ?_
          refine lv_iload hx hb dX6_wet_171 (lv_at hl 2 rfl) ?_
          refine sRdI (As := [.int (10 : Int32), .int (f_X6_many (f_X6_columnsWith page))]) (rest := [.int up51]) hF (c_X6_power l D cI cZ q (10 : Int32) (f_X6_many (f_X6_columnsWith page)) (many_lt _)) (gdS tm_3_238 tm_3_239 tm_1_6 tm_4_0) de_X6_power ⟨Nat.le_of_ble_eq_true rfl, Nat.le_of_ble_eq_true rfl⟩ va_P_nil hK hl.1 rfl (Nat.le_of_ble_eq_true rfl) dX6_wet_173 ⟨Nat.zero_le _, Nat.zero_le _⟩ ?_
          refine lv_iload_n hx hb dX6_wet_176 rfl (lv_at hl 7 rfl) ?_
          refine sRdI (As := [.int up51, .int (f_X6_power (10 : Int32) (f_X6_many (f_X6_columnsWith page))), .int a3]) (rest := []) hF (c_X6_fraction l D cI cZ q up51 (f_X6_power (10 : Int32) (f_X6_many (f_X6_columnsWith page))) a3 (pow10m _).1 (pow10m _).2) (gdS tm_4_29 tm_4_30 tm_1_6 tm_4_31) de_X6_fraction ⟨Nat.le_of_ble_eq_true rfl, Nat.le_of_ble_eq_true rfl⟩ va_P_nil hK hl.1 rfl (Nat.le_of_ble_eq_true rfl) dX6_wet_177 ⟨Nat.zero_le _, Nat.zero_le _⟩ ?_
          subst hR
          exact fin _ _ _ _ dX6_wet_180 (nar_i _) hP hS
        | succ d_51 ih_51 =>
          intro i_51 up51 tr51 ls H locs hi_51 hT_51 hl hP hS
          have hD : va_D A (MW cI cZ q (0 : Int32) textSize place stock (nI n) readStock readCells readParts acts tried soonMany soonWhich kindMany kindFirst restMany restFirst text lies kind readPart page tr51 book kept isKept triedAbout triedIs gains value seed) := hD.same (MW_ad.trans MW_ad.symm)
          rw [f_X6_wet_l51_s] at hT_51
          refine lv_iload hx hb dX6_wet_51 (lv_at hl 0 rfl) ?_
          refine lv_bipush (v := (16 : Int32)) hx hb dX6_wet_53 (by decide) ?_
          refine lv_icmp_ge (tgt := 167) hx hb dX6_wet_55 (by decide) (fun c_55 => absurd c_55 (nI_ge (b := 16) (by omega) (by omega))) (fun c_55 => ?_)
          refine lv_iload hx hb dX6_wet_58 (lv_at hl 0 rfl) ?_
          refine lv_iload hx hb dX6_wet_60 (lv_at hl 3 rfl) ?_
          refine lv_iconst (v := (-1 : Int32)) hx hb dX6_wet_62 (by decide) ?_
          refine lv_ixor hx hb dX6_wet_63 ?_
          refine lv_iand hx hb dX6_wet_64 ?_
          refine lv_if_ne (tgt := 161) hx hb dX6_wet_65 (by decide) (fun c_65 => ?_) (fun c_65 => ?_)
          · rw [if_neg c_65] at hT_51
            refine lv_iinc (v := (nI (i_51 + 1))) (lv' := [(7, .int (nI (i_51 + 1))), (6, .int up51), (5, .int (f_X6_many (f_X6_columnsWith page))), (4, .int (f_X6_columnsWith page)), (0, .ref (q 0)), (1, .int a1), (2, .int a2), (3, .int a3)]) hx hb dX6_wet_161 hl (k := 0) rfl (nI_up i_51) (by decide) rfl (fun ls hl => ?_)
            refine lv_goto (tgt := 51) hx hb dX6_wet_164 (by decide) ?_
            exact ih_51 (i_51 + 1) up51 tr51 ls _ _ (by omega) hT_51 (lv_sub hl [0, 1, 2, 3, 4, 5, 6, 7] rfl) hP hS
          · rw [if_pos c_65] at hT_51
            refine lv_aload_n hx hb dX6_wet_68 rfl (lv_at hl 4 rfl) ?_
            refine vWrV (b := (q 0)) (As := []) (rest := []) hF (c_X6_begin l D cI cZ q (0 : Int32) textSize place stock (nI n) readStock readCells readParts acts tried soonMany soonWhich kindMany kindFirst restMany restFirst text lies kind readPart page tr51 book kept isKept triedAbout triedIs gains value seed) (gdV tm_3_137 tm_3_139 tp_13 tm_1_6 tm_3_140) de_X6_begin ⟨Nat.le_of_ble_eq_true rfl, Nat.le_of_ble_eq_true rfl⟩ hP hK (va_recv hK hP (ci := 5) (q0 := 0) rfl MW_0) hl.1 rfl (Nat.le_of_ble_eq_true rfl) dX6_wet_69 ⟨Nat.zero_le _, Nat.zero_le _⟩ hD hS (fun H locs hP hS => ?_)
            have hP : va_P D vwCl (MW cI cZ q (0 : Int32) textSize place stock (nI n) readStock readCells readParts acts tried soonMany soonWhich kindMany kindFirst restMany restFirst text lies kind readPart page (f_X6_begin page tr51) book kept isKept triedAbout triedIs gains value seed) H := hP
            have hD : va_D A (MW cI cZ q (0 : Int32) textSize place stock (nI n) readStock readCells readParts acts tried soonMany soonWhich kindMany kindFirst restMany restFirst text lies kind readPart page (f_X6_begin page tr51) book kept isKept triedAbout triedIs gains value seed) := hD.same (MW_ad.trans MW_ad.symm)
            refine lv_iconst (v := (0 : Int32)) hx hb dX6_wet_72 (by decide) ?_
            refine lv_istore (lv' := [(8, .int (0 : Int32)), (7, .int (nI i_51)), (6, .int up51), (5, .int (f_X6_many (f_X6_columnsWith page))), (4, .int (f_X6_columnsWith page)), (0, .ref (q 0)), (1, .int a1), (2, .int a2), (3, .int a3)]) hx hb dX6_wet_73 hl (by decide) rfl (fun ls hl => ?_)
            obtain ⟨T_75, hT_75⟩ : ∃ z, f_X6_wet_l75 i_51 4 0 (f_X6_begin page tr51) = z := ⟨_, rfl⟩
            rw [hT_75] at hT_51
            have key_75 : ∀ (d_75 i_75 : Nat) (tr75 : Nat → Int32) (ls : Array Slot) (H : Heap) (locs : List Loc), i_75 + d_75 = 4 → f_X6_wet_l75 i_51 d_75 i_75 tr75 = T_75 → lv_has ls 9 [(8, .int (nI i_75)), (7, .int (nI i_51)), (6, .int up51), (5, .int (f_X6_many (f_X6_columnsWith page))), (4, .int (f_X6_columnsWith page)), (0, .ref (q 0)), (1, .int a1), (2, .int a2), (3, .int a3)] → va_P D vwCl (MW cI cZ q (0 : Int32) textSize place stock (nI n) readStock readCells readParts acts tried soonMany soonWhich kindMany kindFirst restMany restFirst text lies kind readPart page tr75 book kept isKept triedAbout triedIs gains value seed) H → va_S A s.heap H locs → W p l e (rmO 6 142) s m args below meth c H locs 0 0 Q (F0 m 75 ls []) := by
              intro d_75
              induction d_75 with
              | zero =>
                intro i_75 tr75 ls H locs hi_75 hT_75 hl hP hS
                have hD : va_D A (MW cI cZ q (0 : Int32) textSize place stock (nI n) readStock readCells readParts acts tried soonMany soonWhich kindMany kindFirst restMany restFirst text lies kind readPart page tr75 book kept isKept triedAbout triedIs gains value seed) := hD.same (MW_ad.trans MW_ad.symm)
                rw [f_X6_wet_l75_z] at hT_75
                refine lv_iload hx hb dX6_wet_75 (lv_at hl 0 rfl) ?_
                refine lv_iconst (v := (4 : Int32)) hx hb dX6_wet_77 (by decide) ?_
                refine lv_icmp_ge (tgt := 104) hx hb dX6_wet_78 (by decide) (fun c_78 => ?_) (fun c_78 => absurd (nI_le (a := 4) (by omega) (by omega)) c_78)
                subst hT_75
                try dsimp only at hT_51
                refine lv_aload_n hx hb dX6_wet_104 rfl (lv_at hl 5 rfl) ?_
                refine lv_aload_n hx hb dX6_wet_105 rfl (lv_at hl 5 rfl) ?_
                refine va_get (D := D) (ci := 5) (v := .ref (q 6)) (C := RX6) (T := TX6) (N := 30) hx hb hts tbX6 hown hK hP 0 MW_0 rfl 13 (by decide) (hts _ tm_3_14) (fun _ h9 => h9) rfl dX6_wet_106 ?_
                refine vWrI (b := (q 0)) (As := [.ref (q 6)]) (rest := []) hF (c_X6_settle_trial l D cI cZ q (0 : Int32) textSize place stock n readStock readCells readParts acts tried soonMany soonWhich kindMany kindFirst restMany restFirst text lies kind readPart page tr75 book kept isKept triedAbout triedIs gains value seed hn7 cl hcl) (gdV tm_3_141 tm_3_143 tp_14 tm_1_6 tm_3_144) de_X6_settle ⟨Nat.le_of_ble_eq_true rfl, Nat.le_of_ble_eq_true rfl⟩ hP hK (va_recv hK hP (ci := 5) (q0 := 0) rfl MW_0) hl.1 rfl (Nat.le_of_ble_eq_true rfl) dX6_wet_109 ⟨Nat.zero_le _, Nat.zero_le _⟩ hD hS (fun H locs hP hS => ?_)
                have hP : va_P D vwCl (MW cI cZ q (0 : Int32) textSize place stock (nI n) readStock readCells readParts acts tried soonMany soonWhich kindMany kindFirst restMany restFirst text lies kind readPart page (f_X6_settle cl n lies kind tr75).2 book kept isKept triedAbout triedIs gains value seed) H := hP
                have hD : va_D A (MW cI cZ q (0 : Int32) textSize place stock (nI n) readStock readCells readParts acts tried soonMany soonWhich kindMany kindFirst restMany restFirst text lies kind readPart page (f_X6_settle cl n lies kind tr75).2 book kept isKept triedAbout triedIs gains value seed) := hD.same (MW_ad.trans MW_ad.symm)
                refine lv_pop hx hb dX6_wet_112 rfl ?_
                refine lv_iload hx hb dX6_wet_113 (lv_at hl 1 rfl) ?_
                refine sRdI (As := [.int (nI i_51)]) (rest := []) hF (c_X6_many l D cI cZ q (nI i_51)) (gdS tm_3_171 tm_3_172 tm_1_6 tm_3_173) de_X6_many ⟨Nat.le_of_ble_eq_true rfl, Nat.le_of_ble_eq_true rfl⟩ va_P_nil hK hl.1 rfl (Nat.le_of_ble_eq_true rfl) dX6_wet_115 ⟨Nat.zero_le _, Nat.zero_le _⟩ ?_
                refine lv_istore (lv' := [(8, .int (f_X6_many (nI i_51))), (7, .int (nI i_51)), (6, .int up51), (5, .int (f_X6_many (f_X6_columnsWith page))), (4, .int (f_X6_columnsWith page)), (0, .ref (q 0)), (1, .int a1), (2, .int a2), (3, .int a3)]) hx hb dX6_wet_118 hl (by decide) rfl (fun ls hl => ?_)
                refine lv_iload hx hb dX6_wet_120 (lv_at hl 2 rfl) ?_
                refine lv_aload_n hx hb dX6_wet_122 rfl (lv_at hl 5 rfl) ?_
                refine va_get (D := D) (ci := 5) (v := .ref (q 6)) (C := RX6) (T := TX6) (N := 30) hx hb hts tbX6 hown hK hP 0 MW_0 rfl 13 (by decide) (hts _ tm_3_14) (fun _ h9 => h9) rfl dX6_wet_123 ?_
                refine lv_iconst (v := (5 : Int32)) hx hb dX6_wet_126 (by decide) ?_
                refine va_iald hx hb hK hP 6 0 MW_6 rfl (vp_in_nI (n := 5) (by decide) (by decide)) dX6_wet_127 ?_
                refine lv_rw (z := ((f_X6_settle cl n lies kind tr75).2 5)) (congrArg (f_X6_settle cl n lies kind tr75).2 cl_5) ?_
                refine sRdI (As := [.int ((f_X6_settle cl n lies kind tr75).2 5)]) (rest := [.int up51]) hF (c_X6_many l D cI cZ q ((f_X6_settle cl n lies kind tr75).2 5)) (gdS tm_3_171 tm_3_172 tm_1_6 tm_3_173) de_X6_many ⟨Nat.le_of_ble_eq_true rfl, Nat.le_of_ble_eq_true rfl⟩ va_P_nil hK hl.1 rfl (Nat.le_of_ble_eq_true rfl) dX6_wet_128 ⟨Nat.zero_le _, Nat.zero_le _⟩ ?_
                refine lv_iload_n hx hb dX6_wet_131 rfl (lv_at hl 6 rfl) ?_
                refine lv_icmp_lt (tgt := 157) hx hb dX6_wet_132 (by decide) (fun c_132 => ?_) (fun c_132 => ?_)
                · rw [if_pos c_132] at hT_51
                  refine lv_iconst (v := (0 : Int32)) hx hb dX6_wet_157 (by decide) ?_
                  refine lv_iadd hx hb dX6_wet_158 ?_
                  refine lv_istore (lv' := [(6, .int (up51 + (0 : Int32))), (8, .int (f_X6_many (nI i_51))), (7, .int (nI i_51)), (5, .int (f_X6_many (f_X6_columnsWith page))), (4, .int (f_X6_columnsWith page)), (0, .ref (q 0)), (1, .int a1), (2, .int a2), (3, .int a3)]) hx hb dX6_wet_159 hl (by decide) rfl (fun ls hl => ?_)
                  refine lv_iinc (v := (nI (i_51 + 1))) (lv' := [(7, .int (nI (i_51 + 1))), (6, .int (up51 + (0 : Int32))), (8, .int (f_X6_many (nI i_51))), (5, .int (f_X6_many (f_X6_columnsWith page))), (4, .int (f_X6_columnsWith page)), (0, .ref (q 0)), (1, .int a1), (2, .int a2), (3, .int a3)]) hx hb dX6_wet_161 hl (k := 2) rfl (nI_up i_51) (by decide) rfl (fun ls hl => ?_)
                  refine lv_goto (tgt := 51) hx hb dX6_wet_164 (by decide) ?_
                  exact ih_51 (i_51 + 1) (up51 + (0 : Int32)) (f_X6_settle cl n lies kind tr75).2 ls _ _ (by omega) hT_51 (lv_sub hl [0, 1, 3, 4, 5, 6, 7, 8] rfl) hP hS
                · rw [if_neg c_132] at hT_51
                  refine lv_iload_n hx hb dX6_wet_135 rfl (lv_at hl 7 rfl) ?_
                  refine lv_iload hx hb dX6_wet_136 (lv_at hl 0 rfl) ?_
                  refine sRdI (As := [.int a2, .int (f_X6_many (nI i_51))]) (rest := [.int up51]) hF (c_X6_power l D cI cZ q a2 (f_X6_many (nI i_51)) (many_lt _)) (gdS tm_3_238 tm_3_239 tm_1_6 tm_4_0) de_X6_power ⟨Nat.le_of_ble_eq_true rfl, Nat.le_of_ble_eq_true rfl⟩ va_P_nil hK hl.1 rfl (Nat.le_of_ble_eq_true rfl) dX6_wet_138 ⟨Nat.zero_le _, Nat.zero_le _⟩ ?_
                  refine lv_bipush (v := (10 : Int32)) hx hb dX6_wet_141 (by decide) ?_
                  refine lv_iload_n hx hb dX6_wet_143 rfl (lv_at hl 7 rfl) ?_
                  refine lv_isub hx hb dX6_wet_144 ?_
                  refine lv_iload hx hb dX6_wet_145 (lv_at hl 3 rfl) ?_
                  refine lv_iload hx hb dX6_wet_147 (lv_at hl 0 rfl) ?_
                  refine lv_isub hx hb dX6_wet_149 ?_
                  refine sRdI (As := [.int ((10 : Int32) - a2), .int ((f_X6_many (f_X6_columnsWith page)) - (f_X6_many (nI i_51)))]) (rest := [.int (f_X6_power a2 (f_X6_many (nI i_51))), .int up51]) hF (c_X6_power l D cI cZ q ((10 : Int32) - a2) ((f_X6_many (f_X6_columnsWith page)) - (f_X6_many (nI i_51))) (many_sub2 _ _)) (gdS tm_3_238 tm_3_239 tm_1_6 tm_4_0) de_X6_power ⟨Nat.le_of_ble_eq_true rfl, Nat.le_of_ble_eq_true rfl⟩ va_P_nil hK hl.1 rfl (Nat.le_of_ble_eq_true rfl) dX6_wet_150 ⟨Nat.zero_le _, Nat.zero_le _⟩ ?_
                  refine lv_imul hx hb dX6_wet_153 ?_
                  refine lv_goto (tgt := 158) hx hb dX6_wet_154 (by decide) ?_
                  refine lv_iadd hx hb dX6_wet_158 ?_
                  refine lv_istore (lv' := [(6, .int (up51 + ((f_X6_power a2 (f_X6_many (nI i_51))) * (f_X6_power ((10 : Int32) - a2) ((f_X6_many (f_X6_columnsWith page)) - (f_X6_many (nI i_51))))))), (8, .int (f_X6_many (nI i_51))), (7, .int (nI i_51)), (5, .int (f_X6_many (f_X6_columnsWith page))), (4, .int (f_X6_columnsWith page)), (0, .ref (q 0)), (1, .int a1), (2, .int a2), (3, .int a3)]) hx hb dX6_wet_159 hl (by decide) rfl (fun ls hl => ?_)
                  refine lv_iinc (v := (nI (i_51 + 1))) (lv' := [(7, .int (nI (i_51 + 1))), (6, .int (up51 + ((f_X6_power a2 (f_X6_many (nI i_51))) * (f_X6_power ((10 : Int32) - a2) ((f_X6_many (f_X6_columnsWith page)) - (f_X6_many (nI i_51))))))), (8, .int (f_X6_many (nI i_51))), (5, .int (f_X6_many (f_X6_columnsWith page))), (4, .int (f_X6_columnsWith page)), (0, .ref (q 0)), (1, .int a1), (2, .int a2), (3, .int a3)]) hx hb dX6_wet_161 hl (k := 2) rfl (nI_up i_51) (by decide) rfl (fun ls hl => ?_)
                  refine lv_goto (tgt := 51) hx hb dX6_wet_164 (by decide) ?_
                  exact ih_51 (i_51 + 1) (up51 + ((f_X6_power a2 (f_X6_many (nI i_51))) * (f_X6_power ((10 : Int32) - a2) ((f_X6_many (f_X6_columnsWith page)) - (f_X6_many (nI i_51)))))) (f_X6_settle cl n lies kind tr75).2 ls _ _ (by omega) hT_51 (lv_sub hl [0, 1, 3, 4, 5, 6, 7, 8] rfl) hP hS
              | succ d_75 ih_75 =>
                intro i_75 tr75 ls H locs hi_75 hT_75 hl hP hS
                have hD : va_D A (MW cI cZ q (0 : Int32) textSize place stock (nI n) readStock readCells readParts acts tried soonMany soonWhich kindMany kindFirst restMany restFirst text lies kind readPart page tr75 book kept isKept triedAbout triedIs gains value seed) := hD.same (MW_ad.trans MW_ad.symm)
                rw [f_X6_wet_l75_s] at hT_75
                refine lv_iload hx hb dX6_wet_75 (lv_at hl 0 rfl) ?_
                refine lv_iconst (v := (4 : Int32)) hx hb dX6_wet_77 (by decide) ?_
                refine lv_icmp_ge (tgt := 104) hx hb dX6_wet_78 (by decide) (fun c_78 => absurd c_78 (nI_ge (b := 4) (by omega) (by omega))) (fun c_78 => ?_)
                refine lv_aload_n hx hb dX6_wet_81 rfl (lv_at hl 5 rfl) ?_
                refine va_get (D := D) (ci := 5) (v := .ref (q 6)) (C := RX6) (T := TX6) (N := 30) hx hb hts tbX6 hown hK hP 0 MW_0 rfl 13 (by decide) (hts _ tm_3_14) (fun _ h9 => h9) rfl dX6_wet_82 ?_
                refine lv_iload hx hb dX6_wet_85 (lv_at hl 0 rfl) ?_
                refine lv_dup2_11 hx hb dX6_wet_87 rfl rfl ?_
                refine va_iald hx hb hK hP 6 0 MW_6 rfl (vp_in_nI (show i_75 < 7 by omega) (by omega)) dX6_wet_88 ?_
                refine lv_rw (z := (tr75 i_75)) (congrArg tr75 (nI_clamp (show i_75 < 2 ^ 31 by omega))) ?_
                refine lv_iload hx hb dX6_wet_89 (lv_at hl 1 rfl) ?_
                refine lv_iload hx hb dX6_wet_91 (lv_at hl 0 rfl) ?_
                refine lv_ishr hx hb dX6_wet_93 ?_
                refine lv_rw (z := (shr (nI i_51) (nI i_75))) rfl ?_
                refine lv_iconst (v := (1 : Int32)) hx hb dX6_wet_94 (by decide) ?_
                refine lv_iand hx hb dX6_wet_95 ?_
                refine lv_isub hx hb dX6_wet_96 ?_
                refine va_iast hx hb hK hP hD hS 6 0 MW_6 rfl (vp_in_nI (show i_75 < 7 by omega) (by omega)) dX6_wet_97 (fun H locs hP _ hS => ?_)
                have hP : va_P D vwCl (MW cI cZ q (0 : Int32) textSize place stock (nI n) readStock readCells readParts acts tried soonMany soonWhich kindMany kindFirst restMany restFirst text lies kind readPart page (upd tr75 (nI i_75).toNatClampNeg ((tr75 i_75) - ((shr (nI i_51) (nI i_75)) &&& (1 : Int32)))) book kept isKept triedAbout triedIs gains value seed) H := hP
                rw [(nI_clamp (show i_75 < 2 ^ 31 by omega))] at hP
                have hD : va_D A (MW cI cZ q (0 : Int32) textSize place stock (nI n) readStock readCells readParts acts tried soonMany soonWhich kindMany kindFirst restMany restFirst text lies kind readPart page (upd tr75 i_75 ((tr75 i_75) - ((shr (nI i_51) (nI i_75)) &&& (1 : Int32)))) book kept isKept triedAbout triedIs gains value seed) := hD.same (MW_ad.trans MW_ad.symm)
                refine lv_iinc (v := (nI (i_75 + 1))) (lv' := [(8, .int (nI (i_75 + 1))), (7, .int (nI i_51)), (6, .int up51), (5, .int (f_X6_many (f_X6_columnsWith page))), (4, .int (f_X6_columnsWith page)), (0, .ref (q 0)), (1, .int a1), (2, .int a2), (3, .int a3)]) hx hb dX6_wet_98 hl (k := 0) rfl (nI_up i_75) (by decide) rfl (fun ls hl => ?_)
                refine lv_goto (tgt := 75) hx hb dX6_wet_101 (by decide) ?_
                exact ih_75 (i_75 + 1) (upd tr75 i_75 ((tr75 i_75) - ((shr (nI i_51) (nI i_75)) &&& (1 : Int32)))) ls _ _ (by omega) hT_75 (lv_sub hl [0, 1, 2, 3, 4, 5, 6, 7, 8] rfl) hP hS
            exact key_75 4 0 (f_X6_begin page tr51) ls _ _ (by omega) hT_75 (lv_sub hl [0, 1, 2, 3, 4, 5, 6, 7, 8] rfl) hP hS
      exact key_51 16 0 (0 : Int32) trial ls _ _ (by omega) hT_51 (lv_sub hl [0, 1, 2, 3, 4, 5, 6, 7] rfl) hP hS
    · rw [if_pos c_26] at hR
      refine lv_bipush (v := (-2 : Int32)) hx hb dX6_wet_29 (by decide) ?_
      subst hR
      exact fin _ _ _ _ dX6_wet_31 (nar_i _) hP hS
def f_X6_terms_l28 (cl : Nat → Nat) (n : Nat) (lies : Nat → Int32) (kind : Nat → Int32) : Nat → Nat → (Int32) → (Int64) → (Nat → Int32) → (Int32) × (Int64) × (Nat → Int32)
  | 0, i_28, sm28, sd28, tr28 => (sm28, sd28, tr28)
  | d_28 + 1, i_28, sm28, sd28, tr28 => (if (9 : Int32) ≤ (sdX (sdN sd28)) then (if (15 : Int32) ≤ (sdX (sdN sd28)) then (idd (f_X6_terms_l28 cl n lies kind d_28 (i_28 + 1) (sm28 + (f_X6_many ((f_X6_does cl n lies kind tr28 (300 : Int32)).2 5))) (sdN sd28) (f_X6_does cl n lies kind tr28 (300 : Int32)).2)) else (idd (f_X6_terms_l28 cl n lies kind d_28 (i_28 + 1) (sm28 + (f_X6_many ((f_X6_does cl n lies kind tr28 ((200 : Int32) + (jr (sdX (sdN sd28)) (4 : Int32)))).2 5))) (sdN sd28) (f_X6_does cl n lies kind tr28 ((200 : Int32) + (jr (sdX (sdN sd28)) (4 : Int32)))).2))) else (idd (f_X6_terms_l28 cl n lies kind d_28 (i_28 + 1) (sm28 + (f_X6_many ((f_X6_does cl n lies kind tr28 ((100 : Int32) + (jr (sdX (sdN sd28)) (4 : Int32)))).2 5))) (sdN sd28) (f_X6_does cl n lies kind tr28 ((100 : Int32) + (jr (sdX (sdN sd28)) (4 : Int32)))).2)))
theorem f_X6_terms_l28_z {cl : Nat → Nat} {n : Nat} {lies : Nat → Int32} {kind : Nat → Int32} {i_28 : Nat} {sm28 : Int32} {sd28 : Int64} {tr28 : Nat → Int32} : f_X6_terms_l28 cl n lies kind 0 i_28 sm28 sd28 tr28 = (sm28, sd28, tr28) := by rw [f_X6_terms_l28]
theorem f_X6_terms_l28_s {cl : Nat → Nat} {n : Nat} {lies : Nat → Int32} {kind : Nat → Int32} {d_28 : Nat} {i_28 : Nat} {sm28 : Int32} {sd28 : Int64} {tr28 : Nat → Int32} : f_X6_terms_l28 cl n lies kind (d_28 + 1) i_28 sm28 sd28 tr28 = (if (9 : Int32) ≤ (sdX (sdN sd28)) then (if (15 : Int32) ≤ (sdX (sdN sd28)) then (idd (f_X6_terms_l28 cl n lies kind d_28 (i_28 + 1) (sm28 + (f_X6_many ((f_X6_does cl n lies kind tr28 (300 : Int32)).2 5))) (sdN sd28) (f_X6_does cl n lies kind tr28 (300 : Int32)).2)) else (idd (f_X6_terms_l28 cl n lies kind d_28 (i_28 + 1) (sm28 + (f_X6_many ((f_X6_does cl n lies kind tr28 ((200 : Int32) + (jr (sdX (sdN sd28)) (4 : Int32)))).2 5))) (sdN sd28) (f_X6_does cl n lies kind tr28 ((200 : Int32) + (jr (sdX (sdN sd28)) (4 : Int32)))).2))) else (idd (f_X6_terms_l28 cl n lies kind d_28 (i_28 + 1) (sm28 + (f_X6_many ((f_X6_does cl n lies kind tr28 ((100 : Int32) + (jr (sdX (sdN sd28)) (4 : Int32)))).2 5))) (sdN sd28) (f_X6_does cl n lies kind tr28 ((100 : Int32) + (jr (sdX (sdN sd28)) (4 : Int32)))).2))) := by rw [f_X6_terms_l28]
def f_X6_terms (cl : Nat → Nat) (n : Nat) (lies : Nat → Int32) (kind : Nat → Int32) (page : Nat → Int32) (trial : Nat → Int32) (seed : Int64) (a1 : Int32) : (Int32) × (Int32) × (Nat → Int32) × (Int64) := (if (f_X6_in a1.toInt64 (1 : Int64) (30 : Int64)) = (0 : Int32) then ((-2 : Int32), (0 : Int32), trial, seed) else ((f_X6_terms_l28 cl n lies kind a1.toNatClampNeg 0 (0 : Int32) seed (f_X6_begin page trial)).1, (0 : Int32), (f_X6_terms_l28 cl n lies kind a1.toNatClampNeg 0 (0 : Int32) seed (f_X6_begin page trial)).2.2, (f_X6_terms_l28 cl n lies kind a1.toNatClampNeg 0 (0 : Int32) seed (f_X6_begin page trial)).2.1))
set_option maxHeartbeats 4000000 in
set_option maxRecDepth 100000 in
theorem c_X6_terms (l : Launch) (D : va_G) (cI cZ : ClassId) (q : Nat → Nat) (thrown : Int32) (textSize : Int32) (place : Int32) (stock : Int32) (n : Nat) (readStock : Int32) (readCells : Int32) (readParts : Int32) (acts : Int32) (tried : Int32) (soonMany : Int32) (soonWhich : Int32) (kindMany : Int32) (kindFirst : Int32) (restMany : Int32) (restFirst : Int32) (text lies kind readPart page trial book kept isKept triedAbout triedIs gains value : Nat → Int32) (seed : Int64) (a1 : Int32) (hn7 : n ≤ 7) (cl : Nat → Nat) (hcl : ∀ j, j < 7 → lies j = nI (cl j) ∧ cl j < 16) : WrI l yX6_terms cX6_terms 5 .int 9 210 D (tyL cI cZ) (MW cI cZ q thrown textSize place stock (nI n) readStock readCells readParts acts tried soonMany soonWhich kindMany kindFirst restMany restFirst text lies kind readPart page trial book kept isKept triedAbout triedIs gains value seed) [.ref (q 0), .int a1] (f_X6_terms cl n lies kind page trial seed a1).1 (MW cI cZ q (f_X6_terms cl n lies kind page trial seed a1).2.1 textSize place stock (nI n) readStock readCells readParts acts tried soonMany soonWhich kindMany kindFirst restMany restFirst text lies kind readPart page (f_X6_terms cl n lies kind page trial seed a1).2.2.1 book kept isKept triedAbout triedIs gains value (f_X6_terms cl n lies kind page trial seed a1).2.2.2) := by
  refine WrI.of (by decide) (Nat.le_of_ble_eq_true rfl) ?_
  intro p e s m args below meth c Q A hx hb hml hown hts hP hK hD hS fin ls hl
  have hown : s.vm.findClass RX6 = some m.cls := hown
  have hF : CallFix p m c cX6_terms 5 s args tb RX6 := ⟨hx, hb, hml, hown, hts⟩
  have hl : lv_has ls 5 [(0, .ref (q 0)), (1, .int a1)] := hl
  generalize hR : (f_X6_terms cl n lies kind page trial seed a1) = R at fin
  unfold f_X6_terms at hR
  refine lv_aload_n hx hb dX6_terms_0 rfl (lv_at hl 0 rfl) ?_
  refine lv_iconst (v := (0 : Int32)) hx hb dX6_terms_1 (by decide) ?_
  refine va_put (D := D) (ci := 5) (v := .int (0 : Int32)) (ty := .int) (C := RX6) (T := TX6) (N := 30) hx hb hts tbX6 tyX6 tyX6_ok nmX6 hown hK hP hD hS 0 MW_0 rfl 0 (by decide) (hts _ tm_3_1) (fun _ h9 => h9) rfl (by decide +kernel) rfl rfl (Nat.le_of_ble_eq_true rfl) dX6_terms_2 (fun H locs hP _ hS => ?_)
  have hP : va_P D vwCl (MW cI cZ q (0 : Int32) textSize place stock (nI n) readStock readCells readParts acts tried soonMany soonWhich kindMany kindFirst restMany restFirst text lies kind readPart page trial book kept isKept triedAbout triedIs gains value seed) H := hP
  have hD : va_D A (MW cI cZ q (0 : Int32) textSize place stock (nI n) readStock readCells readParts acts tried soonMany soonWhich kindMany kindFirst restMany restFirst text lies kind readPart page trial book kept isKept triedAbout triedIs gains value seed) := hD.same (MW_ad.trans MW_ad.symm)
  refine lv_iload_n hx hb dX6_terms_5 rfl (lv_at hl 1 rfl) ?_
  refine lv_i2l (v := a1.toInt64) hx hb dX6_terms_6 rfl ?_
  refine lv_lconst (v := (1 : Int64)) hx hb dX6_terms_7 (by decide) ?_
  refine lv_ldc2 (v := (30 : Int64)) hx hb hown (hts _ tm_4_78) dX6_terms_8 ?_
  refine sRdI (As := [.long a1.toInt64, .long (1 : Int64), .long (30 : Int64)]) (rest := []) hF (c_X6_in l D cI cZ q a1.toInt64 (1 : Int64) (30 : Int64)) (gdS tm_3_97 tm_3_98 tm_1_6 tm_3_99) de_X6_in ⟨Nat.le_of_ble_eq_true rfl, Nat.le_of_ble_eq_true rfl⟩ va_P_nil hK hl.1 rfl (Nat.le_of_ble_eq_true rfl) dX6_terms_11 ⟨Nat.zero_le _, Nat.zero_le _⟩ ?_
  refine lv_if_ne (tgt := 20) hx hb dX6_terms_14 (by decide) (fun c_14 => ?_) (fun c_14 => ?_)
  · rw [if_neg c_14] at hR
    have hna := in_nI c_14 (by decide)
    have hna30 := in_le (n := 30) c_14 (by decide)
    refine lv_aload_n hx hb dX6_terms_20 rfl (lv_at hl 0 rfl) ?_
    refine vWrV (b := (q 0)) (As := []) (rest := []) hF (c_X6_begin l D cI cZ q (0 : Int32) textSize place stock (nI n) readStock readCells readParts acts tried soonMany soonWhich kindMany kindFirst restMany restFirst text lies kind readPart page trial book kept isKept triedAbout triedIs gains value seed) (gdV tm_3_137 tm_3_139 tp_13 tm_1_6 tm_3_140) de_X6_begin ⟨Nat.le_of_ble_eq_true rfl, Nat.le_of_ble_eq_true rfl⟩ hP hK (va_recv hK hP (ci := 5) (q0 := 0) rfl MW_0) hl.1 rfl (Nat.le_of_ble_eq_true rfl) dX6_terms_21 ⟨Nat.zero_le _, Nat.zero_le _⟩ hD hS (fun H locs hP hS => ?_)
    have hP : va_P D vwCl (MW cI cZ q (0 : Int32) textSize place stock (nI n) readStock readCells readParts acts tried soonMany soonWhich kindMany kindFirst restMany restFirst text lies kind readPart page (f_X6_begin page trial) book kept isKept triedAbout triedIs gains value seed) H := hP
    have hD : va_D A (MW cI cZ q (0 : Int32) textSize place stock (nI n) readStock readCells readParts acts tried soonMany soonWhich kindMany kindFirst restMany restFirst text lies kind readPart page (f_X6_begin page trial) book kept isKept triedAbout triedIs gains value seed) := hD.same (MW_ad.trans MW_ad.symm)
    refine lv_iconst (v := (0 : Int32)) hx hb dX6_terms_24 (by decide) ?_
    refine lv_istore_n (lv' := [(2, .int (0 : Int32)), (0, .ref (q 0)), (1, .int a1)]) hx hb dX6_terms_25 rfl hl (by decide) rfl (fun ls hl => ?_)
    refine lv_iconst (v := (0 : Int32)) hx hb dX6_terms_26 (by decide) ?_
    refine lv_istore_n (lv' := [(3, .int (0 : Int32)), (2, .int (0 : Int32)), (0, .ref (q 0)), (1, .int a1)]) hx hb dX6_terms_27 rfl hl (by decide) rfl (fun ls hl => ?_)
    obtain ⟨T_28, hT_28⟩ : ∃ z, f_X6_terms_l28 cl n lies kind a1.toNatClampNeg 0 (0 : Int32) seed (f_X6_begin page trial) = z := ⟨_, rfl⟩
    rw [hT_28] at hR
    have key_28 : ∀ (d_28 i_28 : Nat) (sm28 : Int32) (sd28 : Int64) (tr28 : Nat → Int32) (ls : Array Slot) (H : Heap) (locs : List Loc), i_28 + d_28 = a1.toNatClampNeg → f_X6_terms_l28 cl n lies kind d_28 i_28 sm28 sd28 tr28 = T_28 → lv_has ls 5 [(3, .int (nI i_28)), (2, .int sm28), (0, .ref (q 0)), (1, .int a1)] → va_P D vwCl (MW cI cZ q (0 : Int32) textSize place stock (nI n) readStock readCells readParts acts tried soonMany soonWhich kindMany kindFirst restMany restFirst text lies kind readPart page tr28 book kept isKept triedAbout triedIs gains value sd28) H → va_S A s.heap H locs → W p l e (rmO 9 210) s m args below meth c H locs 0 0 Q (F0 m 28 ls []) := by
      intro d_28
      induction d_28 with
      | zero =>
        intro i_28 sm28 sd28 tr28 ls H locs hi_28 hT_28 hl hP hS
        have hD : va_D A (MW cI cZ q (0 : Int32) textSize place stock (nI n) readStock readCells readParts acts tried soonMany soonWhich kindMany kindFirst restMany restFirst text lies kind readPart page tr28 book kept isKept triedAbout triedIs gains value sd28) := hD.same (MW_ad.trans MW_ad.symm)
        rw [f_X6_terms_l28_z] at hT_28
        refine lv_iload_n hx hb dX6_terms_28 rfl (lv_at hl 0 rfl) ?_
        refine lv_iload_n hx hb dX6_terms_29 rfl (lv_at hl 3 rfl) ?_
        refine lv_icmp_ge (tgt := 124) hx hb dX6_terms_30 (by decide) (fun c_30 => ?_) (fun c_30 => absurd (by rw [hna]; exact nI_le  (by omega) (by omega)) c_30)
        subst hT_28
        try dsimp only at hR
        refine lv_iload_n hx hb dX6_terms_124 rfl (lv_at hl 1 rfl) ?_
        subst hR
        exact fin _ _ _ _ dX6_terms_125 (nar_i _) hP hS
      | succ d_28 ih_28 =>
        intro i_28 sm28 sd28 tr28 ls H locs hi_28 hT_28 hl hP hS
        have hD : va_D A (MW cI cZ q (0 : Int32) textSize place stock (nI n) readStock readCells readParts acts tried soonMany soonWhich kindMany kindFirst restMany restFirst text lies kind readPart page tr28 book kept isKept triedAbout triedIs gains value sd28) := hD.same (MW_ad.trans MW_ad.symm)
        rw [f_X6_terms_l28_s] at hT_28
        refine lv_iload_n hx hb dX6_terms_28 rfl (lv_at hl 0 rfl) ?_
        refine lv_iload_n hx hb dX6_terms_29 rfl (lv_at hl 3 rfl) ?_
        refine lv_icmp_ge (tgt := 124) hx hb dX6_terms_30 (by decide) (fun c_30 => absurd c_30 (by rw [hna]; exact nI_ge  (by omega) (by omega))) (fun c_30 => ?_)
        refine lv_aload_n hx hb dX6_terms_33 rfl (lv_at hl 2 rfl) ?_
        refine lv_aload_n hx hb dX6_terms_34 rfl (lv_at hl 2 rfl) ?_
        refine va_get (D := D) (ci := 5) (v := .long sd28) (C := RX6) (T := TX6) (N := 30) hx hb hts tbX6 hown hK hP 0 MW_0 rfl 21 (by decide) (hts _ tm_3_22) (fun _ h9 => h9) rfl dX6_terms_35 ?_
        refine lv_ldc2 (v := (6364136223846793005 : Int64)) hx hb hown (hts _ tm_4_79) dX6_terms_38 ?_
        refine lv_rwl (z := kA) rfl ?_
        refine lv_lmul hx hb dX6_terms_41 ?_
        refine lv_ldc2 (v := (1442695040888963407 : Int64)) hx hb hown (hts _ tm_4_80) dX6_terms_42 ?_
        refine lv_rwl (z := kB) rfl ?_
        refine lv_ladd hx hb dX6_terms_45 ?_
        refine lv_rwl (z := (sdN sd28)) rfl ?_
        refine va_put (D := D) (ci := 5) (v := .long (sdN sd28)) (ty := .long) (C := RX6) (T := TX6) (N := 30) hx hb hts tbX6 tyX6 tyX6_ok nmX6 hown hK hP hD hS 0 MW_0 rfl 21 (by decide) (hts _ tm_3_22) (fun _ h9 => h9) rfl (by decide +kernel) rfl rfl (Nat.le_of_ble_eq_true rfl) dX6_terms_46 (fun H locs hP _ hS => ?_)
        have hP : va_P D vwCl (MW cI cZ q (0 : Int32) textSize place stock (nI n) readStock readCells readParts acts tried soonMany soonWhich kindMany kindFirst restMany restFirst text lies kind readPart page tr28 book kept isKept triedAbout triedIs gains value (sdN sd28)) H := hP
        have hD : va_D A (MW cI cZ q (0 : Int32) textSize place stock (nI n) readStock readCells readParts acts tried soonMany soonWhich kindMany kindFirst restMany restFirst text lies kind readPart page tr28 book kept isKept triedAbout triedIs gains value (sdN sd28)) := hD.same (MW_ad.trans MW_ad.symm)
        refine lv_aload_n hx hb dX6_terms_49 rfl (lv_at hl 2 rfl) ?_
        refine va_get (D := D) (ci := 5) (v := .long (sdN sd28)) (C := RX6) (T := TX6) (N := 30) hx hb hts tbX6 hown hK hP 0 MW_0 rfl 21 (by decide) (hts _ tm_3_22) (fun _ h9 => h9) rfl dX6_terms_50 ?_
        refine lv_bipush (v := (33 : Int32)) hx hb dX6_terms_53 (by decide) ?_
        refine lv_lushr (v := (ushl (sdN sd28) (33 : Int32))) hx hb dX6_terms_55 rfl ?_
        refine lv_ldc2 (v := (16 : Int64)) hx hb hown (hts _ tm_4_81) dX6_terms_56 ?_
        refine lv_lrem hx hb dX6_terms_59 (by decide) ?_
        refine lv_rwl (z := (jrl (ushl (sdN sd28) (33 : Int32)) (16 : Int64))) rfl ?_
        refine lv_l2i (v := (jrl (ushl (sdN sd28) (33 : Int32)) (16 : Int64)).toInt32) hx hb dX6_terms_60 rfl ?_
        refine lv_rw (z := (sdX (sdN sd28))) rfl ?_
        refine lv_istore (lv' := [(4, .int (sdX (sdN sd28))), (3, .int (nI i_28)), (2, .int sm28), (0, .ref (q 0)), (1, .int a1)]) hx hb dX6_terms_61 hl (by decide) rfl (fun ls hl => ?_)
        refine lv_aload_n hx hb dX6_terms_63 rfl (lv_at hl 3 rfl) ?_
        refine lv_iload hx hb dX6_terms_64 (lv_at hl 0 rfl) ?_
        refine lv_bipush (v := (9 : Int32)) hx hb dX6_terms_66 (by decide) ?_
        refine lv_icmp_ge (tgt := 81) hx hb dX6_terms_68 (by decide) (fun c_68 => ?_) (fun c_68 => ?_)
        · rw [if_pos c_68] at hT_28
          refine lv_iload hx hb dX6_terms_81 (lv_at hl 0 rfl) ?_
          refine lv_bipush (v := (15 : Int32)) hx hb dX6_terms_83 (by decide) ?_
          refine lv_icmp_ge (tgt := 99) hx hb dX6_terms_85 (by decide) (fun c_85 => ?_) (fun c_85 => ?_)
          · rw [if_pos c_85] at hT_28
            refine lv_sipush (v := (300 : Int32)) hx hb dX6_terms_99 (by decide) ?_
            refine vWrI (b := (q 0)) (As := [.int (300 : Int32)]) (rest := []) hF (c_X6_does l D cI cZ q (0 : Int32) textSize place stock n readStock readCells readParts acts tried soonMany soonWhich kindMany kindFirst restMany restFirst text lies kind readPart page tr28 book kept isKept triedAbout triedIs gains value (sdN sd28) (300 : Int32) hn7 cl hcl) (gdV tm_4_14 tm_4_16 tp_27 tm_1_6 tm_4_17) de_X6_does ⟨Nat.le_of_ble_eq_true rfl, Nat.le_of_ble_eq_true rfl⟩ hP hK (va_recv hK hP (ci := 5) (q0 := 0) rfl MW_0) hl.1 rfl (Nat.le_of_ble_eq_true rfl) dX6_terms_102 ⟨Nat.zero_le _, Nat.zero_le _⟩ hD hS (fun H locs hP hS => ?_)
            have hP : va_P D vwCl (MW cI cZ q (0 : Int32) textSize place stock (nI n) readStock readCells readParts acts tried soonMany soonWhich kindMany kindFirst restMany restFirst text lies kind readPart page (f_X6_does cl n lies kind tr28 (300 : Int32)).2 book kept isKept triedAbout triedIs gains value (sdN sd28)) H := hP
            have hD : va_D A (MW cI cZ q (0 : Int32) textSize place stock (nI n) readStock readCells readParts acts tried soonMany soonWhich kindMany kindFirst restMany restFirst text lies kind readPart page (f_X6_does cl n lies kind tr28 (300 : Int32)).2 book kept isKept triedAbout triedIs gains value (sdN sd28)) := hD.same (MW_ad.trans MW_ad.symm)
            refine lv_pop hx hb dX6_terms_105 rfl ?_
            refine lv_iload_n hx hb dX6_terms_106 rfl (lv_at hl 2 rfl) ?_
            refine lv_aload_n hx hb dX6_terms_107 rfl (lv_at hl 3 rfl) ?_
            refine va_get (D := D) (ci := 5) (v := .ref (q 6)) (C := RX6) (T := TX6) (N := 30) hx hb hts tbX6 hown hK hP 0 MW_0 rfl 13 (by decide) (hts _ tm_3_14) (fun _ h9 => h9) rfl dX6_terms_108 ?_
            refine lv_iconst (v := (5 : Int32)) hx hb dX6_terms_111 (by decide) ?_
            refine va_iald hx hb hK hP 6 0 MW_6 rfl (vp_in_nI (n := 5) (by decide) (by decide)) dX6_terms_112 ?_
            refine lv_rw (z := ((f_X6_does cl n lies kind tr28 (300 : Int32)).2 5)) (congrArg (f_X6_does cl n lies kind tr28 (300 : Int32)).2 cl_5) ?_
            refine sRdI (As := [.int ((f_X6_does cl n lies kind tr28 (300 : Int32)).2 5)]) (rest := [.int sm28]) hF (c_X6_many l D cI cZ q ((f_X6_does cl n lies kind tr28 (300 : Int32)).2 5)) (gdS tm_3_171 tm_3_172 tm_1_6 tm_3_173) de_X6_many ⟨Nat.le_of_ble_eq_true rfl, Nat.le_of_ble_eq_true rfl⟩ va_P_nil hK hl.1 rfl (Nat.le_of_ble_eq_true rfl) dX6_terms_113 ⟨Nat.zero_le _, Nat.zero_le _⟩ ?_
            refine lv_iadd hx hb dX6_terms_116 ?_
            refine lv_istore_n (lv' := [(2, .int (sm28 + (f_X6_many ((f_X6_does cl n lies kind tr28 (300 : Int32)).2 5)))), (4, .int (sdX (sdN sd28))), (3, .int (nI i_28)), (0, .ref (q 0)), (1, .int a1)]) hx hb dX6_terms_117 rfl hl (by decide) rfl (fun ls hl => ?_)
            refine lv_iinc (v := (nI (i_28 + 1))) (lv' := [(3, .int (nI (i_28 + 1))), (2, .int (sm28 + (f_X6_many ((f_X6_does cl n lies kind tr28 (300 : Int32)).2 5)))), (4, .int (sdX (sdN sd28))), (0, .ref (q 0)), (1, .int a1)]) hx hb dX6_terms_118 hl (k := 2) rfl (nI_up i_28) (by decide) rfl (fun ls hl => ?_)
            refine lv_goto (tgt := 28) hx hb dX6_terms_121 (by decide) ?_
            rw [idd_eq] at hT_28
            exact ih_28 (i_28 + 1) (sm28 + (f_X6_many ((f_X6_does cl n lies kind tr28 (300 : Int32)).2 5))) (sdN sd28) (f_X6_does cl n lies kind tr28 (300 : Int32)).2 ls _ _ (by omega) hT_28 (lv_sub hl [0, 1, 3, 4] rfl) hP hS
          · rw [if_neg c_85] at hT_28
            refine lv_sipush (v := (200 : Int32)) hx hb dX6_terms_88 (by decide) ?_
            refine lv_iload hx hb dX6_terms_91 (lv_at hl 0 rfl) ?_
            refine lv_iconst (v := (4 : Int32)) hx hb dX6_terms_93 (by decide) ?_
            refine lv_irem hx hb dX6_terms_94 (by decide) ?_
            refine lv_rw (z := (jr (sdX (sdN sd28)) (4 : Int32))) rfl ?_
            refine lv_iadd hx hb dX6_terms_95 ?_
            refine lv_goto (tgt := 102) hx hb dX6_terms_96 (by decide) ?_
            refine vWrI (b := (q 0)) (As := [.int ((200 : Int32) + (jr (sdX (sdN sd28)) (4 : Int32)))]) (rest := []) hF (c_X6_does l D cI cZ q (0 : Int32) textSize place stock n readStock readCells readParts acts tried soonMany soonWhich kindMany kindFirst restMany restFirst text lies kind readPart page tr28 book kept isKept triedAbout triedIs gains value (sdN sd28) ((200 : Int32) + (jr (sdX (sdN sd28)) (4 : Int32))) hn7 cl hcl) (gdV tm_4_14 tm_4_16 tp_27 tm_1_6 tm_4_17) de_X6_does ⟨Nat.le_of_ble_eq_true rfl, Nat.le_of_ble_eq_true rfl⟩ hP hK (va_recv hK hP (ci := 5) (q0 := 0) rfl MW_0) hl.1 rfl (Nat.le_of_ble_eq_true rfl) dX6_terms_102 ⟨Nat.zero_le _, Nat.zero_le _⟩ hD hS (fun H locs hP hS => ?_)
            have hP : va_P D vwCl (MW cI cZ q (0 : Int32) textSize place stock (nI n) readStock readCells readParts acts tried soonMany soonWhich kindMany kindFirst restMany restFirst text lies kind readPart page (f_X6_does cl n lies kind tr28 ((200 : Int32) + (jr (sdX (sdN sd28)) (4 : Int32)))).2 book kept isKept triedAbout triedIs gains value (sdN sd28)) H := hP
            have hD : va_D A (MW cI cZ q (0 : Int32) textSize place stock (nI n) readStock readCells readParts acts tried soonMany soonWhich kindMany kindFirst restMany restFirst text lies kind readPart page (f_X6_does cl n lies kind tr28 ((200 : Int32) + (jr (sdX (sdN sd28)) (4 : Int32)))).2 book kept isKept triedAbout triedIs gains value (sdN sd28)) := hD.same (MW_ad.trans MW_ad.symm)
            refine lv_pop hx hb dX6_terms_105 rfl ?_
            refine lv_iload_n hx hb dX6_terms_106 rfl (lv_at hl 2 rfl) ?_
            refine lv_aload_n hx hb dX6_terms_107 rfl (lv_at hl 3 rfl) ?_
            refine va_get (D := D) (ci := 5) (v := .ref (q 6)) (C := RX6) (T := TX6) (N := 30) hx hb hts tbX6 hown hK hP 0 MW_0 rfl 13 (by decide) (hts _ tm_3_14) (fun _ h9 => h9) rfl dX6_terms_108 ?_
            refine lv_iconst (v := (5 : Int32)) hx hb dX6_terms_111 (by decide) ?_
            refine va_iald hx hb hK hP 6 0 MW_6 rfl (vp_in_nI (n := 5) (by decide) (by decide)) dX6_terms_112 ?_
            refine lv_rw (z := ((f_X6_does cl n lies kind tr28 ((200 : Int32) + (jr (sdX (sdN sd28)) (4 : Int32)))).2 5)) (congrArg (f_X6_does cl n lies kind tr28 ((200 : Int32) + (jr (sdX (sdN sd28)) (4 : Int32)))).2 cl_5) ?_
            refine sRdI (As := [.int ((f_X6_does cl n lies kind tr28 ((200 : Int32) + (jr (sdX (sdN sd28)) (4 : Int32)))).2 5)]) (rest := [.int sm28]) hF (c_X6_many l D cI cZ q ((f_X6_does cl n lies kind tr28 ((200 : Int32) + (jr (sdX (sdN sd28)) (4 : Int32)))).2 5)) (gdS tm_3_171 tm_3_172 tm_1_6 tm_3_173) de_X6_many ⟨Nat.le_of_ble_eq_true rfl, Nat.le_of_ble_eq_true rfl⟩ va_P_nil hK hl.1 rfl (Nat.le_of_ble_eq_true rfl) dX6_terms_113 ⟨Nat.zero_le _, Nat.zero_le _⟩ ?_
            refine lv_iadd hx hb dX6_terms_116 ?_
            refine lv_istore_n (lv' := [(2, .int (sm28 + (f_X6_many ((f_X6_does cl n lies kind tr28 ((200 : Int32) + (jr (sdX (sdN sd28)) (4 : Int32)))).2 5)))), (4, .int (sdX (sdN sd28))), (3, .int (nI i_28)), (0, .ref (q 0)), (1, .int a1)]) hx hb dX6_terms_117 rfl hl (by decide) rfl (fun ls hl => ?_)
            refine lv_iinc (v := (nI (i_28 + 1))) (lv' := [(3, .int (nI (i_28 + 1))), (2, .int (sm28 + (f_X6_many ((f_X6_does cl n lies kind tr28 ((200 : Int32) + (jr (sdX (sdN sd28)) (4 : Int32)))).2 5)))), (4, .int (sdX (sdN sd28))), (0, .ref (q 0)), (1, .int a1)]) hx hb dX6_terms_118 hl (k := 2) rfl (nI_up i_28) (by decide) rfl (fun ls hl => ?_)
            refine lv_goto (tgt := 28) hx hb dX6_terms_121 (by decide) ?_
            rw [idd_eq] at hT_28
            exact ih_28 (i_28 + 1) (sm28 + (f_X6_many ((f_X6_does cl n lies kind tr28 ((200 : Int32) + (jr (sdX (sdN sd28)) (4 : Int32)))).2 5))) (sdN sd28) (f_X6_does cl n lies kind tr28 ((200 : Int32) + (jr (sdX (sdN sd28)) (4 : Int32)))).2 ls _ _ (by omega) hT_28 (lv_sub hl [0, 1, 3, 4] rfl) hP hS
        · rw [if_neg c_68] at hT_28
          refine lv_bipush (v := (100 : Int32)) hx hb dX6_terms_71 (by decide) ?_
          refine lv_iload hx hb dX6_terms_73 (lv_at hl 0 rfl) ?_
          refine lv_iconst (v := (4 : Int32)) hx hb dX6_terms_75 (by decide) ?_
          refine lv_irem hx hb dX6_terms_76 (by decide) ?_
          refine lv_rw (z := (jr (sdX (sdN sd28)) (4 : Int32))) rfl ?_
          refine lv_iadd hx hb dX6_terms_77 ?_
          refine lv_goto (tgt := 102) hx hb dX6_terms_78 (by decide) ?_
          refine vWrI (b := (q 0)) (As := [.int ((100 : Int32) + (jr (sdX (sdN sd28)) (4 : Int32)))]) (rest := []) hF (c_X6_does l D cI cZ q (0 : Int32) textSize place stock n readStock readCells readParts acts tried soonMany soonWhich kindMany kindFirst restMany restFirst text lies kind readPart page tr28 book kept isKept triedAbout triedIs gains value (sdN sd28) ((100 : Int32) + (jr (sdX (sdN sd28)) (4 : Int32))) hn7 cl hcl) (gdV tm_4_14 tm_4_16 tp_27 tm_1_6 tm_4_17) de_X6_does ⟨Nat.le_of_ble_eq_true rfl, Nat.le_of_ble_eq_true rfl⟩ hP hK (va_recv hK hP (ci := 5) (q0 := 0) rfl MW_0) hl.1 rfl (Nat.le_of_ble_eq_true rfl) dX6_terms_102 ⟨Nat.zero_le _, Nat.zero_le _⟩ hD hS (fun H locs hP hS => ?_)
          have hP : va_P D vwCl (MW cI cZ q (0 : Int32) textSize place stock (nI n) readStock readCells readParts acts tried soonMany soonWhich kindMany kindFirst restMany restFirst text lies kind readPart page (f_X6_does cl n lies kind tr28 ((100 : Int32) + (jr (sdX (sdN sd28)) (4 : Int32)))).2 book kept isKept triedAbout triedIs gains value (sdN sd28)) H := hP
          have hD : va_D A (MW cI cZ q (0 : Int32) textSize place stock (nI n) readStock readCells readParts acts tried soonMany soonWhich kindMany kindFirst restMany restFirst text lies kind readPart page (f_X6_does cl n lies kind tr28 ((100 : Int32) + (jr (sdX (sdN sd28)) (4 : Int32)))).2 book kept isKept triedAbout triedIs gains value (sdN sd28)) := hD.same (MW_ad.trans MW_ad.symm)
          refine lv_pop hx hb dX6_terms_105 rfl ?_
          refine lv_iload_n hx hb dX6_terms_106 rfl (lv_at hl 2 rfl) ?_
          refine lv_aload_n hx hb dX6_terms_107 rfl (lv_at hl 3 rfl) ?_
          refine va_get (D := D) (ci := 5) (v := .ref (q 6)) (C := RX6) (T := TX6) (N := 30) hx hb hts tbX6 hown hK hP 0 MW_0 rfl 13 (by decide) (hts _ tm_3_14) (fun _ h9 => h9) rfl dX6_terms_108 ?_
          refine lv_iconst (v := (5 : Int32)) hx hb dX6_terms_111 (by decide) ?_
          refine va_iald hx hb hK hP 6 0 MW_6 rfl (vp_in_nI (n := 5) (by decide) (by decide)) dX6_terms_112 ?_
          refine lv_rw (z := ((f_X6_does cl n lies kind tr28 ((100 : Int32) + (jr (sdX (sdN sd28)) (4 : Int32)))).2 5)) (congrArg (f_X6_does cl n lies kind tr28 ((100 : Int32) + (jr (sdX (sdN sd28)) (4 : Int32)))).2 cl_5) ?_
          refine sRdI (As := [.int ((f_X6_does cl n lies kind tr28 ((100 : Int32) + (jr (sdX (sdN sd28)) (4 : Int32)))).2 5)]) (rest := [.int sm28]) hF (c_X6_many l D cI cZ q ((f_X6_does cl n lies kind tr28 ((100 : Int32) + (jr (sdX (sdN sd28)) (4 : Int32)))).2 5)) (gdS tm_3_171 tm_3_172 tm_1_6 tm_3_173) de_X6_many ⟨Nat.le_of_ble_eq_true rfl, Nat.le_of_ble_eq_true rfl⟩ va_P_nil hK hl.1 rfl (Nat.le_of_ble_eq_true rfl) dX6_terms_113 ⟨Nat.zero_le _, Nat.zero_le _⟩ ?_
          refine lv_iadd hx hb dX6_terms_116 ?_
          refine lv_istore_n (lv' := [(2, .int (sm28 + (f_X6_many ((f_X6_does cl n lies kind tr28 ((100 : Int32) + (jr (sdX (sdN sd28)) (4 : Int32)))).2 5)))), (4, .int (sdX (sdN sd28))), (3, .int (nI i_28)), (0, .ref (q 0)), (1, .int a1)]) hx hb dX6_terms_117 rfl hl (by decide) rfl (fun ls hl => ?_)
          refine lv_iinc (v := (nI (i_28 + 1))) (lv' := [(3, .int (nI (i_28 + 1))), (2, .int (sm28 + (f_X6_many ((f_X6_does cl n lies kind tr28 ((100 : Int32) + (jr (sdX (sdN sd28)) (4 : Int32)))).2 5)))), (4, .int (sdX (sdN sd28))), (0, .ref (q 0)), (1, .int a1)]) hx hb dX6_terms_118 hl (k := 2) rfl (nI_up i_28) (by decide) rfl (fun ls hl => ?_)
          refine lv_goto (tgt := 28) hx hb dX6_terms_121 (by decide) ?_
          rw [idd_eq] at hT_28
          exact ih_28 (i_28 + 1) (sm28 + (f_X6_many ((f_X6_does cl n lies kind tr28 ((100 : Int32) + (jr (sdX (sdN sd28)) (4 : Int32)))).2 5))) (sdN sd28) (f_X6_does cl n lies kind tr28 ((100 : Int32) + (jr (sdX (sdN sd28)) (4 : Int32)))).2 ls _ _ (by omega) hT_28 (lv_sub hl [0, 1, 3, 4] rfl) hP hS
    exact key_28 a1.toNatClampNeg 0 (0 : Int32) seed (f_X6_begin page trial) ls _ _ (by omega) hT_28 (lv_sub hl [0, 1, 2, 3] rfl) hP hS
  · rw [if_pos c_14] at hR
    refine lv_bipush (v := (-2 : Int32)) hx hb dX6_terms_17 (by decide) ?_
    subst hR
    exact fin _ _ _ _ dX6_terms_19 (nar_i _) hP hS
def f_X6_keep_l26 (page : Nat → Int32) (a1 : Int32) : Nat → Nat → (Nat → Int32) → Nat → Int32
  | 0, i_26, kp26 => kp26
  | d_26 + 1, i_26, kp26 => (f_X6_keep_l26 page a1 d_26 (i_26 + 1) (upd kp26 (7 * a1.toNatClampNeg + i_26) (page i_26)))
theorem f_X6_keep_l26_z {page : Nat → Int32} {a1 : Int32} {i_26 : Nat} {kp26 : Nat → Int32} : f_X6_keep_l26 page a1 0 i_26 kp26 = kp26 := by rw [f_X6_keep_l26]
theorem f_X6_keep_l26_s {page : Nat → Int32} {a1 : Int32} {d_26 : Nat} {i_26 : Nat} {kp26 : Nat → Int32} : f_X6_keep_l26 page a1 (d_26 + 1) i_26 kp26 = (f_X6_keep_l26 page a1 d_26 (i_26 + 1) (upd kp26 (7 * a1.toNatClampNeg + i_26) (page i_26))) := by rw [f_X6_keep_l26]
def f_X6_keep (page : Nat → Int32) (kept : Nat → Int32) (isKept : Nat → Int32) (a1 : Int32) : (Int32) × (Int32) × (Nat → Int32) × (Nat → Int32) := (if (f_X6_in a1.toInt64 (0 : Int64) (1 : Int64)) = (0 : Int32) then ((-1 : Int32), (0 : Int32), kept, isKept) else ((f_X6_poles page), (0 : Int32), (f_X6_keep_l26 page a1 7 0 kept), (upd isKept a1.toNatClampNeg (1 : Int32))))
set_option maxHeartbeats 4000000 in
set_option maxRecDepth 100000 in
theorem c_X6_keep (l : Launch) (D : va_G) (cI cZ : ClassId) (q : Nat → Nat) (thrown textSize place stock parts readStock readCells readParts acts tried soonMany soonWhich kindMany kindFirst restMany restFirst : Int32) (text lies kind readPart page trial book kept isKept triedAbout triedIs gains value : Nat → Int32) (seed : Int64) (a1 : Int32) : WrI l yX6_keep cX6_keep 3 .int 1 25 D (tyL cI cZ) (MW cI cZ q thrown textSize place stock parts readStock readCells readParts acts tried soonMany soonWhich kindMany kindFirst restMany restFirst text lies kind readPart page trial book kept isKept triedAbout triedIs gains value seed) [.ref (q 0), .int a1] (f_X6_keep page kept isKept a1).1 (MW cI cZ q (f_X6_keep page kept isKept a1).2.1 textSize place stock parts readStock readCells readParts acts tried soonMany soonWhich kindMany kindFirst restMany restFirst text lies kind readPart page trial book (f_X6_keep page kept isKept a1).2.2.1 (f_X6_keep page kept isKept a1).2.2.2 triedAbout triedIs gains value seed) := by
  refine WrI.of (by decide) (Nat.le_of_ble_eq_true rfl) ?_
  intro p e s m args below meth c Q A hx hb hml hown hts hP hK hD hS fin ls hl
  have hown : s.vm.findClass RX6 = some m.cls := hown
  have hF : CallFix p m c cX6_keep 3 s args tb RX6 := ⟨hx, hb, hml, hown, hts⟩
  have hl : lv_has ls 3 [(0, .ref (q 0)), (1, .int a1)] := hl
  generalize hR : (f_X6_keep page kept isKept a1) = R at fin
  unfold f_X6_keep at hR
  refine lv_aload_n hx hb dX6_keep_0 rfl (lv_at hl 0 rfl) ?_
  refine lv_iconst (v := (0 : Int32)) hx hb dX6_keep_1 (by decide) ?_
  refine va_put (D := D) (ci := 5) (v := .int (0 : Int32)) (ty := .int) (C := RX6) (T := TX6) (N := 30) hx hb hts tbX6 tyX6 tyX6_ok nmX6 hown hK hP hD hS 0 MW_0 rfl 0 (by decide) (hts _ tm_3_1) (fun _ h9 => h9) rfl (by decide +kernel) rfl rfl (Nat.le_of_ble_eq_true rfl) dX6_keep_2 (fun H locs hP _ hS => ?_)
  have hP : va_P D vwCl (MW cI cZ q (0 : Int32) textSize place stock parts readStock readCells readParts acts tried soonMany soonWhich kindMany kindFirst restMany restFirst text lies kind readPart page trial book kept isKept triedAbout triedIs gains value seed) H := hP
  have hD : va_D A (MW cI cZ q (0 : Int32) textSize place stock parts readStock readCells readParts acts tried soonMany soonWhich kindMany kindFirst restMany restFirst text lies kind readPart page trial book kept isKept triedAbout triedIs gains value seed) := hD.same (MW_ad.trans MW_ad.symm)
  refine lv_iload_n hx hb dX6_keep_5 rfl (lv_at hl 1 rfl) ?_
  refine lv_i2l (v := a1.toInt64) hx hb dX6_keep_6 rfl ?_
  refine lv_lconst (v := (0 : Int64)) hx hb dX6_keep_7 (by decide) ?_
  refine lv_lconst (v := (1 : Int64)) hx hb dX6_keep_8 (by decide) ?_
  refine sRdI (As := [.long a1.toInt64, .long (0 : Int64), .long (1 : Int64)]) (rest := []) hF (c_X6_in l D cI cZ q a1.toInt64 (0 : Int64) (1 : Int64)) (gdS tm_3_97 tm_3_98 tm_1_6 tm_3_99) de_X6_in ⟨Nat.le_of_ble_eq_true rfl, Nat.le_of_ble_eq_true rfl⟩ va_P_nil hK hl.1 rfl (Nat.le_of_ble_eq_true rfl) dX6_keep_9 ⟨Nat.zero_le _, Nat.zero_le _⟩ ?_
  refine lv_if_ne (tgt := 17) hx hb dX6_keep_12 (by decide) (fun c_12 => ?_) (fun c_12 => ?_)
  · rw [if_neg c_12] at hR
    have hk1 := in_nI c_12 (by decide)
    have hk2 := in_le (n := 1) c_12 (by decide)
    refine lv_aload_n hx hb dX6_keep_17 rfl (lv_at hl 0 rfl) ?_
    refine va_get (D := D) (ci := 5) (v := .ref (q 9)) (C := RX6) (T := TX6) (N := 30) hx hb hts tbX6 hown hK hP 0 MW_0 rfl 17 (by decide) (hts _ tm_3_18) (fun _ h9 => h9) rfl dX6_keep_18 ?_
    refine lv_iload_n hx hb dX6_keep_21 rfl (lv_at hl 1 rfl) ?_
    refine lv_rw (z := (nI a1.toNatClampNeg)) hk1 ?_
    refine lv_iconst (v := (1 : Int32)) hx hb dX6_keep_22 (by decide) ?_
    refine va_zast hx hb hK hP hD hS 9 1 MW_9 rfl (vp_in_nI (show a1.toNatClampNeg < 2 by omega) (by omega)) dX6_keep_23 (fun H locs hP _ hS => ?_)
    have hP : va_P D vwCl (MW cI cZ q (0 : Int32) textSize place stock parts readStock readCells readParts acts tried soonMany soonWhich kindMany kindFirst restMany restFirst text lies kind readPart page trial book kept (upd isKept (nI a1.toNatClampNeg).toNatClampNeg (vp_nar .boolean (1 : Int32))) triedAbout triedIs gains value seed) H := hP
    rw [(nI_clamp (show a1.toNatClampNeg < 2 ^ 31 by omega))] at hP
    rw [show vp_nar .boolean (1 : Int32) = (1 : Int32) from rfl] at hP
    have hD : va_D A (MW cI cZ q (0 : Int32) textSize place stock parts readStock readCells readParts acts tried soonMany soonWhich kindMany kindFirst restMany restFirst text lies kind readPart page trial book kept (upd isKept a1.toNatClampNeg (1 : Int32)) triedAbout triedIs gains value seed) := hD.same (MW_ad.trans MW_ad.symm)
    refine lv_iconst (v := (0 : Int32)) hx hb dX6_keep_24 (by decide) ?_
    refine lv_istore_n (lv' := [(2, .int (0 : Int32)), (0, .ref (q 0)), (1, .int a1)]) hx hb dX6_keep_25 rfl hl (by decide) rfl (fun ls hl => ?_)
    obtain ⟨T_26, hT_26⟩ : ∃ z, f_X6_keep_l26 page a1 7 0 kept = z := ⟨_, rfl⟩
    rw [hT_26] at hR
    have key_26 : ∀ (d_26 i_26 : Nat) (kp26 : Nat → Int32) (ls : Array Slot) (H : Heap) (locs : List Loc), i_26 + d_26 = 7 → f_X6_keep_l26 page a1 d_26 i_26 kp26 = T_26 → lv_has ls 3 [(2, .int (nI i_26)), (0, .ref (q 0)), (1, .int a1)] → va_P D vwCl (MW cI cZ q (0 : Int32) textSize place stock parts readStock readCells readParts acts tried soonMany soonWhich kindMany kindFirst restMany restFirst text lies kind readPart page trial book kp26 (upd isKept a1.toNatClampNeg (1 : Int32)) triedAbout triedIs gains value seed) H → va_S A s.heap H locs → W p l e (rmO 1 25) s m args below meth c H locs 0 0 Q (F0 m 26 ls []) := by
      intro d_26
      induction d_26 with
      | zero =>
        intro i_26 kp26 ls H locs hi_26 hT_26 hl hP hS
        have hD : va_D A (MW cI cZ q (0 : Int32) textSize place stock parts readStock readCells readParts acts tried soonMany soonWhich kindMany kindFirst restMany restFirst text lies kind readPart page trial book kp26 (upd isKept a1.toNatClampNeg (1 : Int32)) triedAbout triedIs gains value seed) := hD.same (MW_ad.trans MW_ad.symm)
        rw [f_X6_keep_l26_z] at hT_26
        refine lv_iload_n hx hb dX6_keep_26 rfl (lv_at hl 0 rfl) ?_
        refine lv_bipush (v := (7 : Int32)) hx hb dX6_keep_27 (by decide) ?_
        refine lv_icmp_ge (tgt := 55) hx hb dX6_keep_29 (by decide) (fun c_29 => ?_) (fun c_29 => absurd (nI_le (a := 7) (by omega) (by omega)) c_29)
        subst hT_26
        try dsimp only at hR
        refine lv_aload_n hx hb dX6_keep_55 rfl (lv_at hl 1 rfl) ?_
        refine va_get (D := D) (ci := 5) (v := .ref (q 5)) (C := RX6) (T := TX6) (N := 30) hx hb hts tbX6 hown hK hP 0 MW_0 rfl 12 (by decide) (hts _ tm_3_13) (fun _ h9 => h9) rfl dX6_keep_56 ?_
        refine sRdI (As := [.ref (q 5)]) (rest := []) hF (c_X6_poles l D cI cZ q (0 : Int32) textSize place stock parts readStock readCells readParts acts tried soonMany soonWhich kindMany kindFirst restMany restFirst text lies kind readPart page trial book kp26 (upd isKept a1.toNatClampNeg (1 : Int32)) triedAbout triedIs gains value seed 5 (q 5) page MW_5) (gdS tm_3_130 tm_3_131 tm_1_6 tm_3_132) de_X6_poles ⟨Nat.le_of_ble_eq_true rfl, Nat.le_of_ble_eq_true rfl⟩ hP hK hl.1 rfl (Nat.le_of_ble_eq_true rfl) dX6_keep_59 ⟨Nat.zero_le _, Nat.zero_le _⟩ ?_
        subst hR
        exact fin _ _ _ _ dX6_keep_62 (nar_i _) hP hS
      | succ d_26 ih_26 =>
        intro i_26 kp26 ls H locs hi_26 hT_26 hl hP hS
        have hD : va_D A (MW cI cZ q (0 : Int32) textSize place stock parts readStock readCells readParts acts tried soonMany soonWhich kindMany kindFirst restMany restFirst text lies kind readPart page trial book kp26 (upd isKept a1.toNatClampNeg (1 : Int32)) triedAbout triedIs gains value seed) := hD.same (MW_ad.trans MW_ad.symm)
        rw [f_X6_keep_l26_s] at hT_26
        refine lv_iload_n hx hb dX6_keep_26 rfl (lv_at hl 0 rfl) ?_
        refine lv_bipush (v := (7 : Int32)) hx hb dX6_keep_27 (by decide) ?_
        refine lv_icmp_ge (tgt := 55) hx hb dX6_keep_29 (by decide) (fun c_29 => absurd c_29 (nI_ge (b := 7) (by omega) (by omega))) (fun c_29 => ?_)
        refine lv_aload_n hx hb dX6_keep_32 rfl (lv_at hl 1 rfl) ?_
        refine va_get (D := D) (ci := 5) (v := .ref (q 8)) (C := RX6) (T := TX6) (N := 30) hx hb hts tbX6 hown hK hP 0 MW_0 rfl 16 (by decide) (hts _ tm_3_17) (fun _ h9 => h9) rfl dX6_keep_33 ?_
        refine lv_bipush (v := (7 : Int32)) hx hb dX6_keep_36 (by decide) ?_
        refine lv_iload_n hx hb dX6_keep_38 rfl (lv_at hl 2 rfl) ?_
        refine lv_rw (z := (nI a1.toNatClampNeg)) hk1 ?_
        refine lv_imul hx hb dX6_keep_39 ?_
        refine lv_rw (z := (nI (7 * a1.toNatClampNeg))) (pk_mul 7 _) ?_
        refine lv_iload_n hx hb dX6_keep_40 rfl (lv_at hl 0 rfl) ?_
        refine lv_iadd hx hb dX6_keep_41 ?_
        refine lv_rw (z := (nI (7 * a1.toNatClampNeg + i_26))) (nI_add _ _) ?_
        refine lv_aload_n hx hb dX6_keep_42 rfl (lv_at hl 1 rfl) ?_
        refine va_get (D := D) (ci := 5) (v := .ref (q 5)) (C := RX6) (T := TX6) (N := 30) hx hb hts tbX6 hown hK hP 0 MW_0 rfl 12 (by decide) (hts _ tm_3_13) (fun _ h9 => h9) rfl dX6_keep_43 ?_
        refine lv_iload_n hx hb dX6_keep_46 rfl (lv_at hl 0 rfl) ?_
        refine va_iald hx hb hK hP 5 0 MW_5 rfl (vp_in_nI (show i_26 < 7 by omega) (by omega)) dX6_keep_47 ?_
        refine lv_rw (z := (page i_26)) (congrArg page (nI_clamp (show i_26 < 2 ^ 31 by omega))) ?_
        refine va_iast hx hb hK hP hD hS 8 0 MW_8 rfl (vp_in_nI (show (7 * a1.toNatClampNeg + i_26) < 14 by omega) (by omega)) dX6_keep_48 (fun H locs hP _ hS => ?_)
        have hP : va_P D vwCl (MW cI cZ q (0 : Int32) textSize place stock parts readStock readCells readParts acts tried soonMany soonWhich kindMany kindFirst restMany restFirst text lies kind readPart page trial book (upd kp26 (nI (7 * a1.toNatClampNeg + i_26)).toNatClampNeg (page i_26)) (upd isKept a1.toNatClampNeg (1 : Int32)) triedAbout triedIs gains value seed) H := hP
        rw [(nI_clamp (show (7 * a1.toNatClampNeg + i_26) < 2 ^ 31 by omega))] at hP
        have hD : va_D A (MW cI cZ q (0 : Int32) textSize place stock parts readStock readCells readParts acts tried soonMany soonWhich kindMany kindFirst restMany restFirst text lies kind readPart page trial book (upd kp26 (7 * a1.toNatClampNeg + i_26) (page i_26)) (upd isKept a1.toNatClampNeg (1 : Int32)) triedAbout triedIs gains value seed) := hD.same (MW_ad.trans MW_ad.symm)
        refine lv_iinc (v := (nI (i_26 + 1))) (lv' := [(2, .int (nI (i_26 + 1))), (0, .ref (q 0)), (1, .int a1)]) hx hb dX6_keep_49 hl (k := 0) rfl (nI_up i_26) (by decide) rfl (fun ls hl => ?_)
        refine lv_goto (tgt := 26) hx hb dX6_keep_52 (by decide) ?_
        exact ih_26 (i_26 + 1) (upd kp26 (7 * a1.toNatClampNeg + i_26) (page i_26)) ls _ _ (by omega) hT_26 (lv_sub hl [0, 1, 2] rfl) hP hS
    exact key_26 7 0 kept ls _ _ (by omega) hT_26 (lv_sub hl [0, 1, 2] rfl) hP hS
  · rw [if_pos c_12] at hR
    refine lv_iconst (v := (-1 : Int32)) hx hb dX6_keep_15 (by decide) ?_
    subst hR
    exact fin _ _ _ _ dX6_keep_16 (nar_i _) hP hS
def f_X6_again_l31 (kept : Nat → Int32) (a1 : Int32) : Nat → Nat → (Nat → Int32) → Nat → Int32
  | 0, i_31, pg31 => pg31
  | d_31 + 1, i_31, pg31 => (f_X6_again_l31 kept a1 d_31 (i_31 + 1) (upd pg31 i_31 (kept (7 * a1.toNatClampNeg + i_31))))
theorem f_X6_again_l31_z {kept : Nat → Int32} {a1 : Int32} {i_31 : Nat} {pg31 : Nat → Int32} : f_X6_again_l31 kept a1 0 i_31 pg31 = pg31 := by rw [f_X6_again_l31]
theorem f_X6_again_l31_s {kept : Nat → Int32} {a1 : Int32} {d_31 : Nat} {i_31 : Nat} {pg31 : Nat → Int32} : f_X6_again_l31 kept a1 (d_31 + 1) i_31 pg31 = (f_X6_again_l31 kept a1 d_31 (i_31 + 1) (upd pg31 i_31 (kept (7 * a1.toNatClampNeg + i_31)))) := by rw [f_X6_again_l31]
def f_X6_again (acts : Int32) (page : Nat → Int32) (kept : Nat → Int32) (isKept : Nat → Int32) (a1 : Int32) : (Int32) × (Int32) × (Nat → Int32) × (Int32) := (if (f_X6_in a1.toInt64 (0 : Int64) (1 : Int64)) = (0 : Int32) then ((-1 : Int32), (0 : Int32), page, acts) else (if (isKept a1.toNatClampNeg) = (0 : Int32) then ((-3 : Int32), (0 : Int32), page, acts) else ((f_X6_poles (f_X6_again_l31 kept a1 7 0 page)), (0 : Int32), (f_X6_again_l31 kept a1 7 0 page), (0 : Int32))))
set_option maxHeartbeats 4000000 in
set_option maxRecDepth 100000 in
theorem c_X6_again (l : Launch) (D : va_G) (cI cZ : ClassId) (q : Nat → Nat) (thrown textSize place stock parts readStock readCells readParts acts tried soonMany soonWhich kindMany kindFirst restMany restFirst : Int32) (text lies kind readPart page trial book kept isKept triedAbout triedIs gains value : Nat → Int32) (seed : Int64) (a1 : Int32) : WrI l yX6_again cX6_again 3 .int 1 25 D (tyL cI cZ) (MW cI cZ q thrown textSize place stock parts readStock readCells readParts acts tried soonMany soonWhich kindMany kindFirst restMany restFirst text lies kind readPart page trial book kept isKept triedAbout triedIs gains value seed) [.ref (q 0), .int a1] (f_X6_again acts page kept isKept a1).1 (MW cI cZ q (f_X6_again acts page kept isKept a1).2.1 textSize place stock parts readStock readCells readParts (f_X6_again acts page kept isKept a1).2.2.2 tried soonMany soonWhich kindMany kindFirst restMany restFirst text lies kind readPart (f_X6_again acts page kept isKept a1).2.2.1 trial book kept isKept triedAbout triedIs gains value seed) := by
  refine WrI.of (by decide) (Nat.le_of_ble_eq_true rfl) ?_
  intro p e s m args below meth c Q A hx hb hml hown hts hP hK hD hS fin ls hl
  have hown : s.vm.findClass RX6 = some m.cls := hown
  have hF : CallFix p m c cX6_again 3 s args tb RX6 := ⟨hx, hb, hml, hown, hts⟩
  have hl : lv_has ls 3 [(0, .ref (q 0)), (1, .int a1)] := hl
  generalize hR : (f_X6_again acts page kept isKept a1) = R at fin
  unfold f_X6_again at hR
  refine lv_aload_n hx hb dX6_again_0 rfl (lv_at hl 0 rfl) ?_
  refine lv_iconst (v := (0 : Int32)) hx hb dX6_again_1 (by decide) ?_
  refine va_put (D := D) (ci := 5) (v := .int (0 : Int32)) (ty := .int) (C := RX6) (T := TX6) (N := 30) hx hb hts tbX6 tyX6 tyX6_ok nmX6 hown hK hP hD hS 0 MW_0 rfl 0 (by decide) (hts _ tm_3_1) (fun _ h9 => h9) rfl (by decide +kernel) rfl rfl (Nat.le_of_ble_eq_true rfl) dX6_again_2 (fun H locs hP _ hS => ?_)
  have hP : va_P D vwCl (MW cI cZ q (0 : Int32) textSize place stock parts readStock readCells readParts acts tried soonMany soonWhich kindMany kindFirst restMany restFirst text lies kind readPart page trial book kept isKept triedAbout triedIs gains value seed) H := hP
  have hD : va_D A (MW cI cZ q (0 : Int32) textSize place stock parts readStock readCells readParts acts tried soonMany soonWhich kindMany kindFirst restMany restFirst text lies kind readPart page trial book kept isKept triedAbout triedIs gains value seed) := hD.same (MW_ad.trans MW_ad.symm)
  refine lv_iload_n hx hb dX6_again_5 rfl (lv_at hl 1 rfl) ?_
  refine lv_i2l (v := a1.toInt64) hx hb dX6_again_6 rfl ?_
  refine lv_lconst (v := (0 : Int64)) hx hb dX6_again_7 (by decide) ?_
  refine lv_lconst (v := (1 : Int64)) hx hb dX6_again_8 (by decide) ?_
  refine sRdI (As := [.long a1.toInt64, .long (0 : Int64), .long (1 : Int64)]) (rest := []) hF (c_X6_in l D cI cZ q a1.toInt64 (0 : Int64) (1 : Int64)) (gdS tm_3_97 tm_3_98 tm_1_6 tm_3_99) de_X6_in ⟨Nat.le_of_ble_eq_true rfl, Nat.le_of_ble_eq_true rfl⟩ va_P_nil hK hl.1 rfl (Nat.le_of_ble_eq_true rfl) dX6_again_9 ⟨Nat.zero_le _, Nat.zero_le _⟩ ?_
  refine lv_if_ne (tgt := 17) hx hb dX6_again_12 (by decide) (fun c_12 => ?_) (fun c_12 => ?_)
  · rw [if_neg c_12] at hR
    have hk1 := in_nI c_12 (by decide)
    have hk2 := in_le (n := 1) c_12 (by decide)
    refine lv_aload_n hx hb dX6_again_17 rfl (lv_at hl 0 rfl) ?_
    refine va_get (D := D) (ci := 5) (v := .ref (q 9)) (C := RX6) (T := TX6) (N := 30) hx hb hts tbX6 hown hK hP 0 MW_0 rfl 17 (by decide) (hts _ tm_3_18) (fun _ h9 => h9) rfl dX6_again_18 ?_
    refine lv_iload_n hx hb dX6_again_21 rfl (lv_at hl 1 rfl) ?_
    refine lv_rw (z := (nI a1.toNatClampNeg)) hk1 ?_
    refine va_zald hx hb hK hP 9 1 MW_9 rfl (vp_in_nI (show a1.toNatClampNeg < 2 by omega) (by omega)) dX6_again_22 ?_
    refine lv_rw (z := (isKept a1.toNatClampNeg)) (congrArg isKept (nI_clamp (show a1.toNatClampNeg < 2 ^ 31 by omega))) ?_
    refine lv_if_ne (tgt := 29) hx hb dX6_again_23 (by decide) (fun c_23 => ?_) (fun c_23 => ?_)
    · rw [if_neg c_23] at hR
      refine lv_iconst (v := (0 : Int32)) hx hb dX6_again_29 (by decide) ?_
      refine lv_istore_n (lv' := [(2, .int (0 : Int32)), (0, .ref (q 0)), (1, .int a1)]) hx hb dX6_again_30 rfl hl (by decide) rfl (fun ls hl => ?_)
      obtain ⟨T_31, hT_31⟩ : ∃ z, f_X6_again_l31 kept a1 7 0 page = z := ⟨_, rfl⟩
      rw [hT_31] at hR
      have key_31 : ∀ (d_31 i_31 : Nat) (pg31 : Nat → Int32) (ls : Array Slot) (H : Heap) (locs : List Loc), i_31 + d_31 = 7 → f_X6_again_l31 kept a1 d_31 i_31 pg31 = T_31 → lv_has ls 3 [(2, .int (nI i_31)), (0, .ref (q 0)), (1, .int a1)] → va_P D vwCl (MW cI cZ q (0 : Int32) textSize place stock parts readStock readCells readParts acts tried soonMany soonWhich kindMany kindFirst restMany restFirst text lies kind readPart pg31 trial book kept isKept triedAbout triedIs gains value seed) H → va_S A s.heap H locs → W p l e (rmO 1 25) s m args below meth c H locs 0 0 Q (F0 m 31 ls []) := by
        intro d_31
        induction d_31 with
        | zero =>
          intro i_31 pg31 ls H locs hi_31 hT_31 hl hP hS
          have hD : va_D A (MW cI cZ q (0 : Int32) textSize place stock parts readStock readCells readParts acts tried soonMany soonWhich kindMany kindFirst restMany restFirst text lies kind readPart pg31 trial book kept isKept triedAbout triedIs gains value seed) := hD.same (MW_ad.trans MW_ad.symm)
          rw [f_X6_again_l31_z] at hT_31
          refine lv_iload_n hx hb dX6_again_31 rfl (lv_at hl 0 rfl) ?_
          refine lv_bipush (v := (7 : Int32)) hx hb dX6_again_32 (by decide) ?_
          refine lv_icmp_ge (tgt := 60) hx hb dX6_again_34 (by decide) (fun c_34 => ?_) (fun c_34 => absurd (nI_le (a := 7) (by omega) (by omega)) c_34)
          subst hT_31
          try dsimp only at hR
          refine lv_aload_n hx hb dX6_again_60 rfl (lv_at hl 1 rfl) ?_
          refine lv_iconst (v := (0 : Int32)) hx hb dX6_again_61 (by decide) ?_
          refine va_put (D := D) (ci := 5) (v := .int (0 : Int32)) (ty := .int) (C := RX6) (T := TX6) (N := 30) hx hb hts tbX6 tyX6 tyX6_ok nmX6 hown hK hP hD hS 0 MW_0 rfl 15 (by decide) (hts _ tm_3_16) (fun _ h9 => h9) rfl (by decide +kernel) rfl rfl (Nat.le_of_ble_eq_true rfl) dX6_again_62 (fun H locs hP _ hS => ?_)
          have hP : va_P D vwCl (MW cI cZ q (0 : Int32) textSize place stock parts readStock readCells readParts (0 : Int32) tried soonMany soonWhich kindMany kindFirst restMany restFirst text lies kind readPart pg31 trial book kept isKept triedAbout triedIs gains value seed) H := hP
          have hD : va_D A (MW cI cZ q (0 : Int32) textSize place stock parts readStock readCells readParts (0 : Int32) tried soonMany soonWhich kindMany kindFirst restMany restFirst text lies kind readPart pg31 trial book kept isKept triedAbout triedIs gains value seed) := hD.same (MW_ad.trans MW_ad.symm)
          refine lv_aload_n hx hb dX6_again_65 rfl (lv_at hl 1 rfl) ?_
          refine va_get (D := D) (ci := 5) (v := .ref (q 5)) (C := RX6) (T := TX6) (N := 30) hx hb hts tbX6 hown hK hP 0 MW_0 rfl 12 (by decide) (hts _ tm_3_13) (fun _ h9 => h9) rfl dX6_again_66 ?_
          refine sRdI (As := [.ref (q 5)]) (rest := []) hF (c_X6_poles l D cI cZ q (0 : Int32) textSize place stock parts readStock readCells readParts (0 : Int32) tried soonMany soonWhich kindMany kindFirst restMany restFirst text lies kind readPart pg31 trial book kept isKept triedAbout triedIs gains value seed 5 (q 5) pg31 MW_5) (gdS tm_3_130 tm_3_131 tm_1_6 tm_3_132) de_X6_poles ⟨Nat.le_of_ble_eq_true rfl, Nat.le_of_ble_eq_true rfl⟩ hP hK hl.1 rfl (Nat.le_of_ble_eq_true rfl) dX6_again_69 ⟨Nat.zero_le _, Nat.zero_le _⟩ ?_
          subst hR
          exact fin _ _ _ _ dX6_again_72 (nar_i _) hP hS
        | succ d_31 ih_31 =>
          intro i_31 pg31 ls H locs hi_31 hT_31 hl hP hS
          have hD : va_D A (MW cI cZ q (0 : Int32) textSize place stock parts readStock readCells readParts acts tried soonMany soonWhich kindMany kindFirst restMany restFirst text lies kind readPart pg31 trial book kept isKept triedAbout triedIs gains value seed) := hD.same (MW_ad.trans MW_ad.symm)
          rw [f_X6_again_l31_s] at hT_31
          refine lv_iload_n hx hb dX6_again_31 rfl (lv_at hl 0 rfl) ?_
          refine lv_bipush (v := (7 : Int32)) hx hb dX6_again_32 (by decide) ?_
          refine lv_icmp_ge (tgt := 60) hx hb dX6_again_34 (by decide) (fun c_34 => absurd c_34 (nI_ge (b := 7) (by omega) (by omega))) (fun c_34 => ?_)
          refine lv_aload_n hx hb dX6_again_37 rfl (lv_at hl 1 rfl) ?_
          refine va_get (D := D) (ci := 5) (v := .ref (q 5)) (C := RX6) (T := TX6) (N := 30) hx hb hts tbX6 hown hK hP 0 MW_0 rfl 12 (by decide) (hts _ tm_3_13) (fun _ h9 => h9) rfl dX6_again_38 ?_
          refine lv_iload_n hx hb dX6_again_41 rfl (lv_at hl 0 rfl) ?_
          refine lv_aload_n hx hb dX6_again_42 rfl (lv_at hl 1 rfl) ?_
          refine va_get (D := D) (ci := 5) (v := .ref (q 8)) (C := RX6) (T := TX6) (N := 30) hx hb hts tbX6 hown hK hP 0 MW_0 rfl 16 (by decide) (hts _ tm_3_17) (fun _ h9 => h9) rfl dX6_again_43 ?_
          refine lv_bipush (v := (7 : Int32)) hx hb dX6_again_46 (by decide) ?_
          refine lv_iload_n hx hb dX6_again_48 rfl (lv_at hl 2 rfl) ?_
          refine lv_rw (z := (nI a1.toNatClampNeg)) hk1 ?_
          refine lv_imul hx hb dX6_again_49 ?_
          refine lv_rw (z := (nI (7 * a1.toNatClampNeg))) (pk_mul 7 _) ?_
          refine lv_iload_n hx hb dX6_again_50 rfl (lv_at hl 0 rfl) ?_
          refine lv_iadd hx hb dX6_again_51 ?_
          refine lv_rw (z := (nI (7 * a1.toNatClampNeg + i_31))) (nI_add _ _) ?_
          refine va_iald hx hb hK hP 8 0 MW_8 rfl (vp_in_nI (show (7 * a1.toNatClampNeg + i_31) < 14 by omega) (by omega)) dX6_again_52 ?_
          refine lv_rw (z := (kept (7 * a1.toNatClampNeg + i_31))) (congrArg kept (nI_clamp (show (7 * a1.toNatClampNeg + i_31) < 2 ^ 31 by omega))) ?_
          refine va_iast hx hb hK hP hD hS 5 0 MW_5 rfl (vp_in_nI (show i_31 < 7 by omega) (by omega)) dX6_again_53 (fun H locs hP _ hS => ?_)
          have hP : va_P D vwCl (MW cI cZ q (0 : Int32) textSize place stock parts readStock readCells readParts acts tried soonMany soonWhich kindMany kindFirst restMany restFirst text lies kind readPart (upd pg31 (nI i_31).toNatClampNeg (kept (7 * a1.toNatClampNeg + i_31))) trial book kept isKept triedAbout triedIs gains value seed) H := hP
          rw [(nI_clamp (show i_31 < 2 ^ 31 by omega))] at hP
          have hD : va_D A (MW cI cZ q (0 : Int32) textSize place stock parts readStock readCells readParts acts tried soonMany soonWhich kindMany kindFirst restMany restFirst text lies kind readPart (upd pg31 i_31 (kept (7 * a1.toNatClampNeg + i_31))) trial book kept isKept triedAbout triedIs gains value seed) := hD.same (MW_ad.trans MW_ad.symm)
          refine lv_iinc (v := (nI (i_31 + 1))) (lv' := [(2, .int (nI (i_31 + 1))), (0, .ref (q 0)), (1, .int a1)]) hx hb dX6_again_54 hl (k := 0) rfl (nI_up i_31) (by decide) rfl (fun ls hl => ?_)
          refine lv_goto (tgt := 31) hx hb dX6_again_57 (by decide) ?_
          exact ih_31 (i_31 + 1) (upd pg31 i_31 (kept (7 * a1.toNatClampNeg + i_31))) ls _ _ (by omega) hT_31 (lv_sub hl [0, 1, 2] rfl) hP hS
      exact key_31 7 0 page ls _ _ (by omega) hT_31 (lv_sub hl [0, 1, 2] rfl) hP hS
    · rw [if_pos c_23] at hR
      refine lv_bipush (v := (-3 : Int32)) hx hb dX6_again_26 (by decide) ?_
      subst hR
      exact fin _ _ _ _ dX6_again_28 (nar_i _) hP hS
  · rw [if_pos c_12] at hR
    refine lv_iconst (v := (-1 : Int32)) hx hb dX6_again_15 (by decide) ?_
    subst hR
    exact fin _ _ _ _ dX6_again_16 (nar_i _) hP hS
