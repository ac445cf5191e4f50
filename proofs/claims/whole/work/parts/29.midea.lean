theorem de_X6_write : deOK yX6_write 1 := by decide +kernel
theorem de_X6_readPart : deOK yX6_readPart 0 := by decide +kernel
theorem de_X6_readIdea : deOK yX6_readIdea 0 := by decide +kernel
theorem de_X6_fault : deOK yX6_fault 0 := by decide +kernel
theorem de_X6_idea : deOK yX6_idea 0 := by decide +kernel
def f_X6_write (L : Nat) (text : Nat → Int32) (a1 : Int32) : (Int32) × (Int32) × (Int32) × (Nat → Int32) := (if (f_X6_in a1.toInt64 (0 : Int64) (255 : Int64)) = (0 : Int32) then ((-2 : Int32), (0 : Int32), (nI L), text) else (if (nI L) = (32 : Int32) then ((-4 : Int32), (0 : Int32), (nI L), text) else ((nI (L + 1)), (0 : Int32), (nI (L + 1)), (upd text L a1))))
set_option maxHeartbeats 4000000 in
set_option maxRecDepth 100000 in
theorem c_X6_write (l : Launch) (D : va_G) (cI cZ : ClassId) (q : Nat → Nat) (thrown : Int32) (L : Nat) (place : Int32) (stock : Int32) (parts : Int32) (readStock : Int32) (readCells : Int32) (readParts : Int32) (acts : Int32) (tried : Int32) (soonMany : Int32) (soonWhich : Int32) (kindMany : Int32) (kindFirst : Int32) (restMany : Int32) (restFirst : Int32) (text lies kind readPart page trial book kept isKept triedAbout triedIs gains value : Nat → Int32) (seed : Int64) (a1 : Int32) (hL32 : L ≤ 32) : WrI l yX6_write cX6_write 2 .int 1 25 D (tyL cI cZ) (MW cI cZ q thrown (nI L) place stock parts readStock readCells readParts acts tried soonMany soonWhich kindMany kindFirst restMany restFirst text lies kind readPart page trial book kept isKept triedAbout triedIs gains value seed) [.ref (q 0), .int a1] (f_X6_write L text a1).1 (MW cI cZ q (f_X6_write L text a1).2.1 (f_X6_write L text a1).2.2.1 place stock parts readStock readCells readParts acts tried soonMany soonWhich kindMany kindFirst restMany restFirst (f_X6_write L text a1).2.2.2 lies kind readPart page trial book kept isKept triedAbout triedIs gains value seed) := by
  refine WrI.of (by decide) (Nat.le_of_ble_eq_true rfl) ?_
  intro p e s m args below meth c Q A hx hb hml hown hts hP hK hD hS fin ls hl
  have hown : s.vm.findClass RX6 = some m.cls := hown
  have hF : CallFix p m c cX6_write 2 s args tb RX6 := ⟨hx, hb, hml, hown, hts⟩
  have hl : lv_has ls 2 [(0, .ref (q 0)), (1, .int a1)] := hl
  generalize hR : (f_X6_write L text a1) = R at fin
  unfold f_X6_write at hR
  refine lv_aload_n hx hb dX6_write_0 rfl (lv_at hl 0 rfl) ?_
  refine lv_iconst (v := (0 : Int32)) hx hb dX6_write_1 (by decide) ?_
  refine va_put (D := D) (ci := 5) (v := .int (0 : Int32)) (ty := .int) (C := RX6) (T := TX6) (N := 30) hx hb hts tbX6 tyX6 tyX6_ok nmX6 hown hK hP hD hS 0 MW_0 rfl 0 (by decide) (hts _ tm_3_1) (fun _ h9 => h9) rfl (by decide +kernel) rfl rfl (Nat.le_of_ble_eq_true rfl) dX6_write_2 (fun H locs hP _ hS => ?_)
  have hP : va_P D vwCl (MW cI cZ q (0 : Int32) (nI L) place stock parts readStock readCells readParts acts tried soonMany soonWhich kindMany kindFirst restMany restFirst text lies kind readPart page trial book kept isKept triedAbout triedIs gains value seed) H := hP
  have hD : va_D A (MW cI cZ q (0 : Int32) (nI L) place stock parts readStock readCells readParts acts tried soonMany soonWhich kindMany kindFirst restMany restFirst text lies kind readPart page trial book kept isKept triedAbout triedIs gains value seed) := hD.same (MW_ad.trans MW_ad.symm)
  refine lv_iload_n hx hb dX6_write_5 rfl (lv_at hl 1 rfl) ?_
  refine lv_i2l (v := a1.toInt64) hx hb dX6_write_6 rfl ?_
  refine lv_lconst (v := (0 : Int64)) hx hb dX6_write_7 (by decide) ?_
  refine lv_ldc2 (v := (255 : Int64)) hx hb hown (hts _ tm_3_96) dX6_write_8 ?_
  refine sRdI (As := [.long a1.toInt64, .long (0 : Int64), .long (255 : Int64)]) (rest := []) hF (c_X6_in l D cI cZ q a1.toInt64 (0 : Int64) (255 : Int64)) (gdS tm_3_97 tm_3_98 tm_1_6 tm_3_99) de_X6_in ⟨Nat.le_of_ble_eq_true rfl, Nat.le_of_ble_eq_true rfl⟩ va_P_nil hK hl.1 rfl (Nat.le_of_ble_eq_true rfl) dX6_write_11 ⟨Nat.zero_le _, Nat.zero_le _⟩ ?_
  refine lv_if_ne (tgt := 20) hx hb dX6_write_14 (by decide) (fun c_14 => ?_) (fun c_14 => ?_)
  · rw [if_neg c_14] at hR
    refine lv_aload_n hx hb dX6_write_20 rfl (lv_at hl 0 rfl) ?_
    refine va_get (D := D) (ci := 5) (v := .int (nI L)) (C := RX6) (T := TX6) (N := 30) hx hb hts tbX6 hown hK hP 0 MW_0 rfl 2 (by decide) (hts _ tm_3_3) (fun _ h9 => h9) rfl dX6_write_21 ?_
    refine lv_bipush (v := (32 : Int32)) hx hb dX6_write_24 (by decide) ?_
    refine lv_icmp_ne (tgt := 32) hx hb dX6_write_26 (by decide) (fun c_26 => ?_) (fun c_26 => ?_)
    · rw [if_neg c_26] at hR
      have hLn := nI_ne_of (b := 32) c_26
      refine lv_aload_n hx hb dX6_write_32 rfl (lv_at hl 0 rfl) ?_
      refine va_get (D := D) (ci := 5) (v := .ref (q 1)) (C := RX6) (T := TX6) (N := 30) hx hb hts tbX6 hown hK hP 0 MW_0 rfl 1 (by decide) (hts _ tm_3_2) (fun _ h9 => h9) rfl dX6_write_33 ?_
      refine lv_aload_n hx hb dX6_write_36 rfl (lv_at hl 0 rfl) ?_
      refine va_get (D := D) (ci := 5) (v := .int (nI L)) (C := RX6) (T := TX6) (N := 30) hx hb hts tbX6 hown hK hP 0 MW_0 rfl 2 (by decide) (hts _ tm_3_3) (fun _ h9 => h9) rfl dX6_write_37 ?_
      refine lv_iload_n hx hb dX6_write_40 rfl (lv_at hl 1 rfl) ?_
      refine va_iast hx hb hK hP hD hS 1 0 MW_1 rfl (vp_in_nI (show L < 32 by omega) (by omega)) dX6_write_41 (fun H locs hP _ hS => ?_)
      have hP : va_P D vwCl (MW cI cZ q (0 : Int32) (nI L) place stock parts readStock readCells readParts acts tried soonMany soonWhich kindMany kindFirst restMany restFirst (upd text (nI L).toNatClampNeg a1) lies kind readPart page trial book kept isKept triedAbout triedIs gains value seed) H := hP
      rw [(nI_clamp (show L < 2 ^ 31 by omega))] at hP
      have hD : va_D A (MW cI cZ q (0 : Int32) (nI L) place stock parts readStock readCells readParts acts tried soonMany soonWhich kindMany kindFirst restMany restFirst (upd text L a1) lies kind readPart page trial book kept isKept triedAbout triedIs gains value seed) := hD.same (MW_ad.trans MW_ad.symm)
      refine lv_aload_n hx hb dX6_write_42 rfl (lv_at hl 0 rfl) ?_
      refine lv_dup hx hb dX6_write_43 rfl ?_
      refine va_get (D := D) (ci := 5) (v := .int (nI L)) (C := RX6) (T := TX6) (N := 30) hx hb hts tbX6 hown hK hP 0 MW_0 rfl 2 (by decide) (hts _ tm_3_3) (fun _ h9 => h9) rfl dX6_write_44 ?_
      refine lv_iconst (v := (1 : Int32)) hx hb dX6_write_47 (by decide) ?_
      refine lv_iadd hx hb dX6_write_48 ?_
      refine lv_rw (z := (nI (L + 1))) (nI_1 _) ?_
      refine va_put (D := D) (ci := 5) (v := .int (nI (L + 1))) (ty := .int) (C := RX6) (T := TX6) (N := 30) hx hb hts tbX6 tyX6 tyX6_ok nmX6 hown hK hP hD hS 0 MW_0 rfl 2 (by decide) (hts _ tm_3_3) (fun _ h9 => h9) rfl (by decide +kernel) rfl rfl (Nat.le_of_ble_eq_true rfl) dX6_write_49 (fun H locs hP _ hS => ?_)
      have hP : va_P D vwCl (MW cI cZ q (0 : Int32) (nI (L + 1)) place stock parts readStock readCells readParts acts tried soonMany soonWhich kindMany kindFirst restMany restFirst (upd text L a1) lies kind readPart page trial book kept isKept triedAbout triedIs gains value seed) H := hP
      have hD : va_D A (MW cI cZ q (0 : Int32) (nI (L + 1)) place stock parts readStock readCells readParts acts tried soonMany soonWhich kindMany kindFirst restMany restFirst (upd text L a1) lies kind readPart page trial book kept isKept triedAbout triedIs gains value seed) := hD.same (MW_ad.trans MW_ad.symm)
      refine lv_aload_n hx hb dX6_write_52 rfl (lv_at hl 0 rfl) ?_
      refine va_get (D := D) (ci := 5) (v := .int (nI (L + 1))) (C := RX6) (T := TX6) (N := 30) hx hb hts tbX6 hown hK hP 0 MW_0 rfl 2 (by decide) (hts _ tm_3_3) (fun _ h9 => h9) rfl dX6_write_53 ?_
      subst hR
      exact fin _ _ _ _ dX6_write_56 (nar_i _) hP hS
    · rw [if_pos c_26] at hR
      refine lv_bipush (v := (-4 : Int32)) hx hb dX6_write_29 (by decide) ?_
      subst hR
      exact fin _ _ _ _ dX6_write_31 (nar_i _) hP hS
  · rw [if_pos c_14] at hR
    refine lv_bipush (v := (-2 : Int32)) hx hb dX6_write_17 (by decide) ?_
    subst hR
    exact fin _ _ _ _ dX6_write_19 (nar_i _) hP hS
theorem rp7 {r : Nat} (h : r ≤ 7) (c : ¬ nI r = 7) : r < 7 := by
  rcases Nat.lt_or_ge r 7 with h2 | h2
  · exact h2
  · exact absurd (by rw [show r = 7 by omega]; rfl) c
def f_X6_readPart (L : Nat) (pw : Nat) (r : Nat) (readCells : Int32) (text : Nat → Int32) (readPart : Nat → Int32) : (Int32) × (Int32) × (Int32) × (Int32) × (Nat → Int32) := (if (text pw) = (80 : Int32) then (if (nI r) = (7 : Int32) then ((0 : Int32), (nI pw), readCells, (nI r), readPart) else (if (nI L) ≤ (nI (pw + 1)) then ((0 : Int32), (nI (pw + 1)), readCells, (nI r), readPart) else (if (f_X6_in ((text (pw + 1)) - (97 : Int32)).toInt64 (0 : Int64) (15 : Int64)) = (0 : Int32) then ((0 : Int32), (nI (pw + 1)), readCells, (nI r), readPart) else (if (f_X6_has readCells ((text (pw + 1)) - (97 : Int32))) = (0 : Int32) then (if (nI L) ≤ (nI (pw + 1 + 1)) then ((0 : Int32), (nI (pw + 1 + 1)), readCells, (nI r), readPart) else (if (f_X6_in ((text (pw + 1 + 1)) - (48 : Int32)).toInt64 (0 : Int64) (3 : Int64)) = (0 : Int32) then ((0 : Int32), (nI (pw + 1 + 1)), readCells, (nI r), readPart) else ((1 : Int32), (nI (pw + 1 + 1 + 1)), (readCells ||| (shl (1 : Int32) ((text (pw + 1)) - (97 : Int32)))), (nI (r + 1)), (upd (upd readPart (2 * r) ((text (pw + 1)) - (97 : Int32))) (2 * r + 1) ((text (pw + 1 + 1)) - (48 : Int32)))))) else ((0 : Int32), (nI (pw + 1)), readCells, (nI r), readPart))))) else ((0 : Int32), (nI pw), readCells, (nI r), readPart))
set_option maxHeartbeats 4000000 in
set_option maxRecDepth 100000 in
theorem c_X6_readPart (l : Launch) (D : va_G) (cI cZ : ClassId) (q : Nat → Nat) (thrown : Int32) (L : Nat) (pw : Nat) (stock : Int32) (parts : Int32) (readStock : Int32) (readCells : Int32) (r : Nat) (acts : Int32) (tried : Int32) (soonMany : Int32) (soonWhich : Int32) (kindMany : Int32) (kindFirst : Int32) (restMany : Int32) (restFirst : Int32) (text lies kind readPart page trial book kept isKept triedAbout triedIs gains value : Nat → Int32) (seed : Int64) (hpL : pw < L) (hL32 : L ≤ 32) (hr7 : r ≤ 7) : WrI l yX6_readPart cX6_readPart 3 .boolean 1 25 D (tyL cI cZ) (MW cI cZ q thrown (nI L) (nI pw) stock parts readStock readCells (nI r) acts tried soonMany soonWhich kindMany kindFirst restMany restFirst text lies kind readPart page trial book kept isKept triedAbout triedIs gains value seed) [.ref (q 0)] (f_X6_readPart L pw r readCells text readPart).1 (MW cI cZ q thrown (nI L) (f_X6_readPart L pw r readCells text readPart).2.1 stock parts readStock (f_X6_readPart L pw r readCells text readPart).2.2.1 (f_X6_readPart L pw r readCells text readPart).2.2.2.1 acts tried soonMany soonWhich kindMany kindFirst restMany restFirst text lies kind (f_X6_readPart L pw r readCells text readPart).2.2.2.2 page trial book kept isKept triedAbout triedIs gains value seed) := by
  refine WrI.of (by decide) (Nat.le_of_ble_eq_true rfl) ?_
  intro p e s m args below meth c Q A hx hb hml hown hts hP hK hD hS fin ls hl
  have hown : s.vm.findClass RX6 = some m.cls := hown
  have hF : CallFix p m c cX6_readPart 3 s args tb RX6 := ⟨hx, hb, hml, hown, hts⟩
  have hl : lv_has ls 3 [(0, .ref (q 0))] := hl
  generalize hR : (f_X6_readPart L pw r readCells text readPart) = R at fin
  unfold f_X6_readPart at hR
  refine lv_aload_n hx hb dX6_readPart_0 rfl (lv_at hl 0 rfl) ?_
  refine va_get (D := D) (ci := 5) (v := .ref (q 1)) (C := RX6) (T := TX6) (N := 30) hx hb hts tbX6 hown hK hP 0 MW_0 rfl 1 (by decide) (hts _ tm_3_2) (fun _ h9 => h9) rfl dX6_readPart_1 ?_
  refine lv_aload_n hx hb dX6_readPart_4 rfl (lv_at hl 0 rfl) ?_
  refine va_get (D := D) (ci := 5) (v := .int (nI pw)) (C := RX6) (T := TX6) (N := 30) hx hb hts tbX6 hown hK hP 0 MW_0 rfl 3 (by decide) (hts _ tm_3_4) (fun _ h9 => h9) rfl dX6_readPart_5 ?_
  refine va_iald hx hb hK hP 1 0 MW_1 rfl (vp_in_nI (show pw < 32 by omega) (by omega)) dX6_readPart_8 ?_
  refine lv_rw (z := (text pw)) (congrArg text (nI_clamp (show pw < 2 ^ 31 by omega))) ?_
  refine lv_bipush (v := (80 : Int32)) hx hb dX6_readPart_9 (by decide) ?_
  refine lv_icmp_ne (tgt := 23) hx hb dX6_readPart_11 (by decide) (fun c_11 => ?_) (fun c_11 => ?_)
  · rw [if_neg c_11] at hR
    refine lv_iconst (v := (0 : Int32)) hx hb dX6_readPart_23 (by decide) ?_
    subst hR
    exact fin _ _ _ _ dX6_readPart_24 (nar_b (Or.inl rfl)) hP hS
  · rw [if_pos c_11] at hR
    refine lv_aload_n hx hb dX6_readPart_14 rfl (lv_at hl 0 rfl) ?_
    refine va_get (D := D) (ci := 5) (v := .int (nI r)) (C := RX6) (T := TX6) (N := 30) hx hb hts tbX6 hown hK hP 0 MW_0 rfl 10 (by decide) (hts _ tm_3_11) (fun _ h9 => h9) rfl dX6_readPart_15 ?_
    refine lv_bipush (v := (7 : Int32)) hx hb dX6_readPart_18 (by decide) ?_
    refine lv_icmp_ne (tgt := 25) hx hb dX6_readPart_20 (by decide) (fun c_20 => ?_) (fun c_20 => ?_)
    · rw [if_neg c_20] at hR
      have hr6 : r < 7 := rp7 hr7 c_20
      refine lv_aload_n hx hb dX6_readPart_25 rfl (lv_at hl 0 rfl) ?_
      refine lv_dup hx hb dX6_readPart_26 rfl ?_
      refine va_get (D := D) (ci := 5) (v := .int (nI pw)) (C := RX6) (T := TX6) (N := 30) hx hb hts tbX6 hown hK hP 0 MW_0 rfl 3 (by decide) (hts _ tm_3_4) (fun _ h9 => h9) rfl dX6_readPart_27 ?_
      refine lv_iconst (v := (1 : Int32)) hx hb dX6_readPart_30 (by decide) ?_
      refine lv_iadd hx hb dX6_readPart_31 ?_
      refine lv_rw (z := (nI (pw + 1))) (nI_1 _) ?_
      refine va_put (D := D) (ci := 5) (v := .int (nI (pw + 1))) (ty := .int) (C := RX6) (T := TX6) (N := 30) hx hb hts tbX6 tyX6 tyX6_ok nmX6 hown hK hP hD hS 0 MW_0 rfl 3 (by decide) (hts _ tm_3_4) (fun _ h9 => h9) rfl (by decide +kernel) rfl rfl (Nat.le_of_ble_eq_true rfl) dX6_readPart_32 (fun H locs hP _ hS => ?_)
      have hP : va_P D vwCl (MW cI cZ q thrown (nI L) (nI (pw + 1)) stock parts readStock readCells (nI r) acts tried soonMany soonWhich kindMany kindFirst restMany restFirst text lies kind readPart page trial book kept isKept triedAbout triedIs gains value seed) H := hP
      have hD : va_D A (MW cI cZ q thrown (nI L) (nI (pw + 1)) stock parts readStock readCells (nI r) acts tried soonMany soonWhich kindMany kindFirst restMany restFirst text lies kind readPart page trial book kept isKept triedAbout triedIs gains value seed) := hD.same (MW_ad.trans MW_ad.symm)
      refine lv_aload_n hx hb dX6_readPart_35 rfl (lv_at hl 0 rfl) ?_
      refine va_get (D := D) (ci := 5) (v := .int (nI (pw + 1))) (C := RX6) (T := TX6) (N := 30) hx hb hts tbX6 hown hK hP 0 MW_0 rfl 3 (by decide) (hts _ tm_3_4) (fun _ h9 => h9) rfl dX6_readPart_36 ?_
      refine lv_aload_n hx hb dX6_readPart_39 rfl (lv_at hl 0 rfl) ?_
      refine va_get (D := D) (ci := 5) (v := .int (nI L)) (C := RX6) (T := TX6) (N := 30) hx hb hts tbX6 hown hK hP 0 MW_0 rfl 2 (by decide) (hts _ tm_3_3) (fun _ h9 => h9) rfl dX6_readPart_40 ?_
      refine lv_icmp_ge (tgt := 61) hx hb dX6_readPart_43 (by decide) (fun c_43 => ?_) (fun c_43 => ?_)
      · rw [if_pos c_43] at hR
        refine lv_bipush (v := (-9 : Int32)) hx hb dX6_readPart_61 (by decide) ?_
        refine lv_istore_n (lv' := [(1, .int (-9 : Int32)), (0, .ref (q 0))]) hx hb dX6_readPart_63 rfl hl (by decide) rfl (fun ls hl => ?_)
        refine lv_iload_n hx hb dX6_readPart_64 rfl (lv_at hl 0 rfl) ?_
        refine lv_i2l (v := (-9 : Int32).toInt64) hx hb dX6_readPart_65 rfl ?_
        refine lv_lconst (v := (0 : Int64)) hx hb dX6_readPart_66 (by decide) ?_
        refine lv_ldc2 (v := (15 : Int64)) hx hb hown (hts _ tm_3_117) dX6_readPart_67 ?_
        refine sRdI (As := [.long (-9 : Int32).toInt64, .long (0 : Int64), .long (15 : Int64)]) (rest := []) hF (c_X6_in l D cI cZ q (-9 : Int32).toInt64 (0 : Int64) (15 : Int64)) (gdS tm_3_97 tm_3_98 tm_1_6 tm_3_99) de_X6_in ⟨Nat.le_of_ble_eq_true rfl, Nat.le_of_ble_eq_true rfl⟩ va_P_nil hK hl.1 rfl (Nat.le_of_ble_eq_true rfl) dX6_readPart_70 ⟨Nat.zero_le _, Nat.zero_le _⟩ ?_
        refine lv_if_eq (tgt := 87) hx hb dX6_readPart_73 (by decide) (fun c_73 => ?_) (fun c_73 => absurd (by decide +kernel) c_73)
        refine lv_iconst (v := (0 : Int32)) hx hb dX6_readPart_87 (by decide) ?_
        subst hR
        exact fin _ _ _ _ dX6_readPart_88 (nar_b (Or.inl rfl)) hP hS
      · rw [if_neg c_43] at hR
        have hp1 : pw + 1 < L := nI_lt_of (by omega) c_43
        refine lv_aload_n hx hb dX6_readPart_46 rfl (lv_at hl 0 rfl) ?_
        refine va_get (D := D) (ci := 5) (v := .ref (q 1)) (C := RX6) (T := TX6) (N := 30) hx hb hts tbX6 hown hK hP 0 MW_0 rfl 1 (by decide) (hts _ tm_3_2) (fun _ h9 => h9) rfl dX6_readPart_47 ?_
        refine lv_aload_n hx hb dX6_readPart_50 rfl (lv_at hl 0 rfl) ?_
        refine va_get (D := D) (ci := 5) (v := .int (nI (pw + 1))) (C := RX6) (T := TX6) (N := 30) hx hb hts tbX6 hown hK hP 0 MW_0 rfl 3 (by decide) (hts _ tm_3_4) (fun _ h9 => h9) rfl dX6_readPart_51 ?_
        refine va_iald hx hb hK hP 1 0 MW_1 rfl (vp_in_nI (show (pw + 1) < 32 by omega) (by omega)) dX6_readPart_54 ?_
        refine lv_rw (z := (text (pw + 1))) (congrArg text (nI_clamp (show (pw + 1) < 2 ^ 31 by omega))) ?_
        refine lv_bipush (v := (97 : Int32)) hx hb dX6_readPart_55 (by decide) ?_
        refine lv_isub hx hb dX6_readPart_57 ?_
        refine lv_goto (tgt := 63) hx hb dX6_readPart_58 (by decide) ?_
        refine lv_istore_n (lv' := [(1, .int ((text (pw + 1)) - (97 : Int32))), (0, .ref (q 0))]) hx hb dX6_readPart_63 rfl hl (by decide) rfl (fun ls hl => ?_)
        refine lv_iload_n hx hb dX6_readPart_64 rfl (lv_at hl 0 rfl) ?_
        refine lv_i2l (v := ((text (pw + 1)) - (97 : Int32)).toInt64) hx hb dX6_readPart_65 rfl ?_
        refine lv_lconst (v := (0 : Int64)) hx hb dX6_readPart_66 (by decide) ?_
        refine lv_ldc2 (v := (15 : Int64)) hx hb hown (hts _ tm_3_117) dX6_readPart_67 ?_
        refine sRdI (As := [.long ((text (pw + 1)) - (97 : Int32)).toInt64, .long (0 : Int64), .long (15 : Int64)]) (rest := []) hF (c_X6_in l D cI cZ q ((text (pw + 1)) - (97 : Int32)).toInt64 (0 : Int64) (15 : Int64)) (gdS tm_3_97 tm_3_98 tm_1_6 tm_3_99) de_X6_in ⟨Nat.le_of_ble_eq_true rfl, Nat.le_of_ble_eq_true rfl⟩ va_P_nil hK hl.1 rfl (Nat.le_of_ble_eq_true rfl) dX6_readPart_70 ⟨Nat.zero_le _, Nat.zero_le _⟩ ?_
        refine lv_if_eq (tgt := 87) hx hb dX6_readPart_73 (by decide) (fun c_73 => ?_) (fun c_73 => ?_)
        · rw [if_pos c_73] at hR
          refine lv_iconst (v := (0 : Int32)) hx hb dX6_readPart_87 (by decide) ?_
          subst hR
          exact fin _ _ _ _ dX6_readPart_88 (nar_b (Or.inl rfl)) hP hS
        · rw [if_neg c_73] at hR
          refine lv_aload_n hx hb dX6_readPart_76 rfl (lv_at hl 1 rfl) ?_
          refine va_get (D := D) (ci := 5) (v := .int readCells) (C := RX6) (T := TX6) (N := 30) hx hb hts tbX6 hown hK hP 0 MW_0 rfl 9 (by decide) (hts _ tm_3_10) (fun _ h9 => h9) rfl dX6_readPart_77 ?_
          refine lv_iload_n hx hb dX6_readPart_80 rfl (lv_at hl 0 rfl) ?_
          refine sRdI (As := [.int readCells, .int ((text (pw + 1)) - (97 : Int32))]) (rest := []) hF (c_X6_has l D cI cZ q readCells ((text (pw + 1)) - (97 : Int32))) (gdS tm_3_118 tm_3_119 tm_1_6 tm_3_120) de_X6_has ⟨Nat.le_of_ble_eq_true rfl, Nat.le_of_ble_eq_true rfl⟩ va_P_nil hK hl.1 rfl (Nat.le_of_ble_eq_true rfl) dX6_readPart_81 ⟨Nat.zero_le _, Nat.zero_le _⟩ ?_
          refine lv_if_eq (tgt := 89) hx hb dX6_readPart_84 (by decide) (fun c_84 => ?_) (fun c_84 => ?_)
          · rw [if_pos c_84] at hR
            refine lv_aload_n hx hb dX6_readPart_89 rfl (lv_at hl 1 rfl) ?_
            refine lv_dup hx hb dX6_readPart_90 rfl ?_
            refine va_get (D := D) (ci := 5) (v := .int (nI (pw + 1))) (C := RX6) (T := TX6) (N := 30) hx hb hts tbX6 hown hK hP 0 MW_0 rfl 3 (by decide) (hts _ tm_3_4) (fun _ h9 => h9) rfl dX6_readPart_91 ?_
            refine lv_iconst (v := (1 : Int32)) hx hb dX6_readPart_94 (by decide) ?_
            refine lv_iadd hx hb dX6_readPart_95 ?_
            refine lv_rw (z := (nI (pw + 1 + 1))) (nI_1 _) ?_
            refine va_put (D := D) (ci := 5) (v := .int (nI (pw + 1 + 1))) (ty := .int) (C := RX6) (T := TX6) (N := 30) hx hb hts tbX6 tyX6 tyX6_ok nmX6 hown hK hP hD hS 0 MW_0 rfl 3 (by decide) (hts _ tm_3_4) (fun _ h9 => h9) rfl (by decide +kernel) rfl rfl (Nat.le_of_ble_eq_true rfl) dX6_readPart_96 (fun H locs hP _ hS => ?_)
            have hP : va_P D vwCl (MW cI cZ q thrown (nI L) (nI (pw + 1 + 1)) stock parts readStock readCells (nI r) acts tried soonMany soonWhich kindMany kindFirst restMany restFirst text lies kind readPart page trial book kept isKept triedAbout triedIs gains value seed) H := hP
            have hD : va_D A (MW cI cZ q thrown (nI L) (nI (pw + 1 + 1)) stock parts readStock readCells (nI r) acts tried soonMany soonWhich kindMany kindFirst restMany restFirst text lies kind readPart page trial book kept isKept triedAbout triedIs gains value seed) := hD.same (MW_ad.trans MW_ad.symm)
            refine lv_aload_n hx hb dX6_readPart_99 rfl (lv_at hl 1 rfl) ?_
            refine va_get (D := D) (ci := 5) (v := .int (nI (pw + 1 + 1))) (C := RX6) (T := TX6) (N := 30) hx hb hts tbX6 hown hK hP 0 MW_0 rfl 3 (by decide) (hts _ tm_3_4) (fun _ h9 => h9) rfl dX6_readPart_100 ?_
            refine lv_aload_n hx hb dX6_readPart_103 rfl (lv_at hl 1 rfl) ?_
            refine va_get (D := D) (ci := 5) (v := .int (nI L)) (C := RX6) (T := TX6) (N := 30) hx hb hts tbX6 hown hK hP 0 MW_0 rfl 2 (by decide) (hts _ tm_3_3) (fun _ h9 => h9) rfl dX6_readPart_104 ?_
            refine lv_icmp_ge (tgt := 125) hx hb dX6_readPart_107 (by decide) (fun c_107 => ?_) (fun c_107 => ?_)
            · rw [if_pos c_107] at hR
              refine lv_bipush (v := (-9 : Int32)) hx hb dX6_readPart_125 (by decide) ?_
              refine lv_istore_n (lv' := [(2, .int (-9 : Int32)), (1, .int ((text (pw + 1)) - (97 : Int32))), (0, .ref (q 0))]) hx hb dX6_readPart_127 rfl hl (by decide) rfl (fun ls hl => ?_)
              refine lv_iload_n hx hb dX6_readPart_128 rfl (lv_at hl 0 rfl) ?_
              refine lv_i2l (v := (-9 : Int32).toInt64) hx hb dX6_readPart_129 rfl ?_
              refine lv_lconst (v := (0 : Int64)) hx hb dX6_readPart_130 (by decide) ?_
              refine lv_ldc2 (v := (3 : Int64)) hx hb hown (hts _ tm_3_121) dX6_readPart_131 ?_
              refine sRdI (As := [.long (-9 : Int32).toInt64, .long (0 : Int64), .long (3 : Int64)]) (rest := []) hF (c_X6_in l D cI cZ q (-9 : Int32).toInt64 (0 : Int64) (3 : Int64)) (gdS tm_3_97 tm_3_98 tm_1_6 tm_3_99) de_X6_in ⟨Nat.le_of_ble_eq_true rfl, Nat.le_of_ble_eq_true rfl⟩ va_P_nil hK hl.1 rfl (Nat.le_of_ble_eq_true rfl) dX6_readPart_134 ⟨Nat.zero_le _, Nat.zero_le _⟩ ?_
              refine lv_if_ne (tgt := 142) hx hb dX6_readPart_137 (by decide) (fun c_137 => absurd c_137 (not_not_intro (by decide +kernel))) (fun c_137 => ?_)
              refine lv_iconst (v := (0 : Int32)) hx hb dX6_readPart_140 (by decide) ?_
              subst hR
              exact fin _ _ _ _ dX6_readPart_141 (nar_b (Or.inl rfl)) hP hS
            · rw [if_neg c_107] at hR
              have hp2 : pw + 1 + 1 < L := nI_lt_of (by omega) c_107
              refine lv_aload_n hx hb dX6_readPart_110 rfl (lv_at hl 1 rfl) ?_
              refine va_get (D := D) (ci := 5) (v := .ref (q 1)) (C := RX6) (T := TX6) (N := 30) hx hb hts tbX6 hown hK hP 0 MW_0 rfl 1 (by decide) (hts _ tm_3_2) (fun _ h9 => h9) rfl dX6_readPart_111 ?_
              refine lv_aload_n hx hb dX6_readPart_114 rfl (lv_at hl 1 rfl) ?_
              refine va_get (D := D) (ci := 5) (v := .int (nI (pw + 1 + 1))) (C := RX6) (T := TX6) (N := 30) hx hb hts tbX6 hown hK hP 0 MW_0 rfl 3 (by decide) (hts _ tm_3_4) (fun _ h9 => h9) rfl dX6_readPart_115 ?_
              refine va_iald hx hb hK hP 1 0 MW_1 rfl (vp_in_nI (show (pw + 1 + 1) < 32 by omega) (by omega)) dX6_readPart_118 ?_
              refine lv_rw (z := (text (pw + 1 + 1))) (congrArg text (nI_clamp (show (pw + 1 + 1) < 2 ^ 31 by omega))) ?_
              refine lv_bipush (v := (48 : Int32)) hx hb dX6_readPart_119 (by decide) ?_
              refine lv_isub hx hb dX6_readPart_121 ?_
              refine lv_goto (tgt := 127) hx hb dX6_readPart_122 (by decide) ?_
              refine lv_istore_n (lv' := [(2, .int ((text (pw + 1 + 1)) - (48 : Int32))), (1, .int ((text (pw + 1)) - (97 : Int32))), (0, .ref (q 0))]) hx hb dX6_readPart_127 rfl hl (by decide) rfl (fun ls hl => ?_)
              refine lv_iload_n hx hb dX6_readPart_128 rfl (lv_at hl 0 rfl) ?_
              refine lv_i2l (v := ((text (pw + 1 + 1)) - (48 : Int32)).toInt64) hx hb dX6_readPart_129 rfl ?_
              refine lv_lconst (v := (0 : Int64)) hx hb dX6_readPart_130 (by decide) ?_
              refine lv_ldc2 (v := (3 : Int64)) hx hb hown (hts _ tm_3_121) dX6_readPart_131 ?_
              refine sRdI (As := [.long ((text (pw + 1 + 1)) - (48 : Int32)).toInt64, .long (0 : Int64), .long (3 : Int64)]) (rest := []) hF (c_X6_in l D cI cZ q ((text (pw + 1 + 1)) - (48 : Int32)).toInt64 (0 : Int64) (3 : Int64)) (gdS tm_3_97 tm_3_98 tm_1_6 tm_3_99) de_X6_in ⟨Nat.le_of_ble_eq_true rfl, Nat.le_of_ble_eq_true rfl⟩ va_P_nil hK hl.1 rfl (Nat.le_of_ble_eq_true rfl) dX6_readPart_134 ⟨Nat.zero_le _, Nat.zero_le _⟩ ?_
              refine lv_if_ne (tgt := 142) hx hb dX6_readPart_137 (by decide) (fun c_137 => ?_) (fun c_137 => ?_)
              · rw [if_neg c_137] at hR
                refine lv_aload_n hx hb dX6_readPart_142 rfl (lv_at hl 2 rfl) ?_
                refine lv_dup hx hb dX6_readPart_143 rfl ?_
                refine va_get (D := D) (ci := 5) (v := .int (nI (pw + 1 + 1))) (C := RX6) (T := TX6) (N := 30) hx hb hts tbX6 hown hK hP 0 MW_0 rfl 3 (by decide) (hts _ tm_3_4) (fun _ h9 => h9) rfl dX6_readPart_144 ?_
                refine lv_iconst (v := (1 : Int32)) hx hb dX6_readPart_147 (by decide) ?_
                refine lv_iadd hx hb dX6_readPart_148 ?_
                refine lv_rw (z := (nI (pw + 1 + 1 + 1))) (nI_1 _) ?_
                refine va_put (D := D) (ci := 5) (v := .int (nI (pw + 1 + 1 + 1))) (ty := .int) (C := RX6) (T := TX6) (N := 30) hx hb hts tbX6 tyX6 tyX6_ok nmX6 hown hK hP hD hS 0 MW_0 rfl 3 (by decide) (hts _ tm_3_4) (fun _ h9 => h9) rfl (by decide +kernel) rfl rfl (Nat.le_of_ble_eq_true rfl) dX6_readPart_149 (fun H locs hP _ hS => ?_)
                have hP : va_P D vwCl (MW cI cZ q thrown (nI L) (nI (pw + 1 + 1 + 1)) stock parts readStock readCells (nI r) acts tried soonMany soonWhich kindMany kindFirst restMany restFirst text lies kind readPart page trial book kept isKept triedAbout triedIs gains value seed) H := hP
                have hD : va_D A (MW cI cZ q thrown (nI L) (nI (pw + 1 + 1 + 1)) stock parts readStock readCells (nI r) acts tried soonMany soonWhich kindMany kindFirst restMany restFirst text lies kind readPart page trial book kept isKept triedAbout triedIs gains value seed) := hD.same (MW_ad.trans MW_ad.symm)
                refine lv_aload_n hx hb dX6_readPart_152 rfl (lv_at hl 2 rfl) ?_
                refine lv_dup hx hb dX6_readPart_153 rfl ?_
                refine va_get (D := D) (ci := 5) (v := .int readCells) (C := RX6) (T := TX6) (N := 30) hx hb hts tbX6 hown hK hP 0 MW_0 rfl 9 (by decide) (hts _ tm_3_10) (fun _ h9 => h9) rfl dX6_readPart_154 ?_
                refine lv_iconst (v := (1 : Int32)) hx hb dX6_readPart_157 (by decide) ?_
                refine lv_iload_n hx hb dX6_readPart_158 rfl (lv_at hl 1 rfl) ?_
                refine lv_ishl hx hb dX6_readPart_159 ?_
                refine lv_rw (z := (shl (1 : Int32) ((text (pw + 1)) - (97 : Int32)))) rfl ?_
                refine lv_ior hx hb dX6_readPart_160 ?_
                refine va_put (D := D) (ci := 5) (v := .int (readCells ||| (shl (1 : Int32) ((text (pw + 1)) - (97 : Int32))))) (ty := .int) (C := RX6) (T := TX6) (N := 30) hx hb hts tbX6 tyX6 tyX6_ok nmX6 hown hK hP hD hS 0 MW_0 rfl 9 (by decide) (hts _ tm_3_10) (fun _ h9 => h9) rfl (by decide +kernel) rfl rfl (Nat.le_of_ble_eq_true rfl) dX6_readPart_161 (fun H locs hP _ hS => ?_)
                have hP : va_P D vwCl (MW cI cZ q thrown (nI L) (nI (pw + 1 + 1 + 1)) stock parts readStock (readCells ||| (shl (1 : Int32) ((text (pw + 1)) - (97 : Int32)))) (nI r) acts tried soonMany soonWhich kindMany kindFirst restMany restFirst text lies kind readPart page trial book kept isKept triedAbout triedIs gains value seed) H := hP
                have hD : va_D A (MW cI cZ q thrown (nI L) (nI (pw + 1 + 1 + 1)) stock parts readStock (readCells ||| (shl (1 : Int32) ((text (pw + 1)) - (97 : Int32)))) (nI r) acts tried soonMany soonWhich kindMany kindFirst restMany restFirst text lies kind readPart page trial book kept isKept triedAbout triedIs gains value seed) := hD.same (MW_ad.trans MW_ad.symm)
                refine lv_aload_n hx hb dX6_readPart_164 rfl (lv_at hl 2 rfl) ?_
                refine va_get (D := D) (ci := 5) (v := .ref (q 4)) (C := RX6) (T := TX6) (N := 30) hx hb hts tbX6 hown hK hP 0 MW_0 rfl 11 (by decide) (hts _ tm_3_12) (fun _ h9 => h9) rfl dX6_readPart_165 ?_
                refine lv_iconst (v := (2 : Int32)) hx hb dX6_readPart_168 (by decide) ?_
                refine lv_aload_n hx hb dX6_readPart_169 rfl (lv_at hl 2 rfl) ?_
                refine va_get (D := D) (ci := 5) (v := .int (nI r)) (C := RX6) (T := TX6) (N := 30) hx hb hts tbX6 hown hK hP 0 MW_0 rfl 10 (by decide) (hts _ tm_3_11) (fun _ h9 => h9) rfl dX6_readPart_170 ?_
                refine lv_imul hx hb dX6_readPart_173 ?_
                refine lv_rw (z := (nI (2 * r))) (pk_mul 2 _) ?_
                refine lv_iload_n hx hb dX6_readPart_174 rfl (lv_at hl 1 rfl) ?_
                refine va_iast hx hb hK hP hD hS 4 0 MW_4 rfl (vp_in_nI (show (2 * r) < 14 by omega) (by omega)) dX6_readPart_175 (fun H locs hP _ hS => ?_)
                have hP : va_P D vwCl (MW cI cZ q thrown (nI L) (nI (pw + 1 + 1 + 1)) stock parts readStock (readCells ||| (shl (1 : Int32) ((text (pw + 1)) - (97 : Int32)))) (nI r) acts tried soonMany soonWhich kindMany kindFirst restMany restFirst text lies kind (upd readPart (nI (2 * r)).toNatClampNeg ((text (pw + 1)) - (97 : Int32))) page trial book kept isKept triedAbout triedIs gains value seed) H := hP
                rw [(nI_clamp (show (2 * r) < 2 ^ 31 by omega))] at hP
                have hD : va_D A (MW cI cZ q thrown (nI L) (nI (pw + 1 + 1 + 1)) stock parts readStock (readCells ||| (shl (1 : Int32) ((text (pw + 1)) - (97 : Int32)))) (nI r) acts tried soonMany soonWhich kindMany kindFirst restMany restFirst text lies kind (upd readPart (2 * r) ((text (pw + 1)) - (97 : Int32))) page trial book kept isKept triedAbout triedIs gains value seed) := hD.same (MW_ad.trans MW_ad.symm)
                refine lv_aload_n hx hb dX6_readPart_176 rfl (lv_at hl 2 rfl) ?_
                refine va_get (D := D) (ci := 5) (v := .ref (q 4)) (C := RX6) (T := TX6) (N := 30) hx hb hts tbX6 hown hK hP 0 MW_0 rfl 11 (by decide) (hts _ tm_3_12) (fun _ h9 => h9) rfl dX6_readPart_177 ?_
                refine lv_iconst (v := (2 : Int32)) hx hb dX6_readPart_180 (by decide) ?_
                refine lv_aload_n hx hb dX6_readPart_181 rfl (lv_at hl 2 rfl) ?_
                refine va_get (D := D) (ci := 5) (v := .int (nI r)) (C := RX6) (T := TX6) (N := 30) hx hb hts tbX6 hown hK hP 0 MW_0 rfl 10 (by decide) (hts _ tm_3_11) (fun _ h9 => h9) rfl dX6_readPart_182 ?_
                refine lv_imul hx hb dX6_readPart_185 ?_
                refine lv_rw (z := (nI (2 * r))) (pk_mul 2 _) ?_
                refine lv_iconst (v := (1 : Int32)) hx hb dX6_readPart_186 (by decide) ?_
                refine lv_iadd hx hb dX6_readPart_187 ?_
                refine lv_rw (z := (nI (2 * r + 1))) (nI_1 _) ?_
                refine lv_iload_n hx hb dX6_readPart_188 rfl (lv_at hl 0 rfl) ?_
                refine va_iast hx hb hK hP hD hS 4 0 MW_4 rfl (vp_in_nI (show (2 * r + 1) < 14 by omega) (by omega)) dX6_readPart_189 (fun H locs hP _ hS => ?_)
                have hP : va_P D vwCl (MW cI cZ q thrown (nI L) (nI (pw + 1 + 1 + 1)) stock parts readStock (readCells ||| (shl (1 : Int32) ((text (pw + 1)) - (97 : Int32)))) (nI r) acts tried soonMany soonWhich kindMany kindFirst restMany restFirst text lies kind (upd (upd readPart (2 * r) ((text (pw + 1)) - (97 : Int32))) (nI (2 * r + 1)).toNatClampNeg ((text (pw + 1 + 1)) - (48 : Int32))) page trial book kept isKept triedAbout triedIs gains value seed) H := hP
                rw [(nI_clamp (show (2 * r + 1) < 2 ^ 31 by omega))] at hP
                have hD : va_D A (MW cI cZ q thrown (nI L) (nI (pw + 1 + 1 + 1)) stock parts readStock (readCells ||| (shl (1 : Int32) ((text (pw + 1)) - (97 : Int32)))) (nI r) acts tried soonMany soonWhich kindMany kindFirst restMany restFirst text lies kind (upd (upd readPart (2 * r) ((text (pw + 1)) - (97 : Int32))) (2 * r + 1) ((text (pw + 1 + 1)) - (48 : Int32))) page trial book kept isKept triedAbout triedIs gains value seed) := hD.same (MW_ad.trans MW_ad.symm)
                refine lv_aload_n hx hb dX6_readPart_190 rfl (lv_at hl 2 rfl) ?_
                refine lv_dup hx hb dX6_readPart_191 rfl ?_
                refine va_get (D := D) (ci := 5) (v := .int (nI r)) (C := RX6) (T := TX6) (N := 30) hx hb hts tbX6 hown hK hP 0 MW_0 rfl 10 (by decide) (hts _ tm_3_11) (fun _ h9 => h9) rfl dX6_readPart_192 ?_
                refine lv_iconst (v := (1 : Int32)) hx hb dX6_readPart_195 (by decide) ?_
                refine lv_iadd hx hb dX6_readPart_196 ?_
                refine lv_rw (z := (nI (r + 1))) (nI_1 _) ?_
                refine va_put (D := D) (ci := 5) (v := .int (nI (r + 1))) (ty := .int) (C := RX6) (T := TX6) (N := 30) hx hb hts tbX6 tyX6 tyX6_ok nmX6 hown hK hP hD hS 0 MW_0 rfl 10 (by decide) (hts _ tm_3_11) (fun _ h9 => h9) rfl (by decide +kernel) rfl rfl (Nat.le_of_ble_eq_true rfl) dX6_readPart_197 (fun H locs hP _ hS => ?_)
                have hP : va_P D vwCl (MW cI cZ q thrown (nI L) (nI (pw + 1 + 1 + 1)) stock parts readStock (readCells ||| (shl (1 : Int32) ((text (pw + 1)) - (97 : Int32)))) (nI (r + 1)) acts tried soonMany soonWhich kindMany kindFirst restMany restFirst text lies kind (upd (upd readPart (2 * r) ((text (pw + 1)) - (97 : Int32))) (2 * r + 1) ((text (pw + 1 + 1)) - (48 : Int32))) page trial book kept isKept triedAbout triedIs gains value seed) H := hP
                have hD : va_D A (MW cI cZ q thrown (nI L) (nI (pw + 1 + 1 + 1)) stock parts readStock (readCells ||| (shl (1 : Int32) ((text (pw + 1)) - (97 : Int32)))) (nI (r + 1)) acts tried soonMany soonWhich kindMany kindFirst restMany restFirst text lies kind (upd (upd readPart (2 * r) ((text (pw + 1)) - (97 : Int32))) (2 * r + 1) ((text (pw + 1 + 1)) - (48 : Int32))) page trial book kept isKept triedAbout triedIs gains value seed) := hD.same (MW_ad.trans MW_ad.symm)
                refine lv_iconst (v := (1 : Int32)) hx hb dX6_readPart_200 (by decide) ?_
                subst hR
                exact fin _ _ _ _ dX6_readPart_201 (nar_b (Or.inr rfl)) hP hS
              · rw [if_pos c_137] at hR
                refine lv_iconst (v := (0 : Int32)) hx hb dX6_readPart_140 (by decide) ?_
                subst hR
                exact fin _ _ _ _ dX6_readPart_141 (nar_b (Or.inl rfl)) hP hS
          · rw [if_neg c_84] at hR
            refine lv_iconst (v := (0 : Int32)) hx hb dX6_readPart_87 (by decide) ?_
            subst hR
            exact fin _ _ _ _ dX6_readPart_88 (nar_b (Or.inl rfl)) hP hS
    · rw [if_pos c_20] at hR
      refine lv_iconst (v := (0 : Int32)) hx hb dX6_readPart_23 (by decide) ?_
      subst hR
      exact fin _ _ _ _ dX6_readPart_24 (nar_b (Or.inl rfl)) hP hS
theorem readPart_ok {L p r : Nat} {readCells : Int32} {text readPart : Nat → Int32} (h : ¬ (f_X6_readPart L p r readCells text readPart).1 = 0) : (f_X6_readPart L p r readCells text readPart).2.1 = nI (p + 1 + 1 + 1) ∧ (f_X6_readPart L p r readCells text readPart).2.2.2.1 = nI (r + 1) ∧ ¬ nI r = 7 := by
  unfold f_X6_readPart at h ⊢
  repeat' split at h
  all_goals first | exact absurd rfl h | simp [*]
def f_X6_readIdea_l83 (L : Nat) (text : Nat → Int32) : Nat → (Nat) → (Int32) → (Nat) → (Nat → Int32) → (Int32) × (Int32) × (Int32) × (Int32) × (Int32) × (Nat → Int32)
  | 0, pl83, rc83, rp83, ra83 => ((-9 : Int32), (nI pl83), (0 : Int32), rc83, (nI rp83), ra83)
  | d_83 + 1, pl83, rc83, rp83, ra83 => (if (nI L) ≤ (nI pl83) then ((-9 : Int32), (nI pl83), ((text 1) - (48 : Int32)), rc83, (nI rp83), ra83) else (if (f_X6_readPart L pl83 rp83 rc83 text ra83).1 = (0 : Int32) then ((f_X6_readPart L pl83 rp83 rc83 text ra83).2.1, (f_X6_readPart L pl83 rp83 rc83 text ra83).2.1, ((text 1) - (48 : Int32)), (f_X6_readPart L pl83 rp83 rc83 text ra83).2.2.1, (f_X6_readPart L pl83 rp83 rc83 text ra83).2.2.2.1, (f_X6_readPart L pl83 rp83 rc83 text ra83).2.2.2.2) else (f_X6_readIdea_l83 L text d_83 (pl83 + 1 + 1 + 1) (f_X6_readPart L pl83 rp83 rc83 text ra83).2.2.1 (rp83 + 1) (f_X6_readPart L pl83 rp83 rc83 text ra83).2.2.2.2)))
theorem f_X6_readIdea_l83_z {L : Nat} {text : Nat → Int32} {pl83 : Nat} {rc83 : Int32} {rp83 : Nat} {ra83 : Nat → Int32} : f_X6_readIdea_l83 L text 0 pl83 rc83 rp83 ra83 = ((-9 : Int32), (nI pl83), (0 : Int32), rc83, (nI rp83), ra83) := by rw [f_X6_readIdea_l83]
theorem f_X6_readIdea_l83_s {L : Nat} {text : Nat → Int32} {d_83 : Nat} {pl83 : Nat} {rc83 : Int32} {rp83 : Nat} {ra83 : Nat → Int32} : f_X6_readIdea_l83 L text (d_83 + 1) pl83 rc83 rp83 ra83 = (if (nI L) ≤ (nI pl83) then ((-9 : Int32), (nI pl83), ((text 1) - (48 : Int32)), rc83, (nI rp83), ra83) else (if (f_X6_readPart L pl83 rp83 rc83 text ra83).1 = (0 : Int32) then ((f_X6_readPart L pl83 rp83 rc83 text ra83).2.1, (f_X6_readPart L pl83 rp83 rc83 text ra83).2.1, ((text 1) - (48 : Int32)), (f_X6_readPart L pl83 rp83 rc83 text ra83).2.2.1, (f_X6_readPart L pl83 rp83 rc83 text ra83).2.2.2.1, (f_X6_readPart L pl83 rp83 rc83 text ra83).2.2.2.2) else (f_X6_readIdea_l83 L text d_83 (pl83 + 1 + 1 + 1) (f_X6_readPart L pl83 rp83 rc83 text ra83).2.2.1 (rp83 + 1) (f_X6_readPart L pl83 rp83 rc83 text ra83).2.2.2.2))) := by rw [f_X6_readIdea_l83]
def f_X6_readIdea (L : Nat) (readStock : Int32) (text : Nat → Int32) (readPart : Nat → Int32) : (Int32) × (Int32) × (Int32) × (Int32) × (Int32) × (Nat → Int32) := (if (nI L) = (0 : Int32) then ((0 : Int32), (0 : Int32), readStock, (0 : Int32), (0 : Int32), readPart) else (if (text 0) = (73 : Int32) then (if (nI L) ≤ (1 : Int32) then ((1 : Int32), (0 : Int32), (-9 : Int32), (0 : Int32), (0 : Int32), readPart) else (if (f_X6_in ((text 1) - (48 : Int32)).toInt64 (0 : Int64) (9 : Int64)) = (0 : Int32) then ((1 : Int32), (0 : Int32), ((text 1) - (48 : Int32)), (0 : Int32), (0 : Int32), readPart) else (f_X6_readIdea_l83 L text 9 2 (0 : Int32) 0 readPart))) else ((0 : Int32), (0 : Int32), readStock, (0 : Int32), (0 : Int32), readPart)))
set_option maxHeartbeats 4000000 in
set_option maxRecDepth 100000 in
theorem c_X6_readIdea (l : Launch) (D : va_G) (cI cZ : ClassId) (q : Nat → Nat) (thrown : Int32) (L : Nat) (place : Int32) (stock : Int32) (parts : Int32) (readStock : Int32) (readCells : Int32) (readParts : Int32) (acts : Int32) (tried : Int32) (soonMany : Int32) (soonWhich : Int32) (kindMany : Int32) (kindFirst : Int32) (restMany : Int32) (restFirst : Int32) (text lies kind readPart page trial book kept isKept triedAbout triedIs gains value : Nat → Int32) (seed : Int64) (hL32 : L ≤ 32) : WrI l yX6_readIdea cX6_readIdea 1 .int 2 47 D (tyL cI cZ) (MW cI cZ q thrown (nI L) place stock parts readStock readCells readParts acts tried soonMany soonWhich kindMany kindFirst restMany restFirst text lies kind readPart page trial book kept isKept triedAbout triedIs gains value seed) [.ref (q 0)] (f_X6_readIdea L readStock text readPart).1 (MW cI cZ q thrown (nI L) (f_X6_readIdea L readStock text readPart).2.1 stock parts (f_X6_readIdea L readStock text readPart).2.2.1 (f_X6_readIdea L readStock text readPart).2.2.2.1 (f_X6_readIdea L readStock text readPart).2.2.2.2.1 acts tried soonMany soonWhich kindMany kindFirst restMany restFirst text lies kind (f_X6_readIdea L readStock text readPart).2.2.2.2.2 page trial book kept isKept triedAbout triedIs gains value seed) := by
  refine WrI.of (by decide) (Nat.le_of_ble_eq_true rfl) ?_
  intro p e s m args below meth c Q A hx hb hml hown hts hP hK hD hS fin ls hl
  have hown : s.vm.findClass RX6 = some m.cls := hown
  have hF : CallFix p m c cX6_readIdea 1 s args tb RX6 := ⟨hx, hb, hml, hown, hts⟩
  have hl : lv_has ls 1 [(0, .ref (q 0))] := hl
  generalize hR : (f_X6_readIdea L readStock text readPart) = R at fin
  unfold f_X6_readIdea at hR
  refine lv_aload_n hx hb dX6_readIdea_0 rfl (lv_at hl 0 rfl) ?_
  refine lv_iconst (v := (0 : Int32)) hx hb dX6_readIdea_1 (by decide) ?_
  refine va_put (D := D) (ci := 5) (v := .int (0 : Int32)) (ty := .int) (C := RX6) (T := TX6) (N := 30) hx hb hts tbX6 tyX6 tyX6_ok nmX6 hown hK hP hD hS 0 MW_0 rfl 3 (by decide) (hts _ tm_3_4) (fun _ h9 => h9) rfl (by decide +kernel) rfl rfl (Nat.le_of_ble_eq_true rfl) dX6_readIdea_2 (fun H locs hP _ hS => ?_)
  have hP : va_P D vwCl (MW cI cZ q thrown (nI L) (0 : Int32) stock parts readStock readCells readParts acts tried soonMany soonWhich kindMany kindFirst restMany restFirst text lies kind readPart page trial book kept isKept triedAbout triedIs gains value seed) H := hP
  have hD : va_D A (MW cI cZ q thrown (nI L) (0 : Int32) stock parts readStock readCells readParts acts tried soonMany soonWhich kindMany kindFirst restMany restFirst text lies kind readPart page trial book kept isKept triedAbout triedIs gains value seed) := hD.same (MW_ad.trans MW_ad.symm)
  refine lv_aload_n hx hb dX6_readIdea_5 rfl (lv_at hl 0 rfl) ?_
  refine lv_iconst (v := (0 : Int32)) hx hb dX6_readIdea_6 (by decide) ?_
  refine va_put (D := D) (ci := 5) (v := .int (0 : Int32)) (ty := .int) (C := RX6) (T := TX6) (N := 30) hx hb hts tbX6 tyX6 tyX6_ok nmX6 hown hK hP hD hS 0 MW_0 rfl 9 (by decide) (hts _ tm_3_10) (fun _ h9 => h9) rfl (by decide +kernel) rfl rfl (Nat.le_of_ble_eq_true rfl) dX6_readIdea_7 (fun H locs hP _ hS => ?_)
  have hP : va_P D vwCl (MW cI cZ q thrown (nI L) (0 : Int32) stock parts readStock (0 : Int32) readParts acts tried soonMany soonWhich kindMany kindFirst restMany restFirst text lies kind readPart page trial book kept isKept triedAbout triedIs gains value seed) H := hP
  have hD : va_D A (MW cI cZ q thrown (nI L) (0 : Int32) stock parts readStock (0 : Int32) readParts acts tried soonMany soonWhich kindMany kindFirst restMany restFirst text lies kind readPart page trial book kept isKept triedAbout triedIs gains value seed) := hD.same (MW_ad.trans MW_ad.symm)
  refine lv_aload_n hx hb dX6_readIdea_10 rfl (lv_at hl 0 rfl) ?_
  refine lv_iconst (v := (0 : Int32)) hx hb dX6_readIdea_11 (by decide) ?_
  refine va_put (D := D) (ci := 5) (v := .int (0 : Int32)) (ty := .int) (C := RX6) (T := TX6) (N := 30) hx hb hts tbX6 tyX6 tyX6_ok nmX6 hown hK hP hD hS 0 MW_0 rfl 10 (by decide) (hts _ tm_3_11) (fun _ h9 => h9) rfl (by decide +kernel) rfl rfl (Nat.le_of_ble_eq_true rfl) dX6_readIdea_12 (fun H locs hP _ hS => ?_)
  have hP : va_P D vwCl (MW cI cZ q thrown (nI L) (0 : Int32) stock parts readStock (0 : Int32) (0 : Int32) acts tried soonMany soonWhich kindMany kindFirst restMany restFirst text lies kind readPart page trial book kept isKept triedAbout triedIs gains value seed) H := hP
  have hD : va_D A (MW cI cZ q thrown (nI L) (0 : Int32) stock parts readStock (0 : Int32) (0 : Int32) acts tried soonMany soonWhich kindMany kindFirst restMany restFirst text lies kind readPart page trial book kept isKept triedAbout triedIs gains value seed) := hD.same (MW_ad.trans MW_ad.symm)
  refine lv_aload_n hx hb dX6_readIdea_15 rfl (lv_at hl 0 rfl) ?_
  refine va_get (D := D) (ci := 5) (v := .int (nI L)) (C := RX6) (T := TX6) (N := 30) hx hb hts tbX6 hown hK hP 0 MW_0 rfl 2 (by decide) (hts _ tm_3_3) (fun _ h9 => h9) rfl dX6_readIdea_16 ?_
  refine lv_if_eq (tgt := 33) hx hb dX6_readIdea_19 (by decide) (fun c_19 => ?_) (fun c_19 => ?_)
  · rw [if_pos c_19] at hR
    refine lv_iconst (v := (0 : Int32)) hx hb dX6_readIdea_33 (by decide) ?_
    subst hR
    exact fin _ _ _ _ dX6_readIdea_34 (nar_i _) hP hS
  · rw [if_neg c_19] at hR
    refine lv_aload_n hx hb dX6_readIdea_22 rfl (lv_at hl 0 rfl) ?_
    refine va_get (D := D) (ci := 5) (v := .ref (q 1)) (C := RX6) (T := TX6) (N := 30) hx hb hts tbX6 hown hK hP 0 MW_0 rfl 1 (by decide) (hts _ tm_3_2) (fun _ h9 => h9) rfl dX6_readIdea_23 ?_
    refine lv_iconst (v := (0 : Int32)) hx hb dX6_readIdea_26 (by decide) ?_
    refine va_iald hx hb hK hP 1 0 MW_1 rfl (vp_in_nI (n := 0) (by decide) (by decide)) dX6_readIdea_27 ?_
    refine lv_rw (z := (text 0)) (congrArg text cl_0) ?_
    refine lv_bipush (v := (73 : Int32)) hx hb dX6_readIdea_28 (by decide) ?_
    refine lv_icmp_eq (tgt := 35) hx hb dX6_readIdea_30 (by decide) (fun c_30 => ?_) (fun c_30 => ?_)
    · rw [if_pos c_30] at hR
      refine lv_aload_n hx hb dX6_readIdea_35 rfl (lv_at hl 0 rfl) ?_
      refine lv_aload_n hx hb dX6_readIdea_36 rfl (lv_at hl 0 rfl) ?_
      refine va_get (D := D) (ci := 5) (v := .int (nI L)) (C := RX6) (T := TX6) (N := 30) hx hb hts tbX6 hown hK hP 0 MW_0 rfl 2 (by decide) (hts _ tm_3_3) (fun _ h9 => h9) rfl dX6_readIdea_37 ?_
      refine lv_iconst (v := (1 : Int32)) hx hb dX6_readIdea_40 (by decide) ?_
      refine lv_icmp_le (tgt := 56) hx hb dX6_readIdea_41 (by decide) (fun c_41 => ?_) (fun c_41 => ?_)
      · rw [if_pos c_41] at hR
        refine lv_bipush (v := (-9 : Int32)) hx hb dX6_readIdea_56 (by decide) ?_
        refine va_put (D := D) (ci := 5) (v := .int (-9 : Int32)) (ty := .int) (C := RX6) (T := TX6) (N := 30) hx hb hts tbX6 tyX6 tyX6_ok nmX6 hown hK hP hD hS 0 MW_0 rfl 8 (by decide) (hts _ tm_3_9) (fun _ h9 => h9) rfl (by decide +kernel) rfl rfl (Nat.le_of_ble_eq_true rfl) dX6_readIdea_58 (fun H locs hP _ hS => ?_)
        have hP : va_P D vwCl (MW cI cZ q thrown (nI L) (0 : Int32) stock parts (-9 : Int32) (0 : Int32) (0 : Int32) acts tried soonMany soonWhich kindMany kindFirst restMany restFirst text lies kind readPart page trial book kept isKept triedAbout triedIs gains value seed) H := hP
        have hD : va_D A (MW cI cZ q thrown (nI L) (0 : Int32) stock parts (-9 : Int32) (0 : Int32) (0 : Int32) acts tried soonMany soonWhich kindMany kindFirst restMany restFirst text lies kind readPart page trial book kept isKept triedAbout triedIs gains value seed) := hD.same (MW_ad.trans MW_ad.symm)
        refine lv_aload_n hx hb dX6_readIdea_61 rfl (lv_at hl 0 rfl) ?_
        refine va_get (D := D) (ci := 5) (v := .int (-9 : Int32)) (C := RX6) (T := TX6) (N := 30) hx hb hts tbX6 hown hK hP 0 MW_0 rfl 8 (by decide) (hts _ tm_3_9) (fun _ h9 => h9) rfl dX6_readIdea_62 ?_
        refine lv_i2l (v := (-9 : Int32).toInt64) hx hb dX6_readIdea_65 rfl ?_
        refine lv_lconst (v := (0 : Int64)) hx hb dX6_readIdea_66 (by decide) ?_
        refine lv_ldc2 (v := (9 : Int64)) hx hb hown (hts _ tm_3_112) dX6_readIdea_67 ?_
        refine sRdI (As := [.long (-9 : Int32).toInt64, .long (0 : Int64), .long (9 : Int64)]) (rest := []) hF (c_X6_in l D cI cZ q (-9 : Int32).toInt64 (0 : Int64) (9 : Int64)) (gdS tm_3_97 tm_3_98 tm_1_6 tm_3_99) de_X6_in ⟨Nat.le_of_ble_eq_true rfl, Nat.le_of_ble_eq_true rfl⟩ va_P_nil hK hl.1 rfl (Nat.le_of_ble_eq_true rfl) dX6_readIdea_70 ⟨Nat.zero_le _, Nat.zero_le _⟩ ?_
        refine lv_if_ne (tgt := 78) hx hb dX6_readIdea_73 (by decide) (fun c_73 => absurd c_73 (not_not_intro (by decide +kernel))) (fun c_73 => ?_)
        refine lv_iconst (v := (1 : Int32)) hx hb dX6_readIdea_76 (by decide) ?_
        subst hR
        exact fin _ _ _ _ dX6_readIdea_77 (nar_i _) hP hS
      · rw [if_neg c_41] at hR
        refine lv_aload_n hx hb dX6_readIdea_44 rfl (lv_at hl 0 rfl) ?_
        refine va_get (D := D) (ci := 5) (v := .ref (q 1)) (C := RX6) (T := TX6) (N := 30) hx hb hts tbX6 hown hK hP 0 MW_0 rfl 1 (by decide) (hts _ tm_3_2) (fun _ h9 => h9) rfl dX6_readIdea_45 ?_
        refine lv_iconst (v := (1 : Int32)) hx hb dX6_readIdea_48 (by decide) ?_
        refine va_iald hx hb hK hP 1 0 MW_1 rfl (vp_in_nI (n := 1) (by decide) (by decide)) dX6_readIdea_49 ?_
        refine lv_rw (z := (text 1)) (congrArg text cl_1) ?_
        refine lv_bipush (v := (48 : Int32)) hx hb dX6_readIdea_50 (by decide) ?_
        refine lv_isub hx hb dX6_readIdea_52 ?_
        refine lv_goto (tgt := 58) hx hb dX6_readIdea_53 (by decide) ?_
        refine va_put (D := D) (ci := 5) (v := .int ((text 1) - (48 : Int32))) (ty := .int) (C := RX6) (T := TX6) (N := 30) hx hb hts tbX6 tyX6 tyX6_ok nmX6 hown hK hP hD hS 0 MW_0 rfl 8 (by decide) (hts _ tm_3_9) (fun _ h9 => h9) rfl (by decide +kernel) rfl rfl (Nat.le_of_ble_eq_true rfl) dX6_readIdea_58 (fun H locs hP _ hS => ?_)
        have hP : va_P D vwCl (MW cI cZ q thrown (nI L) (0 : Int32) stock parts ((text 1) - (48 : Int32)) (0 : Int32) (0 : Int32) acts tried soonMany soonWhich kindMany kindFirst restMany restFirst text lies kind readPart page trial book kept isKept triedAbout triedIs gains value seed) H := hP
        have hD : va_D A (MW cI cZ q thrown (nI L) (0 : Int32) stock parts ((text 1) - (48 : Int32)) (0 : Int32) (0 : Int32) acts tried soonMany soonWhich kindMany kindFirst restMany restFirst text lies kind readPart page trial book kept isKept triedAbout triedIs gains value seed) := hD.same (MW_ad.trans MW_ad.symm)
        refine lv_aload_n hx hb dX6_readIdea_61 rfl (lv_at hl 0 rfl) ?_
        refine va_get (D := D) (ci := 5) (v := .int ((text 1) - (48 : Int32))) (C := RX6) (T := TX6) (N := 30) hx hb hts tbX6 hown hK hP 0 MW_0 rfl 8 (by decide) (hts _ tm_3_9) (fun _ h9 => h9) rfl dX6_readIdea_62 ?_
        refine lv_i2l (v := ((text 1) - (48 : Int32)).toInt64) hx hb dX6_readIdea_65 rfl ?_
        refine lv_lconst (v := (0 : Int64)) hx hb dX6_readIdea_66 (by decide) ?_
        refine lv_ldc2 (v := (9 : Int64)) hx hb hown (hts _ tm_3_112) dX6_readIdea_67 ?_
        refine sRdI (As := [.long ((text 1) - (48 : Int32)).toInt64, .long (0 : Int64), .long (9 : Int64)]) (rest := []) hF (c_X6_in l D cI cZ q ((text 1) - (48 : Int32)).toInt64 (0 : Int64) (9 : Int64)) (gdS tm_3_97 tm_3_98 tm_1_6 tm_3_99) de_X6_in ⟨Nat.le_of_ble_eq_true rfl, Nat.le_of_ble_eq_true rfl⟩ va_P_nil hK hl.1 rfl (Nat.le_of_ble_eq_true rfl) dX6_readIdea_70 ⟨Nat.zero_le _, Nat.zero_le _⟩ ?_
        refine lv_if_ne (tgt := 78) hx hb dX6_readIdea_73 (by decide) (fun c_73 => ?_) (fun c_73 => ?_)
        · rw [if_neg c_73] at hR
          refine lv_aload_n hx hb dX6_readIdea_78 rfl (lv_at hl 0 rfl) ?_
          refine lv_iconst (v := (2 : Int32)) hx hb dX6_readIdea_79 (by decide) ?_
          refine va_put (D := D) (ci := 5) (v := .int (2 : Int32)) (ty := .int) (C := RX6) (T := TX6) (N := 30) hx hb hts tbX6 tyX6 tyX6_ok nmX6 hown hK hP hD hS 0 MW_0 rfl 3 (by decide) (hts _ tm_3_4) (fun _ h9 => h9) rfl (by decide +kernel) rfl rfl (Nat.le_of_ble_eq_true rfl) dX6_readIdea_80 (fun H locs hP _ hS => ?_)
          have hP : va_P D vwCl (MW cI cZ q thrown (nI L) (2 : Int32) stock parts ((text 1) - (48 : Int32)) (0 : Int32) (0 : Int32) acts tried soonMany soonWhich kindMany kindFirst restMany restFirst text lies kind readPart page trial book kept isKept triedAbout triedIs gains value seed) H := hP
          have hD : va_D A (MW cI cZ q thrown (nI L) (2 : Int32) stock parts ((text 1) - (48 : Int32)) (0 : Int32) (0 : Int32) acts tried soonMany soonWhich kindMany kindFirst restMany restFirst text lies kind readPart page trial book kept isKept triedAbout triedIs gains value seed) := hD.same (MW_ad.trans MW_ad.symm)
          have key_83 : ∀ (d_83 : Nat) (pl83 : Nat) (rc83 : Int32) (rp83 : Nat) (ra83 : Nat → Int32) (ls : Array Slot) (H : Heap) (locs : List Loc), pl83 = 2 + 3 * rp83 → rp83 + d_83 = 9 → rp83 ≤ 7 → f_X6_readIdea_l83 L text d_83 pl83 rc83 rp83 ra83 = R → lv_has ls 1 [(0, .ref (q 0))] → va_P D vwCl (MW cI cZ q thrown (nI L) (nI pl83) stock parts ((text 1) - (48 : Int32)) rc83 (nI rp83) acts tried soonMany soonWhich kindMany kindFirst restMany restFirst text lies kind ra83 page trial book kept isKept triedAbout triedIs gains value seed) H → va_S A s.heap H locs → W p l e (rmO 2 47) s m args below meth c H locs 0 0 Q (F0 m 83 ls []) := by
            intro d_83
            induction d_83 with
            | zero =>
              intro pl83 rc83 rp83 ra83 ls H locs hz_83 hy_83 hw_83 hR hl hP hS
              have hD : va_D A (MW cI cZ q thrown (nI L) (nI pl83) stock parts ((text 1) - (48 : Int32)) rc83 (nI rp83) acts tried soonMany soonWhich kindMany kindFirst restMany restFirst text lies kind ra83 page trial book kept isKept triedAbout triedIs gains value seed) := hD.same (MW_ad.trans MW_ad.symm)
              rw [f_X6_readIdea_l83_z] at hR
              exact absurd hy_83 (by omega)
            | succ d_83 ih_83 =>
              intro pl83 rc83 rp83 ra83 ls H locs hz_83 hy_83 hw_83 hR hl hP hS
              have hD : va_D A (MW cI cZ q thrown (nI L) (nI pl83) stock parts ((text 1) - (48 : Int32)) rc83 (nI rp83) acts tried soonMany soonWhich kindMany kindFirst restMany restFirst text lies kind ra83 page trial book kept isKept triedAbout triedIs gains value seed) := hD.same (MW_ad.trans MW_ad.symm)
              rw [f_X6_readIdea_l83_s] at hR
              refine lv_aload_n hx hb dX6_readIdea_83 rfl (lv_at hl 0 rfl) ?_
              refine va_get (D := D) (ci := 5) (v := .int (nI pl83)) (C := RX6) (T := TX6) (N := 30) hx hb hts tbX6 hown hK hP 0 MW_0 rfl 3 (by decide) (hts _ tm_3_4) (fun _ h9 => h9) rfl dX6_readIdea_84 ?_
              refine lv_aload_n hx hb dX6_readIdea_87 rfl (lv_at hl 0 rfl) ?_
              refine va_get (D := D) (ci := 5) (v := .int (nI L)) (C := RX6) (T := TX6) (N := 30) hx hb hts tbX6 hown hK hP 0 MW_0 rfl 2 (by decide) (hts _ tm_3_3) (fun _ h9 => h9) rfl dX6_readIdea_88 ?_
              refine lv_icmp_ge (tgt := 106) hx hb dX6_readIdea_91 (by decide) (fun c_91 => ?_) (fun c_91 => ?_)
              · rw [if_pos c_91] at hR
                refine lv_bipush (v := (-9 : Int32)) hx hb dX6_readIdea_106 (by decide) ?_
                subst hR
                exact fin _ _ _ _ dX6_readIdea_108 (nar_i _) hP hS
              · rw [if_neg c_91] at hR
                refine lv_aload_n hx hb dX6_readIdea_94 rfl (lv_at hl 0 rfl) ?_
                refine vWrI (b := (q 0)) (As := []) (rest := []) hF (c_X6_readPart l D cI cZ q thrown L pl83 stock parts ((text 1) - (48 : Int32)) rc83 rp83 acts tried soonMany soonWhich kindMany kindFirst restMany restFirst text lies kind ra83 page trial book kept isKept triedAbout triedIs gains value seed (nI_lt_of (by omega) c_91) hL32 hw_83) (gdV tm_3_113 tm_3_115 tp_11 tm_1_6 tm_3_116) de_X6_readPart ⟨Nat.le_of_ble_eq_true rfl, Nat.le_of_ble_eq_true rfl⟩ hP hK (va_recv hK hP (ci := 5) (q0 := 0) rfl MW_0) hl.1 rfl (Nat.le_of_ble_eq_true rfl) dX6_readIdea_95 ⟨Nat.zero_le _, Nat.zero_le _⟩ hD hS (fun H locs hP hS => ?_)
                have hP : va_P D vwCl (MW cI cZ q thrown (nI L) (f_X6_readPart L pl83 rp83 rc83 text ra83).2.1 stock parts ((text 1) - (48 : Int32)) (f_X6_readPart L pl83 rp83 rc83 text ra83).2.2.1 (f_X6_readPart L pl83 rp83 rc83 text ra83).2.2.2.1 acts tried soonMany soonWhich kindMany kindFirst restMany restFirst text lies kind (f_X6_readPart L pl83 rp83 rc83 text ra83).2.2.2.2 page trial book kept isKept triedAbout triedIs gains value seed) H := hP
                have hD : va_D A (MW cI cZ q thrown (nI L) (f_X6_readPart L pl83 rp83 rc83 text ra83).2.1 stock parts ((text 1) - (48 : Int32)) (f_X6_readPart L pl83 rp83 rc83 text ra83).2.2.1 (f_X6_readPart L pl83 rp83 rc83 text ra83).2.2.2.1 acts tried soonMany soonWhich kindMany kindFirst restMany restFirst text lies kind (f_X6_readPart L pl83 rp83 rc83 text ra83).2.2.2.2 page trial book kept isKept triedAbout triedIs gains value seed) := hD.same (MW_ad.trans MW_ad.symm)
                refine lv_if_ne (tgt := 83) hx hb dX6_readIdea_98 (by decide) (fun c_98 => ?_) (fun c_98 => ?_)
                · rw [if_neg c_98] at hR
                  rw [(readPart_ok c_98).1] at hP
                  rw [(readPart_ok c_98).2.1] at hP
                  exact ih_83 (pl83 + 1 + 1 + 1) (f_X6_readPart L pl83 rp83 rc83 text ra83).2.2.1 (rp83 + 1) (f_X6_readPart L pl83 rp83 rc83 text ra83).2.2.2.2 ls _ _ (by omega) (by omega) (rp7 hw_83 (readPart_ok c_98).2.2) hR (lv_sub hl [0] rfl) hP hS
                · rw [if_pos c_98] at hR
                  refine lv_aload_n hx hb dX6_readIdea_101 rfl (lv_at hl 0 rfl) ?_
                  refine va_get (D := D) (ci := 5) (v := .int (f_X6_readPart L pl83 rp83 rc83 text ra83).2.1) (C := RX6) (T := TX6) (N := 30) hx hb hts tbX6 hown hK hP 0 MW_0 rfl 3 (by decide) (hts _ tm_3_4) (fun _ h9 => h9) rfl dX6_readIdea_102 ?_
                  subst hR
                  exact fin _ _ _ _ dX6_readIdea_105 (nar_i _) hP hS
          exact key_83 9 2 (0 : Int32) 0 readPart ls _ _ (by omega) (by omega) (by omega) hR (lv_sub hl [0] rfl) hP hS
        · rw [if_pos c_73] at hR
          refine lv_iconst (v := (1 : Int32)) hx hb dX6_readIdea_76 (by decide) ?_
          subst hR
          exact fin _ _ _ _ dX6_readIdea_77 (nar_i _) hP hS
    · rw [if_neg c_30] at hR
      refine lv_iconst (v := (0 : Int32)) hx hb dX6_readIdea_33 (by decide) ?_
      subst hR
      exact fin _ _ _ _ dX6_readIdea_34 (nar_i _) hP hS
theorem readPart_rp {L p r : Nat} (hr : r ≤ 7) (readCells : Int32) (text readPart : Nat → Int32) : ∃ k, k ≤ 7 ∧ (f_X6_readPart L p r readCells text readPart).2.2.2.1 = nI k := by
  by_cases h : (f_X6_readPart L p r readCells text readPart).1 = 0
  · refine ⟨r, hr, ?_⟩
    unfold f_X6_readPart at h ⊢
    repeat' split at h
    all_goals first | exact absurd (show (1 : Int32) = 0 from h) (by decide) | simp [*]
  · have h2 := readPart_ok h
    have h3 := rp7 hr h2.2.2
    exact ⟨r + 1, by omega, h2.2.1⟩
theorem readIdea_l : ∀ (d L : Nat) (text : Nat → Int32) (p : Nat) (rc : Int32) (r : Nat) (ra : Nat → Int32), r ≤ 7 → ∃ k, k ≤ 7 ∧ (f_X6_readIdea_l83 L text d p rc r ra).2.2.2.2.1 = nI k := by
  intro d
  induction d with
  | zero => intro L text p rc r ra hr; rw [f_X6_readIdea_l83_z]; exact ⟨r, hr, rfl⟩
  | succ d ih =>
    intro L text p rc r ra hr
    rw [f_X6_readIdea_l83_s]
    by_cases h1 : nI L ≤ nI p
    · rw [if_pos h1]; exact ⟨r, hr, rfl⟩
    · rw [if_neg h1]
      by_cases h2 : (f_X6_readPart L p r rc text ra).1 = 0
      · rw [if_pos h2]; exact readPart_rp hr _ _ _
      · rw [if_neg h2]
        exact ih _ _ _ _ _ _ (by have := rp7 hr (readPart_ok h2).2.2; omega)
theorem readIdea_rp (L : Nat) (readStock : Int32) (text readPart : Nat → Int32) : ∃ k, k ≤ 7 ∧ (f_X6_readIdea L readStock text readPart).2.2.2.2.1 = nI k := by
  unfold f_X6_readIdea
  repeat' split
  all_goals first | exact ⟨0, by omega, rfl⟩ | exact readIdea_l _ _ _ _ _ _ _ (by omega)
theorem readIdea_ok (L : Nat) (readStock : Int32) (text readPart : Nat → Int32) : (f_X6_readIdea L readStock text readPart).2.2.2.2.1 = nI (f_X6_readIdea L readStock text readPart).2.2.2.2.1.toNatClampNeg ∧ (f_X6_readIdea L readStock text readPart).2.2.2.2.1.toNatClampNeg ≤ 7 := by
  obtain ⟨k, hk, e⟩ := readIdea_rp L readStock text readPart
  rw [e, nI_clamp (by omega)]
  exact ⟨rfl, hk⟩
def f_X6_fault (L : Nat) (readStock : Int32) (text : Nat → Int32) (readPart : Nat → Int32) : (Int32) × (Int32) × (Int32) × (Int32) × (Int32) × (Int32) × (Nat → Int32) := ((f_X6_readIdea L readStock text readPart).1, (0 : Int32), (f_X6_readIdea L readStock text readPart).2.1, (f_X6_readIdea L readStock text readPart).2.2.1, (f_X6_readIdea L readStock text readPart).2.2.2.1, (f_X6_readIdea L readStock text readPart).2.2.2.2.1, (f_X6_readIdea L readStock text readPart).2.2.2.2.2)
set_option maxHeartbeats 4000000 in
set_option maxRecDepth 100000 in
theorem c_X6_fault (l : Launch) (D : va_G) (cI cZ : ClassId) (q : Nat → Nat) (thrown : Int32) (L : Nat) (place : Int32) (stock : Int32) (parts : Int32) (readStock : Int32) (readCells : Int32) (readParts : Int32) (acts : Int32) (tried : Int32) (soonMany : Int32) (soonWhich : Int32) (kindMany : Int32) (kindFirst : Int32) (restMany : Int32) (restFirst : Int32) (text lies kind readPart page trial book kept isKept triedAbout triedIs gains value : Nat → Int32) (seed : Int64) (hL32 : L ≤ 32) : WrI l yX6_fault cX6_fault 1 .int 3 67 D (tyL cI cZ) (MW cI cZ q thrown (nI L) place stock parts readStock readCells readParts acts tried soonMany soonWhich kindMany kindFirst restMany restFirst text lies kind readPart page trial book kept isKept triedAbout triedIs gains value seed) [.ref (q 0)] (f_X6_fault L readStock text readPart).1 (MW cI cZ q (f_X6_fault L readStock text readPart).2.1 (nI L) (f_X6_fault L readStock text readPart).2.2.1 stock parts (f_X6_fault L readStock text readPart).2.2.2.1 (f_X6_fault L readStock text readPart).2.2.2.2.1 (f_X6_fault L readStock text readPart).2.2.2.2.2.1 acts tried soonMany soonWhich kindMany kindFirst restMany restFirst text lies kind (f_X6_fault L readStock text readPart).2.2.2.2.2.2 page trial book kept isKept triedAbout triedIs gains value seed) := by
  refine WrI.of (by decide) (Nat.le_of_ble_eq_true rfl) ?_
  intro p e s m args below meth c Q A hx hb hml hown hts hP hK hD hS fin ls hl
  have hown : s.vm.findClass RX6 = some m.cls := hown
  have hF : CallFix p m c cX6_fault 1 s args tb RX6 := ⟨hx, hb, hml, hown, hts⟩
  have hl : lv_has ls 1 [(0, .ref (q 0))] := hl
  generalize hR : (f_X6_fault L readStock text readPart) = R at fin
  unfold f_X6_fault at hR
  refine lv_aload_n hx hb dX6_fault_0 rfl (lv_at hl 0 rfl) ?_
  refine lv_iconst (v := (0 : Int32)) hx hb dX6_fault_1 (by decide) ?_
  refine va_put (D := D) (ci := 5) (v := .int (0 : Int32)) (ty := .int) (C := RX6) (T := TX6) (N := 30) hx hb hts tbX6 tyX6 tyX6_ok nmX6 hown hK hP hD hS 0 MW_0 rfl 0 (by decide) (hts _ tm_3_1) (fun _ h9 => h9) rfl (by decide +kernel) rfl rfl (Nat.le_of_ble_eq_true rfl) dX6_fault_2 (fun H locs hP _ hS => ?_)
  have hP : va_P D vwCl (MW cI cZ q (0 : Int32) (nI L) place stock parts readStock readCells readParts acts tried soonMany soonWhich kindMany kindFirst restMany restFirst text lies kind readPart page trial book kept isKept triedAbout triedIs gains value seed) H := hP
  have hD : va_D A (MW cI cZ q (0 : Int32) (nI L) place stock parts readStock readCells readParts acts tried soonMany soonWhich kindMany kindFirst restMany restFirst text lies kind readPart page trial book kept isKept triedAbout triedIs gains value seed) := hD.same (MW_ad.trans MW_ad.symm)
  refine lv_aload_n hx hb dX6_fault_5 rfl (lv_at hl 0 rfl) ?_
  refine vWrI (b := (q 0)) (As := []) (rest := []) hF (c_X6_readIdea l D cI cZ q (0 : Int32) L place stock parts readStock readCells readParts acts tried soonMany soonWhich kindMany kindFirst restMany restFirst text lies kind readPart page trial book kept isKept triedAbout triedIs gains value seed hL32) (gdV tm_3_108 tm_3_110 tp_10 tm_1_6 tm_3_111) de_X6_readIdea ⟨Nat.le_of_ble_eq_true rfl, Nat.le_of_ble_eq_true rfl⟩ hP hK (va_recv hK hP (ci := 5) (q0 := 0) rfl MW_0) hl.1 rfl (Nat.le_of_ble_eq_true rfl) dX6_fault_6 ⟨Nat.zero_le _, Nat.zero_le _⟩ hD hS (fun H locs hP hS => ?_)
  have hP : va_P D vwCl (MW cI cZ q (0 : Int32) (nI L) (f_X6_readIdea L readStock text readPart).2.1 stock parts (f_X6_readIdea L readStock text readPart).2.2.1 (f_X6_readIdea L readStock text readPart).2.2.2.1 (f_X6_readIdea L readStock text readPart).2.2.2.2.1 acts tried soonMany soonWhich kindMany kindFirst restMany restFirst text lies kind (f_X6_readIdea L readStock text readPart).2.2.2.2.2 page trial book kept isKept triedAbout triedIs gains value seed) H := hP
  have hD : va_D A (MW cI cZ q (0 : Int32) (nI L) (f_X6_readIdea L readStock text readPart).2.1 stock parts (f_X6_readIdea L readStock text readPart).2.2.1 (f_X6_readIdea L readStock text readPart).2.2.2.1 (f_X6_readIdea L readStock text readPart).2.2.2.2.1 acts tried soonMany soonWhich kindMany kindFirst restMany restFirst text lies kind (f_X6_readIdea L readStock text readPart).2.2.2.2.2 page trial book kept isKept triedAbout triedIs gains value seed) := hD.same (MW_ad.trans MW_ad.symm)
  subst hR
  exact fin _ _ _ _ dX6_fault_9 (nar_i _) hP hS
def f_X6_idea_l81  : Nat → Nat → (Nat → Int32) → Nat → Int32
  | 0, i_81, pg81 => pg81
  | d_81 + 1, i_81, pg81 => (f_X6_idea_l81  d_81 (i_81 + 1) (upd pg81 i_81 (0 : Int32)))
theorem f_X6_idea_l81_z  {i_81 : Nat} {pg81 : Nat → Int32} : f_X6_idea_l81  0 i_81 pg81 = pg81 := by rw [f_X6_idea_l81]
theorem f_X6_idea_l81_s  {d_81 : Nat} {i_81 : Nat} {pg81 : Nat → Int32} : f_X6_idea_l81  (d_81 + 1) i_81 pg81 = (f_X6_idea_l81  d_81 (i_81 + 1) (upd pg81 i_81 (0 : Int32))) := by rw [f_X6_idea_l81]
def f_X6_idea_l35 (L : Nat) (readStock : Int32) (text : Nat → Int32) (readPart : Nat → Int32) : Nat → Nat → (Nat → Int32) → (Nat → Int32) → (Nat → Int32) × (Nat → Int32)
  | 0, i_35, li35, ki35 => (li35, ki35)
  | d_35 + 1, i_35, li35, ki35 => (f_X6_idea_l35 L readStock text readPart d_35 (i_35 + 1) (upd li35 i_35 ((f_X6_readIdea L readStock text readPart).2.2.2.2.2 (2 * i_35))) (upd ki35 i_35 ((f_X6_readIdea L readStock text readPart).2.2.2.2.2 (2 * i_35 + 1))))
theorem f_X6_idea_l35_z {L : Nat} {readStock : Int32} {text : Nat → Int32} {readPart : Nat → Int32} {i_35 : Nat} {li35 : Nat → Int32} {ki35 : Nat → Int32} : f_X6_idea_l35 L readStock text readPart 0 i_35 li35 ki35 = (li35, ki35) := by rw [f_X6_idea_l35]
theorem f_X6_idea_l35_s {L : Nat} {readStock : Int32} {text : Nat → Int32} {readPart : Nat → Int32} {d_35 : Nat} {i_35 : Nat} {li35 : Nat → Int32} {ki35 : Nat → Int32} : f_X6_idea_l35 L readStock text readPart (d_35 + 1) i_35 li35 ki35 = (f_X6_idea_l35 L readStock text readPart d_35 (i_35 + 1) (upd li35 i_35 ((f_X6_readIdea L readStock text readPart).2.2.2.2.2 (2 * i_35))) (upd ki35 i_35 ((f_X6_readIdea L readStock text readPart).2.2.2.2.2 (2 * i_35 + 1)))) := by rw [f_X6_idea_l35]
def f_X6_idea (L : Nat) (stock : Int32) (parts : Int32) (readStock : Int32) (acts : Int32) (text : Nat → Int32) (lies : Nat → Int32) (kind : Nat → Int32) (readPart : Nat → Int32) (page : Nat → Int32) (isKept : Nat → Int32) : (Int32) × (Int32) × (Int32) × (Int32) × (Int32) × (Int32) × (Int32) × (Int32) × (Int32) × (Nat → Int32) × (Nat → Int32) × (Nat → Int32) × (Nat → Int32) × (Nat → Int32) := (if (f_X6_readIdea L readStock text readPart).1 = (-9 : Int32) then ((((10 : Int32) * (f_X6_readIdea L readStock text readPart).2.2.1) + (nI (f_X6_readIdea L readStock text readPart).2.2.2.2.1.toNatClampNeg)), (0 : Int32), (f_X6_readIdea L readStock text readPart).2.1, (f_X6_readIdea L readStock text readPart).2.2.1, (nI (f_X6_readIdea L readStock text readPart).2.2.2.2.1.toNatClampNeg), (f_X6_readIdea L readStock text readPart).2.2.1, (f_X6_readIdea L readStock text readPart).2.2.2.1, (f_X6_readIdea L readStock text readPart).2.2.2.2.1, (0 : Int32), (f_X6_idea_l35 L readStock text readPart (f_X6_readIdea L readStock text readPart).2.2.2.2.1.toNatClampNeg 0 lies kind).1, (f_X6_idea_l35 L readStock text readPart (f_X6_readIdea L readStock text readPart).2.2.2.2.1.toNatClampNeg 0 lies kind).2, (f_X6_readIdea L readStock text readPart).2.2.2.2.2, (upd (f_X6_idea_l81  7 0 page) 4 (f_X6_readIdea L readStock text readPart).2.2.1), (upd (upd isKept 0 (0 : Int32)) 1 (0 : Int32))) else ((-3 : Int32), (0 : Int32), (f_X6_readIdea L readStock text readPart).2.1, stock, parts, (f_X6_readIdea L readStock text readPart).2.2.1, (f_X6_readIdea L readStock text readPart).2.2.2.1, (f_X6_readIdea L readStock text readPart).2.2.2.2.1, acts, lies, kind, (f_X6_readIdea L readStock text readPart).2.2.2.2.2, page, isKept))
set_option maxHeartbeats 4000000 in
set_option maxRecDepth 100000 in
theorem c_X6_idea (l : Launch) (D : va_G) (cI cZ : ClassId) (q : Nat → Nat) (thrown : Int32) (L : Nat) (place : Int32) (stock : Int32) (parts : Int32) (readStock : Int32) (readCells : Int32) (readParts : Int32) (acts : Int32) (tried : Int32) (soonMany : Int32) (soonWhich : Int32) (kindMany : Int32) (kindFirst : Int32) (restMany : Int32) (restFirst : Int32) (text lies kind readPart page trial book kept isKept triedAbout triedIs gains value : Nat → Int32) (seed : Int64) (hL32 : L ≤ 32) : WrI l yX6_idea cX6_idea 2 .int 3 67 D (tyL cI cZ) (MW cI cZ q thrown (nI L) place stock parts readStock readCells readParts acts tried soonMany soonWhich kindMany kindFirst restMany restFirst text lies kind readPart page trial book kept isKept triedAbout triedIs gains value seed) [.ref (q 0)] (f_X6_idea L stock parts readStock acts text lies kind readPart page isKept).1 (MW cI cZ q (f_X6_idea L stock parts readStock acts text lies kind readPart page isKept).2.1 (nI L) (f_X6_idea L stock parts readStock acts text lies kind readPart page isKept).2.2.1 (f_X6_idea L stock parts readStock acts text lies kind readPart page isKept).2.2.2.1 (f_X6_idea L stock parts readStock acts text lies kind readPart page isKept).2.2.2.2.1 (f_X6_idea L stock parts readStock acts text lies kind readPart page isKept).2.2.2.2.2.1 (f_X6_idea L stock parts readStock acts text lies kind readPart page isKept).2.2.2.2.2.2.1 (f_X6_idea L stock parts readStock acts text lies kind readPart page isKept).2.2.2.2.2.2.2.1 (f_X6_idea L stock parts readStock acts text lies kind readPart page isKept).2.2.2.2.2.2.2.2.1 tried soonMany soonWhich kindMany kindFirst restMany restFirst text (f_X6_idea L stock parts readStock acts text lies kind readPart page isKept).2.2.2.2.2.2.2.2.2.1 (f_X6_idea L stock parts readStock acts text lies kind readPart page isKept).2.2.2.2.2.2.2.2.2.2.1 (f_X6_idea L stock parts readStock acts text lies kind readPart page isKept).2.2.2.2.2.2.2.2.2.2.2.1 (f_X6_idea L stock parts readStock acts text lies kind readPart page isKept).2.2.2.2.2.2.2.2.2.2.2.2.1 trial book kept (f_X6_idea L stock parts readStock acts text lies kind readPart page isKept).2.2.2.2.2.2.2.2.2.2.2.2.2 triedAbout triedIs gains value seed) := by
  refine WrI.of (by decide) (Nat.le_of_ble_eq_true rfl) ?_
  intro p e s m args below meth c Q A hx hb hml hown hts hP hK hD hS fin ls hl
  have hown : s.vm.findClass RX6 = some m.cls := hown
  have hF : CallFix p m c cX6_idea 2 s args tb RX6 := ⟨hx, hb, hml, hown, hts⟩
  have hl : lv_has ls 2 [(0, .ref (q 0))] := hl
  generalize hR : (f_X6_idea L stock parts readStock acts text lies kind readPart page isKept) = R at fin
  unfold f_X6_idea at hR
  refine lv_aload_n hx hb dX6_idea_0 rfl (lv_at hl 0 rfl) ?_
  refine lv_iconst (v := (0 : Int32)) hx hb dX6_idea_1 (by decide) ?_
  refine va_put (D := D) (ci := 5) (v := .int (0 : Int32)) (ty := .int) (C := RX6) (T := TX6) (N := 30) hx hb hts tbX6 tyX6 tyX6_ok nmX6 hown hK hP hD hS 0 MW_0 rfl 0 (by decide) (hts _ tm_3_1) (fun _ h9 => h9) rfl (by decide +kernel) rfl rfl (Nat.le_of_ble_eq_true rfl) dX6_idea_2 (fun H locs hP _ hS => ?_)
  have hP : va_P D vwCl (MW cI cZ q (0 : Int32) (nI L) place stock parts readStock readCells readParts acts tried soonMany soonWhich kindMany kindFirst restMany restFirst text lies kind readPart page trial book kept isKept triedAbout triedIs gains value seed) H := hP
  have hD : va_D A (MW cI cZ q (0 : Int32) (nI L) place stock parts readStock readCells readParts acts tried soonMany soonWhich kindMany kindFirst restMany restFirst text lies kind readPart page trial book kept isKept triedAbout triedIs gains value seed) := hD.same (MW_ad.trans MW_ad.symm)
  refine lv_aload_n hx hb dX6_idea_5 rfl (lv_at hl 0 rfl) ?_
  refine vWrI (b := (q 0)) (As := []) (rest := []) hF (c_X6_readIdea l D cI cZ q (0 : Int32) L place stock parts readStock readCells readParts acts tried soonMany soonWhich kindMany kindFirst restMany restFirst text lies kind readPart page trial book kept isKept triedAbout triedIs gains value seed hL32) (gdV tm_3_108 tm_3_110 tp_10 tm_1_6 tm_3_111) de_X6_readIdea ⟨Nat.le_of_ble_eq_true rfl, Nat.le_of_ble_eq_true rfl⟩ hP hK (va_recv hK hP (ci := 5) (q0 := 0) rfl MW_0) hl.1 rfl (Nat.le_of_ble_eq_true rfl) dX6_idea_6 ⟨Nat.zero_le _, Nat.zero_le _⟩ hD hS (fun H locs hP hS => ?_)
  have hP : va_P D vwCl (MW cI cZ q (0 : Int32) (nI L) (f_X6_readIdea L readStock text readPart).2.1 stock parts (f_X6_readIdea L readStock text readPart).2.2.1 (f_X6_readIdea L readStock text readPart).2.2.2.1 (f_X6_readIdea L readStock text readPart).2.2.2.2.1 acts tried soonMany soonWhich kindMany kindFirst restMany restFirst text lies kind (f_X6_readIdea L readStock text readPart).2.2.2.2.2 page trial book kept isKept triedAbout triedIs gains value seed) H := hP
  have hD : va_D A (MW cI cZ q (0 : Int32) (nI L) (f_X6_readIdea L readStock text readPart).2.1 stock parts (f_X6_readIdea L readStock text readPart).2.2.1 (f_X6_readIdea L readStock text readPart).2.2.2.1 (f_X6_readIdea L readStock text readPart).2.2.2.2.1 acts tried soonMany soonWhich kindMany kindFirst restMany restFirst text lies kind (f_X6_readIdea L readStock text readPart).2.2.2.2.2 page trial book kept isKept triedAbout triedIs gains value seed) := hD.same (MW_ad.trans MW_ad.symm)
  refine lv_bipush (v := (-9 : Int32)) hx hb dX6_idea_9 (by decide) ?_
  refine lv_icmp_eq (tgt := 17) hx hb dX6_idea_11 (by decide) (fun c_11 => ?_) (fun c_11 => ?_)
  · rw [if_pos c_11] at hR
    have ho := readIdea_ok L readStock text readPart
    refine lv_aload_n hx hb dX6_idea_17 rfl (lv_at hl 0 rfl) ?_
    refine lv_aload_n hx hb dX6_idea_18 rfl (lv_at hl 0 rfl) ?_
    refine va_get (D := D) (ci := 5) (v := .int (f_X6_readIdea L readStock text readPart).2.2.1) (C := RX6) (T := TX6) (N := 30) hx hb hts tbX6 hown hK hP 0 MW_0 rfl 8 (by decide) (hts _ tm_3_9) (fun _ h9 => h9) rfl dX6_idea_19 ?_
    refine va_put (D := D) (ci := 5) (v := .int (f_X6_readIdea L readStock text readPart).2.2.1) (ty := .int) (C := RX6) (T := TX6) (N := 30) hx hb hts tbX6 tyX6 tyX6_ok nmX6 hown hK hP hD hS 0 MW_0 rfl 4 (by decide) (hts _ tm_3_5) (fun _ h9 => h9) rfl (by decide +kernel) rfl rfl (Nat.le_of_ble_eq_true rfl) dX6_idea_22 (fun H locs hP _ hS => ?_)
    have hP : va_P D vwCl (MW cI cZ q (0 : Int32) (nI L) (f_X6_readIdea L readStock text readPart).2.1 (f_X6_readIdea L readStock text readPart).2.2.1 parts (f_X6_readIdea L readStock text readPart).2.2.1 (f_X6_readIdea L readStock text readPart).2.2.2.1 (f_X6_readIdea L readStock text readPart).2.2.2.2.1 acts tried soonMany soonWhich kindMany kindFirst restMany restFirst text lies kind (f_X6_readIdea L readStock text readPart).2.2.2.2.2 page trial book kept isKept triedAbout triedIs gains value seed) H := hP
    have hD : va_D A (MW cI cZ q (0 : Int32) (nI L) (f_X6_readIdea L readStock text readPart).2.1 (f_X6_readIdea L readStock text readPart).2.2.1 parts (f_X6_readIdea L readStock text readPart).2.2.1 (f_X6_readIdea L readStock text readPart).2.2.2.1 (f_X6_readIdea L readStock text readPart).2.2.2.2.1 acts tried soonMany soonWhich kindMany kindFirst restMany restFirst text lies kind (f_X6_readIdea L readStock text readPart).2.2.2.2.2 page trial book kept isKept triedAbout triedIs gains value seed) := hD.same (MW_ad.trans MW_ad.symm)
    refine lv_aload_n hx hb dX6_idea_25 rfl (lv_at hl 0 rfl) ?_
    refine lv_aload_n hx hb dX6_idea_26 rfl (lv_at hl 0 rfl) ?_
    refine va_get (D := D) (ci := 5) (v := .int (f_X6_readIdea L readStock text readPart).2.2.2.2.1) (C := RX6) (T := TX6) (N := 30) hx hb hts tbX6 hown hK hP 0 MW_0 rfl 10 (by decide) (hts _ tm_3_11) (fun _ h9 => h9) rfl dX6_idea_27 ?_
    refine lv_rw (z := (nI (f_X6_readIdea L readStock text readPart).2.2.2.2.1.toNatClampNeg)) ho.1 ?_
    refine va_put (D := D) (ci := 5) (v := .int (nI (f_X6_readIdea L readStock text readPart).2.2.2.2.1.toNatClampNeg)) (ty := .int) (C := RX6) (T := TX6) (N := 30) hx hb hts tbX6 tyX6 tyX6_ok nmX6 hown hK hP hD hS 0 MW_0 rfl 5 (by decide) (hts _ tm_3_6) (fun _ h9 => h9) rfl (by decide +kernel) rfl rfl (Nat.le_of_ble_eq_true rfl) dX6_idea_30 (fun H locs hP _ hS => ?_)
    have hP : va_P D vwCl (MW cI cZ q (0 : Int32) (nI L) (f_X6_readIdea L readStock text readPart).2.1 (f_X6_readIdea L readStock text readPart).2.2.1 (nI (f_X6_readIdea L readStock text readPart).2.2.2.2.1.toNatClampNeg) (f_X6_readIdea L readStock text readPart).2.2.1 (f_X6_readIdea L readStock text readPart).2.2.2.1 (f_X6_readIdea L readStock text readPart).2.2.2.2.1 acts tried soonMany soonWhich kindMany kindFirst restMany restFirst text lies kind (f_X6_readIdea L readStock text readPart).2.2.2.2.2 page trial book kept isKept triedAbout triedIs gains value seed) H := hP
    have hD : va_D A (MW cI cZ q (0 : Int32) (nI L) (f_X6_readIdea L readStock text readPart).2.1 (f_X6_readIdea L readStock text readPart).2.2.1 (nI (f_X6_readIdea L readStock text readPart).2.2.2.2.1.toNatClampNeg) (f_X6_readIdea L readStock text readPart).2.2.1 (f_X6_readIdea L readStock text readPart).2.2.2.1 (f_X6_readIdea L readStock text readPart).2.2.2.2.1 acts tried soonMany soonWhich kindMany kindFirst restMany restFirst text lies kind (f_X6_readIdea L readStock text readPart).2.2.2.2.2 page trial book kept isKept triedAbout triedIs gains value seed) := hD.same (MW_ad.trans MW_ad.symm)
    refine lv_iconst (v := (0 : Int32)) hx hb dX6_idea_33 (by decide) ?_
    refine lv_istore_n (lv' := [(1, .int (0 : Int32)), (0, .ref (q 0))]) hx hb dX6_idea_34 rfl hl (by decide) rfl (fun ls hl => ?_)
    obtain ⟨T_35, hT_35⟩ : ∃ z, f_X6_idea_l35 L readStock text readPart (f_X6_readIdea L readStock text readPart).2.2.2.2.1.toNatClampNeg 0 lies kind = z := ⟨_, rfl⟩
    rw [hT_35] at hR
    have key_35 : ∀ (d_35 i_35 : Nat) (li35 : Nat → Int32) (ki35 : Nat → Int32) (ls : Array Slot) (H : Heap) (locs : List Loc), i_35 + d_35 = (f_X6_readIdea L readStock text readPart).2.2.2.2.1.toNatClampNeg → f_X6_idea_l35 L readStock text readPart d_35 i_35 li35 ki35 = T_35 → lv_has ls 2 [(1, .int (nI i_35)), (0, .ref (q 0))] → va_P D vwCl (MW cI cZ q (0 : Int32) (nI L) (f_X6_readIdea L readStock text readPart).2.1 (f_X6_readIdea L readStock text readPart).2.2.1 (nI (f_X6_readIdea L readStock text readPart).2.2.2.2.1.toNatClampNeg) (f_X6_readIdea L readStock text readPart).2.2.1 (f_X6_readIdea L readStock text readPart).2.2.2.1 (f_X6_readIdea L readStock text readPart).2.2.2.2.1 acts tried soonMany soonWhich kindMany kindFirst restMany restFirst text li35 ki35 (f_X6_readIdea L readStock text readPart).2.2.2.2.2 page trial book kept isKept triedAbout triedIs gains value seed) H → va_S A s.heap H locs → W p l e (rmO 3 67) s m args below meth c H locs 0 0 Q (F0 m 35 ls []) := by
      intro d_35
      induction d_35 with
      | zero =>
        intro i_35 li35 ki35 ls H locs hi_35 hT_35 hl hP hS
        have hD : va_D A (MW cI cZ q (0 : Int32) (nI L) (f_X6_readIdea L readStock text readPart).2.1 (f_X6_readIdea L readStock text readPart).2.2.1 (nI (f_X6_readIdea L readStock text readPart).2.2.2.2.1.toNatClampNeg) (f_X6_readIdea L readStock text readPart).2.2.1 (f_X6_readIdea L readStock text readPart).2.2.2.1 (f_X6_readIdea L readStock text readPart).2.2.2.2.1 acts tried soonMany soonWhich kindMany kindFirst restMany restFirst text li35 ki35 (f_X6_readIdea L readStock text readPart).2.2.2.2.2 page trial book kept isKept triedAbout triedIs gains value seed) := hD.same (MW_ad.trans MW_ad.symm)
        rw [f_X6_idea_l35_z] at hT_35
        refine lv_iload_n hx hb dX6_idea_35 rfl (lv_at hl 0 rfl) ?_
        refine lv_aload_n hx hb dX6_idea_36 rfl (lv_at hl 1 rfl) ?_
        refine va_get (D := D) (ci := 5) (v := .int (nI (f_X6_readIdea L readStock text readPart).2.2.2.2.1.toNatClampNeg)) (C := RX6) (T := TX6) (N := 30) hx hb hts tbX6 hown hK hP 0 MW_0 rfl 5 (by decide) (hts _ tm_3_6) (fun _ h9 => h9) rfl dX6_idea_37 ?_
        refine lv_icmp_ge (tgt := 79) hx hb dX6_idea_40 (by decide) (fun c_40 => ?_) (fun c_40 => absurd (nI_le  (by omega) (by omega)) c_40)
        subst hT_35
        try dsimp only at hR
        refine lv_iconst (v := (0 : Int32)) hx hb dX6_idea_79 (by decide) ?_
        refine lv_istore_n (lv' := [(1, .int (0 : Int32)), (0, .ref (q 0))]) hx hb dX6_idea_80 rfl hl (by decide) rfl (fun ls hl => ?_)
        obtain ⟨T_81, hT_81⟩ : ∃ z, f_X6_idea_l81  7 0 page = z := ⟨_, rfl⟩
        rw [hT_81] at hR
        have key_81 : ∀ (d_81 i_81 : Nat) (pg81 : Nat → Int32) (ls : Array Slot) (H : Heap) (locs : List Loc), i_81 + d_81 = 7 → f_X6_idea_l81  d_81 i_81 pg81 = T_81 → lv_has ls 2 [(1, .int (nI i_81)), (0, .ref (q 0))] → va_P D vwCl (MW cI cZ q (0 : Int32) (nI L) (f_X6_readIdea L readStock text readPart).2.1 (f_X6_readIdea L readStock text readPart).2.2.1 (nI (f_X6_readIdea L readStock text readPart).2.2.2.2.1.toNatClampNeg) (f_X6_readIdea L readStock text readPart).2.2.1 (f_X6_readIdea L readStock text readPart).2.2.2.1 (f_X6_readIdea L readStock text readPart).2.2.2.2.1 acts tried soonMany soonWhich kindMany kindFirst restMany restFirst text li35 ki35 (f_X6_readIdea L readStock text readPart).2.2.2.2.2 pg81 trial book kept isKept triedAbout triedIs gains value seed) H → va_S A s.heap H locs → W p l e (rmO 3 67) s m args below meth c H locs 0 0 Q (F0 m 81 ls []) := by
          intro d_81
          induction d_81 with
          | zero =>
            intro i_81 pg81 ls H locs hi_81 hT_81 hl hP hS
            have hD : va_D A (MW cI cZ q (0 : Int32) (nI L) (f_X6_readIdea L readStock text readPart).2.1 (f_X6_readIdea L readStock text readPart).2.2.1 (nI (f_X6_readIdea L readStock text readPart).2.2.2.2.1.toNatClampNeg) (f_X6_readIdea L readStock text readPart).2.2.1 (f_X6_readIdea L readStock text readPart).2.2.2.1 (f_X6_readIdea L readStock text readPart).2.2.2.2.1 acts tried soonMany soonWhich kindMany kindFirst restMany restFirst text li35 ki35 (f_X6_readIdea L readStock text readPart).2.2.2.2.2 pg81 trial book kept isKept triedAbout triedIs gains value seed) := hD.same (MW_ad.trans MW_ad.symm)
            rw [f_X6_idea_l81_z] at hT_81
            refine lv_iload_n hx hb dX6_idea_81 rfl (lv_at hl 0 rfl) ?_
            refine lv_bipush (v := (7 : Int32)) hx hb dX6_idea_82 (by decide) ?_
            refine lv_icmp_ge (tgt := 100) hx hb dX6_idea_84 (by decide) (fun c_84 => ?_) (fun c_84 => absurd (nI_le (a := 7) (by omega) (by omega)) c_84)
            subst hT_81
            try dsimp only at hR
            refine lv_aload_n hx hb dX6_idea_100 rfl (lv_at hl 1 rfl) ?_
            refine va_get (D := D) (ci := 5) (v := .ref (q 5)) (C := RX6) (T := TX6) (N := 30) hx hb hts tbX6 hown hK hP 0 MW_0 rfl 12 (by decide) (hts _ tm_3_13) (fun _ h9 => h9) rfl dX6_idea_101 ?_
            refine lv_iconst (v := (4 : Int32)) hx hb dX6_idea_104 (by decide) ?_
            refine lv_aload_n hx hb dX6_idea_105 rfl (lv_at hl 1 rfl) ?_
            refine va_get (D := D) (ci := 5) (v := .int (f_X6_readIdea L readStock text readPart).2.2.1) (C := RX6) (T := TX6) (N := 30) hx hb hts tbX6 hown hK hP 0 MW_0 rfl 4 (by decide) (hts _ tm_3_5) (fun _ h9 => h9) rfl dX6_idea_106 ?_
            refine va_iast hx hb hK hP hD hS 5 0 MW_5 rfl (vp_in_nI (n := 4) (by decide) (by decide)) dX6_idea_109 (fun H locs hP _ hS => ?_)
            have hP : va_P D vwCl (MW cI cZ q (0 : Int32) (nI L) (f_X6_readIdea L readStock text readPart).2.1 (f_X6_readIdea L readStock text readPart).2.2.1 (nI (f_X6_readIdea L readStock text readPart).2.2.2.2.1.toNatClampNeg) (f_X6_readIdea L readStock text readPart).2.2.1 (f_X6_readIdea L readStock text readPart).2.2.2.1 (f_X6_readIdea L readStock text readPart).2.2.2.2.1 acts tried soonMany soonWhich kindMany kindFirst restMany restFirst text li35 ki35 (f_X6_readIdea L readStock text readPart).2.2.2.2.2 (upd pg81 (4 : Int32).toNatClampNeg (f_X6_readIdea L readStock text readPart).2.2.1) trial book kept isKept triedAbout triedIs gains value seed) H := hP
            rw [cl_4] at hP
            have hD : va_D A (MW cI cZ q (0 : Int32) (nI L) (f_X6_readIdea L readStock text readPart).2.1 (f_X6_readIdea L readStock text readPart).2.2.1 (nI (f_X6_readIdea L readStock text readPart).2.2.2.2.1.toNatClampNeg) (f_X6_readIdea L readStock text readPart).2.2.1 (f_X6_readIdea L readStock text readPart).2.2.2.1 (f_X6_readIdea L readStock text readPart).2.2.2.2.1 acts tried soonMany soonWhich kindMany kindFirst restMany restFirst text li35 ki35 (f_X6_readIdea L readStock text readPart).2.2.2.2.2 (upd pg81 4 (f_X6_readIdea L readStock text readPart).2.2.1) trial book kept isKept triedAbout triedIs gains value seed) := hD.same (MW_ad.trans MW_ad.symm)
            refine lv_aload_n hx hb dX6_idea_110 rfl (lv_at hl 1 rfl) ?_
            refine lv_iconst (v := (0 : Int32)) hx hb dX6_idea_111 (by decide) ?_
            refine va_put (D := D) (ci := 5) (v := .int (0 : Int32)) (ty := .int) (C := RX6) (T := TX6) (N := 30) hx hb hts tbX6 tyX6 tyX6_ok nmX6 hown hK hP hD hS 0 MW_0 rfl 15 (by decide) (hts _ tm_3_16) (fun _ h9 => h9) rfl (by decide +kernel) rfl rfl (Nat.le_of_ble_eq_true rfl) dX6_idea_112 (fun H locs hP _ hS => ?_)
            have hP : va_P D vwCl (MW cI cZ q (0 : Int32) (nI L) (f_X6_readIdea L readStock text readPart).2.1 (f_X6_readIdea L readStock text readPart).2.2.1 (nI (f_X6_readIdea L readStock text readPart).2.2.2.2.1.toNatClampNeg) (f_X6_readIdea L readStock text readPart).2.2.1 (f_X6_readIdea L readStock text readPart).2.2.2.1 (f_X6_readIdea L readStock text readPart).2.2.2.2.1 (0 : Int32) tried soonMany soonWhich kindMany kindFirst restMany restFirst text li35 ki35 (f_X6_readIdea L readStock text readPart).2.2.2.2.2 (upd pg81 4 (f_X6_readIdea L readStock text readPart).2.2.1) trial book kept isKept triedAbout triedIs gains value seed) H := hP
            have hD : va_D A (MW cI cZ q (0 : Int32) (nI L) (f_X6_readIdea L readStock text readPart).2.1 (f_X6_readIdea L readStock text readPart).2.2.1 (nI (f_X6_readIdea L readStock text readPart).2.2.2.2.1.toNatClampNeg) (f_X6_readIdea L readStock text readPart).2.2.1 (f_X6_readIdea L readStock text readPart).2.2.2.1 (f_X6_readIdea L readStock text readPart).2.2.2.2.1 (0 : Int32) tried soonMany soonWhich kindMany kindFirst restMany restFirst text li35 ki35 (f_X6_readIdea L readStock text readPart).2.2.2.2.2 (upd pg81 4 (f_X6_readIdea L readStock text readPart).2.2.1) trial book kept isKept triedAbout triedIs gains value seed) := hD.same (MW_ad.trans MW_ad.symm)
            refine lv_aload_n hx hb dX6_idea_115 rfl (lv_at hl 1 rfl) ?_
            refine va_get (D := D) (ci := 5) (v := .ref (q 9)) (C := RX6) (T := TX6) (N := 30) hx hb hts tbX6 hown hK hP 0 MW_0 rfl 17 (by decide) (hts _ tm_3_18) (fun _ h9 => h9) rfl dX6_idea_116 ?_
            refine lv_iconst (v := (0 : Int32)) hx hb dX6_idea_119 (by decide) ?_
            refine lv_iconst (v := (0 : Int32)) hx hb dX6_idea_120 (by decide) ?_
            refine va_zast hx hb hK hP hD hS 9 1 MW_9 rfl (vp_in_nI (n := 0) (by decide) (by decide)) dX6_idea_121 (fun H locs hP _ hS => ?_)
            have hP : va_P D vwCl (MW cI cZ q (0 : Int32) (nI L) (f_X6_readIdea L readStock text readPart).2.1 (f_X6_readIdea L readStock text readPart).2.2.1 (nI (f_X6_readIdea L readStock text readPart).2.2.2.2.1.toNatClampNeg) (f_X6_readIdea L readStock text readPart).2.2.1 (f_X6_readIdea L readStock text readPart).2.2.2.1 (f_X6_readIdea L readStock text readPart).2.2.2.2.1 (0 : Int32) tried soonMany soonWhich kindMany kindFirst restMany restFirst text li35 ki35 (f_X6_readIdea L readStock text readPart).2.2.2.2.2 (upd pg81 4 (f_X6_readIdea L readStock text readPart).2.2.1) trial book kept (upd isKept (0 : Int32).toNatClampNeg (vp_nar .boolean (0 : Int32))) triedAbout triedIs gains value seed) H := hP
            rw [cl_0] at hP
            rw [show vp_nar .boolean (0 : Int32) = (0 : Int32) from rfl] at hP
            have hD : va_D A (MW cI cZ q (0 : Int32) (nI L) (f_X6_readIdea L readStock text readPart).2.1 (f_X6_readIdea L readStock text readPart).2.2.1 (nI (f_X6_readIdea L readStock text readPart).2.2.2.2.1.toNatClampNeg) (f_X6_readIdea L readStock text readPart).2.2.1 (f_X6_readIdea L readStock text readPart).2.2.2.1 (f_X6_readIdea L readStock text readPart).2.2.2.2.1 (0 : Int32) tried soonMany soonWhich kindMany kindFirst restMany restFirst text li35 ki35 (f_X6_readIdea L readStock text readPart).2.2.2.2.2 (upd pg81 4 (f_X6_readIdea L readStock text readPart).2.2.1) trial book kept (upd isKept 0 (0 : Int32)) triedAbout triedIs gains value seed) := hD.same (MW_ad.trans MW_ad.symm)
            refine lv_aload_n hx hb dX6_idea_122 rfl (lv_at hl 1 rfl) ?_
            refine va_get (D := D) (ci := 5) (v := .ref (q 9)) (C := RX6) (T := TX6) (N := 30) hx hb hts tbX6 hown hK hP 0 MW_0 rfl 17 (by decide) (hts _ tm_3_18) (fun _ h9 => h9) rfl dX6_idea_123 ?_
            refine lv_iconst (v := (1 : Int32)) hx hb dX6_idea_126 (by decide) ?_
            refine lv_iconst (v := (0 : Int32)) hx hb dX6_idea_127 (by decide) ?_
            refine va_zast hx hb hK hP hD hS 9 1 MW_9 rfl (vp_in_nI (n := 1) (by decide) (by decide)) dX6_idea_128 (fun H locs hP _ hS => ?_)
            have hP : va_P D vwCl (MW cI cZ q (0 : Int32) (nI L) (f_X6_readIdea L readStock text readPart).2.1 (f_X6_readIdea L readStock text readPart).2.2.1 (nI (f_X6_readIdea L readStock text readPart).2.2.2.2.1.toNatClampNeg) (f_X6_readIdea L readStock text readPart).2.2.1 (f_X6_readIdea L readStock text readPart).2.2.2.1 (f_X6_readIdea L readStock text readPart).2.2.2.2.1 (0 : Int32) tried soonMany soonWhich kindMany kindFirst restMany restFirst text li35 ki35 (f_X6_readIdea L readStock text readPart).2.2.2.2.2 (upd pg81 4 (f_X6_readIdea L readStock text readPart).2.2.1) trial book kept (upd (upd isKept 0 (0 : Int32)) (1 : Int32).toNatClampNeg (vp_nar .boolean (0 : Int32))) triedAbout triedIs gains value seed) H := hP
            rw [cl_1] at hP
            rw [show vp_nar .boolean (0 : Int32) = (0 : Int32) from rfl] at hP
            have hD : va_D A (MW cI cZ q (0 : Int32) (nI L) (f_X6_readIdea L readStock text readPart).2.1 (f_X6_readIdea L readStock text readPart).2.2.1 (nI (f_X6_readIdea L readStock text readPart).2.2.2.2.1.toNatClampNeg) (f_X6_readIdea L readStock text readPart).2.2.1 (f_X6_readIdea L readStock text readPart).2.2.2.1 (f_X6_readIdea L readStock text readPart).2.2.2.2.1 (0 : Int32) tried soonMany soonWhich kindMany kindFirst restMany restFirst text li35 ki35 (f_X6_readIdea L readStock text readPart).2.2.2.2.2 (upd pg81 4 (f_X6_readIdea L readStock text readPart).2.2.1) trial book kept (upd (upd isKept 0 (0 : Int32)) 1 (0 : Int32)) triedAbout triedIs gains value seed) := hD.same (MW_ad.trans MW_ad.symm)
            refine lv_bipush (v := (10 : Int32)) hx hb dX6_idea_129 (by decide) ?_
            refine lv_aload_n hx hb dX6_idea_131 rfl (lv_at hl 1 rfl) ?_
            refine va_get (D := D) (ci := 5) (v := .int (f_X6_readIdea L readStock text readPart).2.2.1) (C := RX6) (T := TX6) (N := 30) hx hb hts tbX6 hown hK hP 0 MW_0 rfl 4 (by decide) (hts _ tm_3_5) (fun _ h9 => h9) rfl dX6_idea_132 ?_
            refine lv_imul hx hb dX6_idea_135 ?_
            refine lv_aload_n hx hb dX6_idea_136 rfl (lv_at hl 1 rfl) ?_
            refine va_get (D := D) (ci := 5) (v := .int (nI (f_X6_readIdea L readStock text readPart).2.2.2.2.1.toNatClampNeg)) (C := RX6) (T := TX6) (N := 30) hx hb hts tbX6 hown hK hP 0 MW_0 rfl 5 (by decide) (hts _ tm_3_6) (fun _ h9 => h9) rfl dX6_idea_137 ?_
            refine lv_iadd hx hb dX6_idea_140 ?_
            subst hR
            exact fin _ _ _ _ dX6_idea_141 (nar_i _) hP hS
          | succ d_81 ih_81 =>
            intro i_81 pg81 ls H locs hi_81 hT_81 hl hP hS
            have hD : va_D A (MW cI cZ q (0 : Int32) (nI L) (f_X6_readIdea L readStock text readPart).2.1 (f_X6_readIdea L readStock text readPart).2.2.1 (nI (f_X6_readIdea L readStock text readPart).2.2.2.2.1.toNatClampNeg) (f_X6_readIdea L readStock text readPart).2.2.1 (f_X6_readIdea L readStock text readPart).2.2.2.1 (f_X6_readIdea L readStock text readPart).2.2.2.2.1 acts tried soonMany soonWhich kindMany kindFirst restMany restFirst text li35 ki35 (f_X6_readIdea L readStock text readPart).2.2.2.2.2 pg81 trial book kept isKept triedAbout triedIs gains value seed) := hD.same (MW_ad.trans MW_ad.symm)
            rw [f_X6_idea_l81_s] at hT_81
            refine lv_iload_n hx hb dX6_idea_81 rfl (lv_at hl 0 rfl) ?_
            refine lv_bipush (v := (7 : Int32)) hx hb dX6_idea_82 (by decide) ?_
            refine lv_icmp_ge (tgt := 100) hx hb dX6_idea_84 (by decide) (fun c_84 => absurd c_84 (nI_ge (b := 7) (by omega) (by omega))) (fun c_84 => ?_)
            refine lv_aload_n hx hb dX6_idea_87 rfl (lv_at hl 1 rfl) ?_
            refine va_get (D := D) (ci := 5) (v := .ref (q 5)) (C := RX6) (T := TX6) (N := 30) hx hb hts tbX6 hown hK hP 0 MW_0 rfl 12 (by decide) (hts _ tm_3_13) (fun _ h9 => h9) rfl dX6_idea_88 ?_
            refine lv_iload_n hx hb dX6_idea_91 rfl (lv_at hl 0 rfl) ?_
            refine lv_iconst (v := (0 : Int32)) hx hb dX6_idea_92 (by decide) ?_
            refine va_iast hx hb hK hP hD hS 5 0 MW_5 rfl (vp_in_nI (show i_81 < 7 by omega) (by omega)) dX6_idea_93 (fun H locs hP _ hS => ?_)
            have hP : va_P D vwCl (MW cI cZ q (0 : Int32) (nI L) (f_X6_readIdea L readStock text readPart).2.1 (f_X6_readIdea L readStock text readPart).2.2.1 (nI (f_X6_readIdea L readStock text readPart).2.2.2.2.1.toNatClampNeg) (f_X6_readIdea L readStock text readPart).2.2.1 (f_X6_readIdea L readStock text readPart).2.2.2.1 (f_X6_readIdea L readStock text readPart).2.2.2.2.1 acts tried soonMany soonWhich kindMany kindFirst restMany restFirst text li35 ki35 (f_X6_readIdea L readStock text readPart).2.2.2.2.2 (upd pg81 (nI i_81).toNatClampNeg (0 : Int32)) trial book kept isKept triedAbout triedIs gains value seed) H := hP
            rw [(nI_clamp (show i_81 < 2 ^ 31 by omega))] at hP
            have hD : va_D A (MW cI cZ q (0 : Int32) (nI L) (f_X6_readIdea L readStock text readPart).2.1 (f_X6_readIdea L readStock text readPart).2.2.1 (nI (f_X6_readIdea L readStock text readPart).2.2.2.2.1.toNatClampNeg) (f_X6_readIdea L readStock text readPart).2.2.1 (f_X6_readIdea L readStock text readPart).2.2.2.1 (f_X6_readIdea L readStock text readPart).2.2.2.2.1 acts tried soonMany soonWhich kindMany kindFirst restMany restFirst text li35 ki35 (f_X6_readIdea L readStock text readPart).2.2.2.2.2 (upd pg81 i_81 (0 : Int32)) trial book kept isKept triedAbout triedIs gains value seed) := hD.same (MW_ad.trans MW_ad.symm)
            refine lv_iinc (v := (nI (i_81 + 1))) (lv' := [(1, .int (nI (i_81 + 1))), (0, .ref (q 0))]) hx hb dX6_idea_94 hl (k := 0) rfl (nI_up i_81) (by decide) rfl (fun ls hl => ?_)
            refine lv_goto (tgt := 81) hx hb dX6_idea_97 (by decide) ?_
            exact ih_81 (i_81 + 1) (upd pg81 i_81 (0 : Int32)) ls _ _ (by omega) hT_81 (lv_sub hl [0, 1] rfl) hP hS
        exact key_81 7 0 page ls _ _ (by omega) hT_81 (lv_sub hl [0, 1] rfl) hP hS
      | succ d_35 ih_35 =>
        intro i_35 li35 ki35 ls H locs hi_35 hT_35 hl hP hS
        have hD : va_D A (MW cI cZ q (0 : Int32) (nI L) (f_X6_readIdea L readStock text readPart).2.1 (f_X6_readIdea L readStock text readPart).2.2.1 (nI (f_X6_readIdea L readStock text readPart).2.2.2.2.1.toNatClampNeg) (f_X6_readIdea L readStock text readPart).2.2.1 (f_X6_readIdea L readStock text readPart).2.2.2.1 (f_X6_readIdea L readStock text readPart).2.2.2.2.1 acts tried soonMany soonWhich kindMany kindFirst restMany restFirst text li35 ki35 (f_X6_readIdea L readStock text readPart).2.2.2.2.2 page trial book kept isKept triedAbout triedIs gains value seed) := hD.same (MW_ad.trans MW_ad.symm)
        rw [f_X6_idea_l35_s] at hT_35
        refine lv_iload_n hx hb dX6_idea_35 rfl (lv_at hl 0 rfl) ?_
        refine lv_aload_n hx hb dX6_idea_36 rfl (lv_at hl 1 rfl) ?_
        refine va_get (D := D) (ci := 5) (v := .int (nI (f_X6_readIdea L readStock text readPart).2.2.2.2.1.toNatClampNeg)) (C := RX6) (T := TX6) (N := 30) hx hb hts tbX6 hown hK hP 0 MW_0 rfl 5 (by decide) (hts _ tm_3_6) (fun _ h9 => h9) rfl dX6_idea_37 ?_
        refine lv_icmp_ge (tgt := 79) hx hb dX6_idea_40 (by decide) (fun c_40 => absurd c_40 (nI_ge  (by omega) (by omega))) (fun c_40 => ?_)
        refine lv_aload_n hx hb dX6_idea_43 rfl (lv_at hl 1 rfl) ?_
        refine va_get (D := D) (ci := 5) (v := .ref (q 2)) (C := RX6) (T := TX6) (N := 30) hx hb hts tbX6 hown hK hP 0 MW_0 rfl 6 (by decide) (hts _ tm_3_7) (fun _ h9 => h9) rfl dX6_idea_44 ?_
        refine lv_iload_n hx hb dX6_idea_47 rfl (lv_at hl 0 rfl) ?_
        refine lv_aload_n hx hb dX6_idea_48 rfl (lv_at hl 1 rfl) ?_
        refine va_get (D := D) (ci := 5) (v := .ref (q 4)) (C := RX6) (T := TX6) (N := 30) hx hb hts tbX6 hown hK hP 0 MW_0 rfl 11 (by decide) (hts _ tm_3_12) (fun _ h9 => h9) rfl dX6_idea_49 ?_
        refine lv_iconst (v := (2 : Int32)) hx hb dX6_idea_52 (by decide) ?_
        refine lv_iload_n hx hb dX6_idea_53 rfl (lv_at hl 0 rfl) ?_
        refine lv_imul hx hb dX6_idea_54 ?_
        refine lv_rw (z := (nI (2 * i_35))) (pk_mul 2 _) ?_
        refine va_iald hx hb hK hP 4 0 MW_4 rfl (vp_in_nI (show (2 * i_35) < 14 by omega) (by omega)) dX6_idea_55 ?_
        refine lv_rw (z := ((f_X6_readIdea L readStock text readPart).2.2.2.2.2 (2 * i_35))) (congrArg (f_X6_readIdea L readStock text readPart).2.2.2.2.2 (nI_clamp (show (2 * i_35) < 2 ^ 31 by omega))) ?_
        refine va_iast hx hb hK hP hD hS 2 0 MW_2 rfl (vp_in_nI (show i_35 < 7 by omega) (by omega)) dX6_idea_56 (fun H locs hP _ hS => ?_)
        have hP : va_P D vwCl (MW cI cZ q (0 : Int32) (nI L) (f_X6_readIdea L readStock text readPart).2.1 (f_X6_readIdea L readStock text readPart).2.2.1 (nI (f_X6_readIdea L readStock text readPart).2.2.2.2.1.toNatClampNeg) (f_X6_readIdea L readStock text readPart).2.2.1 (f_X6_readIdea L readStock text readPart).2.2.2.1 (f_X6_readIdea L readStock text readPart).2.2.2.2.1 acts tried soonMany soonWhich kindMany kindFirst restMany restFirst text (upd li35 (nI i_35).toNatClampNeg ((f_X6_readIdea L readStock text readPart).2.2.2.2.2 (2 * i_35))) ki35 (f_X6_readIdea L readStock text readPart).2.2.2.2.2 page trial book kept isKept triedAbout triedIs gains value seed) H := hP
        rw [(nI_clamp (show i_35 < 2 ^ 31 by omega))] at hP
        have hD : va_D A (MW cI cZ q (0 : Int32) (nI L) (f_X6_readIdea L readStock text readPart).2.1 (f_X6_readIdea L readStock text readPart).2.2.1 (nI (f_X6_readIdea L readStock text readPart).2.2.2.2.1.toNatClampNeg) (f_X6_readIdea L readStock text readPart).2.2.1 (f_X6_readIdea L readStock text readPart).2.2.2.1 (f_X6_readIdea L readStock text readPart).2.2.2.2.1 acts tried soonMany soonWhich kindMany kindFirst restMany restFirst text (upd li35 i_35 ((f_X6_readIdea L readStock text readPart).2.2.2.2.2 (2 * i_35))) ki35 (f_X6_readIdea L readStock text readPart).2.2.2.2.2 page trial book kept isKept triedAbout triedIs gains value seed) := hD.same (MW_ad.trans MW_ad.symm)
        refine lv_aload_n hx hb dX6_idea_57 rfl (lv_at hl 1 rfl) ?_
        refine va_get (D := D) (ci := 5) (v := .ref (q 3)) (C := RX6) (T := TX6) (N := 30) hx hb hts tbX6 hown hK hP 0 MW_0 rfl 7 (by decide) (hts _ tm_3_8) (fun _ h9 => h9) rfl dX6_idea_58 ?_
        refine lv_iload_n hx hb dX6_idea_61 rfl (lv_at hl 0 rfl) ?_
        refine lv_aload_n hx hb dX6_idea_62 rfl (lv_at hl 1 rfl) ?_
        refine va_get (D := D) (ci := 5) (v := .ref (q 4)) (C := RX6) (T := TX6) (N := 30) hx hb hts tbX6 hown hK hP 0 MW_0 rfl 11 (by decide) (hts _ tm_3_12) (fun _ h9 => h9) rfl dX6_idea_63 ?_
        refine lv_iconst (v := (2 : Int32)) hx hb dX6_idea_66 (by decide) ?_
        refine lv_iload_n hx hb dX6_idea_67 rfl (lv_at hl 0 rfl) ?_
        refine lv_imul hx hb dX6_idea_68 ?_
        refine lv_rw (z := (nI (2 * i_35))) (pk_mul 2 _) ?_
        refine lv_iconst (v := (1 : Int32)) hx hb dX6_idea_69 (by decide) ?_
        refine lv_iadd hx hb dX6_idea_70 ?_
        refine lv_rw (z := (nI (2 * i_35 + 1))) (nI_1 _) ?_
        refine va_iald hx hb hK hP 4 0 MW_4 rfl (vp_in_nI (show (2 * i_35 + 1) < 14 by omega) (by omega)) dX6_idea_71 ?_
        refine lv_rw (z := ((f_X6_readIdea L readStock text readPart).2.2.2.2.2 (2 * i_35 + 1))) (congrArg (f_X6_readIdea L readStock text readPart).2.2.2.2.2 (nI_clamp (show (2 * i_35 + 1) < 2 ^ 31 by omega))) ?_
        refine va_iast hx hb hK hP hD hS 3 0 MW_3 rfl (vp_in_nI (show i_35 < 7 by omega) (by omega)) dX6_idea_72 (fun H locs hP _ hS => ?_)
        have hP : va_P D vwCl (MW cI cZ q (0 : Int32) (nI L) (f_X6_readIdea L readStock text readPart).2.1 (f_X6_readIdea L readStock text readPart).2.2.1 (nI (f_X6_readIdea L readStock text readPart).2.2.2.2.1.toNatClampNeg) (f_X6_readIdea L readStock text readPart).2.2.1 (f_X6_readIdea L readStock text readPart).2.2.2.1 (f_X6_readIdea L readStock text readPart).2.2.2.2.1 acts tried soonMany soonWhich kindMany kindFirst restMany restFirst text (upd li35 i_35 ((f_X6_readIdea L readStock text readPart).2.2.2.2.2 (2 * i_35))) (upd ki35 (nI i_35).toNatClampNeg ((f_X6_readIdea L readStock text readPart).2.2.2.2.2 (2 * i_35 + 1))) (f_X6_readIdea L readStock text readPart).2.2.2.2.2 page trial book kept isKept triedAbout triedIs gains value seed) H := hP
        rw [(nI_clamp (show i_35 < 2 ^ 31 by omega))] at hP
        have hD : va_D A (MW cI cZ q (0 : Int32) (nI L) (f_X6_readIdea L readStock text readPart).2.1 (f_X6_readIdea L readStock text readPart).2.2.1 (nI (f_X6_readIdea L readStock text readPart).2.2.2.2.1.toNatClampNeg) (f_X6_readIdea L readStock text readPart).2.2.1 (f_X6_readIdea L readStock text readPart).2.2.2.1 (f_X6_readIdea L readStock text readPart).2.2.2.2.1 acts tried soonMany soonWhich kindMany kindFirst restMany restFirst text (upd li35 i_35 ((f_X6_readIdea L readStock text readPart).2.2.2.2.2 (2 * i_35))) (upd ki35 i_35 ((f_X6_readIdea L readStock text readPart).2.2.2.2.2 (2 * i_35 + 1))) (f_X6_readIdea L readStock text readPart).2.2.2.2.2 page trial book kept isKept triedAbout triedIs gains value seed) := hD.same (MW_ad.trans MW_ad.symm)
        refine lv_iinc (v := (nI (i_35 + 1))) (lv' := [(1, .int (nI (i_35 + 1))), (0, .ref (q 0))]) hx hb dX6_idea_73 hl (k := 0) rfl (nI_up i_35) (by decide) rfl (fun ls hl => ?_)
        refine lv_goto (tgt := 35) hx hb dX6_idea_76 (by decide) ?_
        exact ih_35 (i_35 + 1) (upd li35 i_35 ((f_X6_readIdea L readStock text readPart).2.2.2.2.2 (2 * i_35))) (upd ki35 i_35 ((f_X6_readIdea L readStock text readPart).2.2.2.2.2 (2 * i_35 + 1))) ls _ _ (by omega) hT_35 (lv_sub hl [0, 1] rfl) hP hS
    exact key_35 (f_X6_readIdea L readStock text readPart).2.2.2.2.1.toNatClampNeg 0 lies kind ls _ _ (by omega) hT_35 (lv_sub hl [0, 1] rfl) hP hS
  · rw [if_neg c_11] at hR
    refine lv_bipush (v := (-3 : Int32)) hx hb dX6_idea_14 (by decide) ?_
    subst hR
    exact fin _ _ _ _ dX6_idea_16 (nar_i _) hP hS
