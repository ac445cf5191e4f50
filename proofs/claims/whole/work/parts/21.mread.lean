theorem de_X6_noPart : deOK yX6_noPart 1 := by decide +kernel
theorem de_X6_partAt : deOK yX6_partAt 1 := by decide +kernel
theorem de_X6_hasPole : deOK yX6_hasPole 2 := by decide +kernel
theorem de_X6_isBy : deOK yX6_isBy 4 := by decide +kernel
theorem de_X6_stands : deOK yX6_stands 3 := by decide +kernel
theorem de_X6_standing : deOK yX6_standing 1 := by decide +kernel
theorem de_X6_poles : deOK yX6_poles 1 := by decide +kernel
def f_X6_noPart (n : Nat) (a1 : Int32) : Int32 := (if (f_X6_in a1.toInt64 (0 : Int64) ((nI n) - (1 : Int32)).toInt64) = (0 : Int32) then (1 : Int32) else (0 : Int32))
set_option maxHeartbeats 4000000 in
set_option maxRecDepth 100000 in
theorem c_X6_noPart (l : Launch) (D : va_G) (cI cZ : ClassId) (q : Nat → Nat) (thrown : Int32) (textSize : Int32) (place : Int32) (stock : Int32) (n : Nat) (readStock : Int32) (readCells : Int32) (readParts : Int32) (acts : Int32) (tried : Int32) (soonMany : Int32) (soonWhich : Int32) (kindMany : Int32) (kindFirst : Int32) (restMany : Int32) (restFirst : Int32) (text lies kind readPart page trial book kept isKept triedAbout triedIs gains value : Nat → Int32) (seed : Int64) (a1 : Int32) : RdI l yX6_noPart cX6_noPart 2 .boolean 1 25 D (tyL cI cZ) (MW cI cZ q thrown textSize place stock (nI n) readStock readCells readParts acts tried soonMany soonWhich kindMany kindFirst restMany restFirst text lies kind readPart page trial book kept isKept triedAbout triedIs gains value seed) [.ref (q 0), .int a1] (f_X6_noPart n a1) := by
  refine RdI.of (by decide) (Nat.le_of_ble_eq_true rfl) ?_
  intro p e s m args below meth c Q hx hb hml hown hts hP hK fin ls hl
  have hown : s.vm.findClass RX6 = some m.cls := hown
  have hF : CallFix p m c cX6_noPart 2 s args tb RX6 := ⟨hx, hb, hml, hown, hts⟩
  have hl : lv_has ls 2 [(0, .ref (q 0)), (1, .int a1)] := hl
  generalize hR : (f_X6_noPart n a1) = R at fin
  unfold f_X6_noPart at hR
  refine lv_iload_n hx hb dX6_noPart_0 rfl (lv_at hl 1 rfl) ?_
  refine lv_i2l (v := a1.toInt64) hx hb dX6_noPart_1 rfl ?_
  refine lv_lconst (v := (0 : Int64)) hx hb dX6_noPart_2 (by decide) ?_
  refine lv_aload_n hx hb dX6_noPart_3 rfl (lv_at hl 0 rfl) ?_
  refine va_get (D := D) (ci := 5) (v := .int (nI n)) (C := RX6) (T := TX6) (N := 30) hx hb hts tbX6 hown hK hP 0 MW_0 rfl 5 (by decide) (hts _ tm_3_6) (fun _ h9 => h9) rfl dX6_noPart_4 ?_
  refine lv_iconst (v := (1 : Int32)) hx hb dX6_noPart_7 (by decide) ?_
  refine lv_isub hx hb dX6_noPart_8 ?_
  refine lv_i2l (v := ((nI n) - (1 : Int32)).toInt64) hx hb dX6_noPart_9 rfl ?_
  refine sRdI (As := [.long a1.toInt64, .long (0 : Int64), .long ((nI n) - (1 : Int32)).toInt64]) (rest := []) hF (c_X6_in l D cI cZ q a1.toInt64 (0 : Int64) ((nI n) - (1 : Int32)).toInt64) (gdS tm_3_97 tm_3_98 tm_1_6 tm_3_99) de_X6_in ⟨Nat.le_of_ble_eq_true rfl, Nat.le_of_ble_eq_true rfl⟩ va_P_nil hK hl.1 rfl (Nat.le_of_ble_eq_true rfl) dX6_noPart_10 ⟨Nat.zero_le _, Nat.zero_le _⟩ ?_
  refine lv_if_ne (tgt := 20) hx hb dX6_noPart_13 (by decide) (fun c_13 => ?_) (fun c_13 => ?_)
  · rw [if_neg c_13] at hR
    refine lv_iconst (v := (0 : Int32)) hx hb dX6_noPart_20 (by decide) ?_
    subst hR
    exact fin _ _ dX6_noPart_21 (nar_b (Or.inl rfl))
  · rw [if_pos c_13] at hR
    refine lv_iconst (v := (1 : Int32)) hx hb dX6_noPart_16 (by decide) ?_
    refine lv_goto (tgt := 21) hx hb dX6_noPart_17 (by decide) ?_
    subst hR
    exact fin _ _ dX6_noPart_21 (nar_b (Or.inr rfl))
theorem noPart_of {n : Nat} {a : Int32} (hn7 : n ≤ 7) (h : f_X6_noPart n a = 0) : 0 ≤ a.toInt ∧ a.toInt < n := by
  unfold f_X6_noPart at h
  by_cases h1 : f_X6_in a.toInt64 0 (nI n - 1).toInt64 = 0
  · rw [if_pos h1] at h; exact absurd h (by decide)
  · have h2 := in_of h1
    rw [Int32.toInt_toInt64, Int32.toInt_toInt64, show (0 : Int64).toInt = 0 by decide] at h2
    have e1 : (1 : Int32).toInt = 1 := by decide
    have h3 : (nI n).toInt = n := nI_toInt (by omega)
    have h4 : (nI n - 1).toInt = n - 1 := by rw [i_sub (by omega) (by omega)]; omega
    omega
theorem noPart_nI {n : Nat} {a : Int32} (hn7 : n ≤ 7) (h : f_X6_noPart n a = 0) : a = nI a.toNatClampNeg := nI_self (fun h2 => by
    have h1 := noPart_of hn7 h
    rw [Int32.lt_iff_toInt_lt] at h2
    have e : (0 : Int32).toInt = 0 := by decide
    omega)
theorem noPart_lt {n : Nat} {a : Int32} (hn7 : n ≤ 7) (h : f_X6_noPart n a = 0) : a.toNatClampNeg < n := by
  have h1 := noPart_of hn7 h
  have : a.toNatClampNeg = a.toInt.toNat := rfl
  omega
def f_X6_partAt_l5 (lies : Nat → Int32) (a1 : Int32) : Nat → Nat → (Int32) → Int32
  | 0, i_5, fo5 => fo5
  | d_5 + 1, i_5, fo5 => (if (lies i_5) = a1 then (f_X6_partAt_l5 lies a1 d_5 (i_5 + 1) (nI i_5)) else (f_X6_partAt_l5 lies a1 d_5 (i_5 + 1) fo5))
theorem f_X6_partAt_l5_z {lies : Nat → Int32} {a1 : Int32} {i_5 : Nat} {fo5 : Int32} : f_X6_partAt_l5 lies a1 0 i_5 fo5 = fo5 := by rw [f_X6_partAt_l5]
theorem f_X6_partAt_l5_s {lies : Nat → Int32} {a1 : Int32} {d_5 : Nat} {i_5 : Nat} {fo5 : Int32} : f_X6_partAt_l5 lies a1 (d_5 + 1) i_5 fo5 = (if (lies i_5) = a1 then (f_X6_partAt_l5 lies a1 d_5 (i_5 + 1) (nI i_5)) else (f_X6_partAt_l5 lies a1 d_5 (i_5 + 1) fo5)) := by rw [f_X6_partAt_l5]
def f_X6_partAt (n : Nat) (lies : Nat → Int32) (a1 : Int32) : Int32 := (f_X6_partAt_l5 lies a1 n 0 (-9 : Int32))
set_option maxHeartbeats 4000000 in
set_option maxRecDepth 100000 in
theorem c_X6_partAt (l : Launch) (D : va_G) (cI cZ : ClassId) (q : Nat → Nat) (thrown : Int32) (textSize : Int32) (place : Int32) (stock : Int32) (n : Nat) (readStock : Int32) (readCells : Int32) (readParts : Int32) (acts : Int32) (tried : Int32) (soonMany : Int32) (soonWhich : Int32) (kindMany : Int32) (kindFirst : Int32) (restMany : Int32) (restFirst : Int32) (text lies kind readPart page trial book kept isKept triedAbout triedIs gains value : Nat → Int32) (seed : Int64) (a1 : Int32) (hn7 : n ≤ 7) : RdI l yX6_partAt cX6_partAt 4 .int 0 0 D (tyL cI cZ) (MW cI cZ q thrown textSize place stock (nI n) readStock readCells readParts acts tried soonMany soonWhich kindMany kindFirst restMany restFirst text lies kind readPart page trial book kept isKept triedAbout triedIs gains value seed) [.ref (q 0), .int a1] (f_X6_partAt n lies a1) := by
  refine RdI.of (by decide) (Nat.le_of_ble_eq_true rfl) ?_
  intro p e s m args below meth c Q hx hb hml hown hts hP hK fin ls hl
  have hown : s.vm.findClass RX6 = some m.cls := hown
  have hF : CallFix p m c cX6_partAt 4 s args tb RX6 := ⟨hx, hb, hml, hown, hts⟩
  have hl : lv_has ls 4 [(0, .ref (q 0)), (1, .int a1)] := hl
  generalize hR : (f_X6_partAt n lies a1) = R at fin
  unfold f_X6_partAt at hR
  refine lv_bipush (v := (-9 : Int32)) hx hb dX6_partAt_0 (by decide) ?_
  refine lv_istore_n (lv' := [(2, .int (-9 : Int32)), (0, .ref (q 0)), (1, .int a1)]) hx hb dX6_partAt_2 rfl hl (by decide) rfl (fun ls hl => ?_)
  refine lv_iconst (v := (0 : Int32)) hx hb dX6_partAt_3 (by decide) ?_
  refine lv_istore_n (lv' := [(3, .int (0 : Int32)), (2, .int (-9 : Int32)), (0, .ref (q 0)), (1, .int a1)]) hx hb dX6_partAt_4 rfl hl (by decide) rfl (fun ls hl => ?_)
  obtain ⟨T_5, hT_5⟩ : ∃ z, f_X6_partAt_l5 lies a1 n 0 (-9 : Int32) = z := ⟨_, rfl⟩
  rw [hT_5] at hR
  have key_5 : ∀ (d_5 i_5 : Nat) (fo5 : Int32) (ls : Array Slot), i_5 + d_5 = n → f_X6_partAt_l5 lies a1 d_5 i_5 fo5 = T_5 → lv_has ls 4 [(3, .int (nI i_5)), (2, .int fo5), (0, .ref (q 0)), (1, .int a1)] → W p l e (rmO 0 0) s m args below meth c s.heap [] 0 0 Q (F0 m 5 ls []) := by
    intro d_5
    induction d_5 with
    | zero =>
      intro i_5 fo5 ls hi_5 hT_5 hl
      rw [f_X6_partAt_l5_z] at hT_5
      refine lv_iload_n hx hb dX6_partAt_5 rfl (lv_at hl 0 rfl) ?_
      refine lv_aload_n hx hb dX6_partAt_6 rfl (lv_at hl 2 rfl) ?_
      refine va_get (D := D) (ci := 5) (v := .int (nI n)) (C := RX6) (T := TX6) (N := 30) hx hb hts tbX6 hown hK hP 0 MW_0 rfl 5 (by decide) (hts _ tm_3_6) (fun _ h9 => h9) rfl dX6_partAt_7 ?_
      refine lv_icmp_ge (tgt := 35) hx hb dX6_partAt_10 (by decide) (fun c_10 => ?_) (fun c_10 => absurd (nI_le  (by omega) (by omega)) c_10)
      subst hT_5
      try dsimp only at hR
      refine lv_iload_n hx hb dX6_partAt_35 rfl (lv_at hl 1 rfl) ?_
      subst hR
      exact fin _ _ dX6_partAt_36 (nar_i _)
    | succ d_5 ih_5 =>
      intro i_5 fo5 ls hi_5 hT_5 hl
      rw [f_X6_partAt_l5_s] at hT_5
      refine lv_iload_n hx hb dX6_partAt_5 rfl (lv_at hl 0 rfl) ?_
      refine lv_aload_n hx hb dX6_partAt_6 rfl (lv_at hl 2 rfl) ?_
      refine va_get (D := D) (ci := 5) (v := .int (nI n)) (C := RX6) (T := TX6) (N := 30) hx hb hts tbX6 hown hK hP 0 MW_0 rfl 5 (by decide) (hts _ tm_3_6) (fun _ h9 => h9) rfl dX6_partAt_7 ?_
      refine lv_icmp_ge (tgt := 35) hx hb dX6_partAt_10 (by decide) (fun c_10 => absurd c_10 (nI_ge  (by omega) (by omega))) (fun c_10 => ?_)
      refine lv_aload_n hx hb dX6_partAt_13 rfl (lv_at hl 2 rfl) ?_
      refine va_get (D := D) (ci := 5) (v := .ref (q 2)) (C := RX6) (T := TX6) (N := 30) hx hb hts tbX6 hown hK hP 0 MW_0 rfl 6 (by decide) (hts _ tm_3_7) (fun _ h9 => h9) rfl dX6_partAt_14 ?_
      refine lv_iload_n hx hb dX6_partAt_17 rfl (lv_at hl 0 rfl) ?_
      refine va_iald hx hb hK hP 2 0 MW_2 rfl (vp_in_nI (show i_5 < 7 by omega) (by omega)) dX6_partAt_18 ?_
      refine lv_rw (z := (lies i_5)) (congrArg lies (nI_clamp (show i_5 < 2 ^ 31 by omega))) ?_
      refine lv_iload_n hx hb dX6_partAt_19 rfl (lv_at hl 3 rfl) ?_
      refine lv_icmp_ne (tgt := 27) hx hb dX6_partAt_20 (by decide) (fun c_20 => ?_) (fun c_20 => ?_)
      · rw [if_neg c_20] at hT_5
        refine lv_iload_n hx hb dX6_partAt_27 rfl (lv_at hl 1 rfl) ?_
        refine lv_istore_n (lv' := [(2, .int fo5), (3, .int (nI i_5)), (0, .ref (q 0)), (1, .int a1)]) hx hb dX6_partAt_28 rfl hl (by decide) rfl (fun ls hl => ?_)
        refine lv_iinc (v := (nI (i_5 + 1))) (lv' := [(3, .int (nI (i_5 + 1))), (2, .int fo5), (0, .ref (q 0)), (1, .int a1)]) hx hb dX6_partAt_29 hl (k := 1) rfl (nI_up i_5) (by decide) rfl (fun ls hl => ?_)
        refine lv_goto (tgt := 5) hx hb dX6_partAt_32 (by decide) ?_
        exact ih_5 (i_5 + 1) fo5 ls (by omega) hT_5 (lv_sub hl [0, 1, 2, 3] rfl)
      · rw [if_pos c_20] at hT_5
        refine lv_iload_n hx hb dX6_partAt_23 rfl (lv_at hl 0 rfl) ?_
        refine lv_goto (tgt := 28) hx hb dX6_partAt_24 (by decide) ?_
        refine lv_istore_n (lv' := [(2, .int (nI i_5)), (3, .int (nI i_5)), (0, .ref (q 0)), (1, .int a1)]) hx hb dX6_partAt_28 rfl hl (by decide) rfl (fun ls hl => ?_)
        refine lv_iinc (v := (nI (i_5 + 1))) (lv' := [(3, .int (nI (i_5 + 1))), (2, .int (nI i_5)), (0, .ref (q 0)), (1, .int a1)]) hx hb dX6_partAt_29 hl (k := 1) rfl (nI_up i_5) (by decide) rfl (fun ls hl => ?_)
        refine lv_goto (tgt := 5) hx hb dX6_partAt_32 (by decide) ?_
        exact ih_5 (i_5 + 1) (nI i_5) ls (by omega) hT_5 (lv_sub hl [0, 1, 2, 3] rfl)
  exact key_5 n 0 (-9 : Int32) ls (by omega) hT_5 (lv_sub hl [0, 1, 2, 3] rfl)
def f_X6_hasPole (cl : Nat → Nat) (pp : Nat) (f : Nat → Int32) : Int32 := (if (f (cl pp % 4)) ≤ (nI (cl pp / 4)) then (0 : Int32) else (1 : Int32))
set_option maxHeartbeats 4000000 in
set_option maxRecDepth 100000 in
theorem c_X6_hasPole (l : Launch) (D : va_G) (cI cZ : ClassId) (q : Nat → Nat) (thrown : Int32) (textSize : Int32) (place : Int32) (stock : Int32) (n : Nat) (readStock : Int32) (readCells : Int32) (readParts : Int32) (acts : Int32) (tried : Int32) (soonMany : Int32) (soonWhich : Int32) (kindMany : Int32) (kindFirst : Int32) (restMany : Int32) (restFirst : Int32) (text lies kind readPart page trial book kept isKept triedAbout triedIs gains value : Nat → Int32) (seed : Int64) (pk pr : Nat) (f : Nat → Int32) (hpk : (MW cI cZ q thrown textSize place stock (nI n) readStock readCells readParts acts tried soonMany soonWhich kindMany kindFirst restMany restFirst text lies kind readPart page trial book kept isKept triedAbout triedIs gains value seed)[pk]? = some (pr, .inl (cI, 7, .inl f))) (pp : Nat) (hpp : pp < 7) (cl : Nat → Nat) (hcl : ∀ j, j < 7 → lies j = nI (cl j) ∧ cl j < 16) : RdI l yX6_hasPole cX6_hasPole 3 .boolean 0 0 D (tyL cI cZ) (MW cI cZ q thrown textSize place stock (nI n) readStock readCells readParts acts tried soonMany soonWhich kindMany kindFirst restMany restFirst text lies kind readPart page trial book kept isKept triedAbout triedIs gains value seed) [.ref (q 0), .ref pr, .int (nI pp)] (f_X6_hasPole cl pp f) := by
  refine RdI.of (by decide) (Nat.le_of_ble_eq_true rfl) ?_
  intro p e s m args below meth c Q hx hb hml hown hts hP hK fin ls hl
  have hown : s.vm.findClass RX6 = some m.cls := hown
  have hF : CallFix p m c cX6_hasPole 3 s args tb RX6 := ⟨hx, hb, hml, hown, hts⟩
  have hl : lv_has ls 3 [(0, .ref (q 0)), (1, .ref pr), (2, .int (nI pp))] := hl
  generalize hR : (f_X6_hasPole cl pp f) = R at fin
  unfold f_X6_hasPole at hR
  refine lv_aload_n hx hb dX6_hasPole_0 rfl (lv_at hl 0 rfl) ?_
  refine va_get (D := D) (ci := 5) (v := .ref (q 2)) (C := RX6) (T := TX6) (N := 30) hx hb hts tbX6 hown hK hP 0 MW_0 rfl 6 (by decide) (hts _ tm_3_7) (fun _ h9 => h9) rfl dX6_hasPole_1 ?_
  refine lv_iload_n hx hb dX6_hasPole_4 rfl (lv_at hl 2 rfl) ?_
  refine va_iald hx hb hK hP 2 0 MW_2 rfl (vp_in_nI (show pp < 7 by omega) (by omega)) dX6_hasPole_5 ?_
  refine lv_rw (z := (lies pp)) (congrArg lies (nI_clamp (show pp < 2 ^ 31 by omega))) ?_
  refine lv_rw (z := (nI (cl pp))) (hcl pp hpp).1 ?_
  refine lv_iconst (v := (4 : Int32)) hx hb dX6_hasPole_6 (by decide) ?_
  refine lv_idiv hx hb dX6_hasPole_7 (by decide) ?_
  refine lv_rw (z := (nI (cl pp / 4))) (pk_div (d := 4) (by have := (hcl pp hpp).2; omega) (by omega) (by omega)) ?_
  refine lv_aload_n hx hb dX6_hasPole_8 rfl (lv_at hl 1 rfl) ?_
  refine lv_aload_n hx hb dX6_hasPole_9 rfl (lv_at hl 0 rfl) ?_
  refine va_get (D := D) (ci := 5) (v := .ref (q 2)) (C := RX6) (T := TX6) (N := 30) hx hb hts tbX6 hown hK hP 0 MW_0 rfl 6 (by decide) (hts _ tm_3_7) (fun _ h9 => h9) rfl dX6_hasPole_10 ?_
  refine lv_iload_n hx hb dX6_hasPole_13 rfl (lv_at hl 2 rfl) ?_
  refine va_iald hx hb hK hP 2 0 MW_2 rfl (vp_in_nI (show pp < 7 by omega) (by omega)) dX6_hasPole_14 ?_
  refine lv_rw (z := (lies pp)) (congrArg lies (nI_clamp (show pp < 2 ^ 31 by omega))) ?_
  refine lv_rw (z := (nI (cl pp))) (hcl pp hpp).1 ?_
  refine lv_iconst (v := (4 : Int32)) hx hb dX6_hasPole_15 (by decide) ?_
  refine lv_irem hx hb dX6_hasPole_16 (by decide) ?_
  refine lv_rw (z := (jr (nI (cl pp)) (4 : Int32))) rfl ?_
  refine lv_rw (z := (nI (cl pp % 4))) (jr_nI (d := 4) (by have := (hcl pp hpp).2; omega) (by omega) (by omega)) ?_
  refine va_iald hx hb hK hP pk 0 hpk rfl (vp_in_nI (show (cl pp % 4) < 7 by omega) (by omega)) dX6_hasPole_17 ?_
  refine lv_rw (z := (f (cl pp % 4))) (congrArg f (nI_clamp (show (cl pp % 4) < 2 ^ 31 by omega))) ?_
  refine lv_icmp_ge (tgt := 25) hx hb dX6_hasPole_18 (by decide) (fun c_18 => ?_) (fun c_18 => ?_)
  · rw [if_pos c_18] at hR
    refine lv_iconst (v := (0 : Int32)) hx hb dX6_hasPole_25 (by decide) ?_
    subst hR
    exact fin _ _ dX6_hasPole_26 (nar_b (Or.inl rfl))
  · rw [if_neg c_18] at hR
    refine lv_iconst (v := (1 : Int32)) hx hb dX6_hasPole_21 (by decide) ?_
    refine lv_goto (tgt := 26) hx hb dX6_hasPole_22 (by decide) ?_
    subst hR
    exact fin _ _ dX6_hasPole_26 (nar_b (Or.inr rfl))
def f_X6_isBy (n : Nat) (lies : Nat → Int32) (a1 : Int32) (a2 : Int32) (a3 : Int32) (a4 : Int32) : Int32 := (if (f_X6_noColumn ((jr a2 (4 : Int32)) + a4)) = (0 : Int32) then (if (0 : Int32) ≤ ((a2 / (4 : Int32)) + a3) then (if (f_X6_partAt n lies (((4 : Int32) * ((a2 / (4 : Int32)) + a3)) + ((jr a2 (4 : Int32)) + a4))) = (-9 : Int32) then (0 : Int32) else (if (f_X6_has a1 (f_X6_partAt n lies (((4 : Int32) * ((a2 / (4 : Int32)) + a3)) + ((jr a2 (4 : Int32)) + a4)))) = (0 : Int32) then (0 : Int32) else (1 : Int32))) else (0 : Int32)) else (0 : Int32))
set_option maxHeartbeats 4000000 in
set_option maxRecDepth 100000 in
theorem c_X6_isBy (l : Launch) (D : va_G) (cI cZ : ClassId) (q : Nat → Nat) (thrown : Int32) (textSize : Int32) (place : Int32) (stock : Int32) (n : Nat) (readStock : Int32) (readCells : Int32) (readParts : Int32) (acts : Int32) (tried : Int32) (soonMany : Int32) (soonWhich : Int32) (kindMany : Int32) (kindFirst : Int32) (restMany : Int32) (restFirst : Int32) (text lies kind readPart page trial book kept isKept triedAbout triedIs gains value : Nat → Int32) (seed : Int64) (a1 : Int32) (a2 : Int32) (a3 : Int32) (a4 : Int32) (hn7 : n ≤ 7) : RdI l yX6_isBy cX6_isBy 8 .boolean 2 45 D (tyL cI cZ) (MW cI cZ q thrown textSize place stock (nI n) readStock readCells readParts acts tried soonMany soonWhich kindMany kindFirst restMany restFirst text lies kind readPart page trial book kept isKept triedAbout triedIs gains value seed) [.ref (q 0), .int a1, .int a2, .int a3, .int a4] (f_X6_isBy n lies a1 a2 a3 a4) := by
  refine RdI.of (by decide) (Nat.le_of_ble_eq_true rfl) ?_
  intro p e s m args below meth c Q hx hb hml hown hts hP hK fin ls hl
  have hown : s.vm.findClass RX6 = some m.cls := hown
  have hF : CallFix p m c cX6_isBy 8 s args tb RX6 := ⟨hx, hb, hml, hown, hts⟩
  have hl : lv_has ls 8 [(0, .ref (q 0)), (1, .int a1), (2, .int a2), (3, .int a3), (4, .int a4)] := hl
  generalize hR : (f_X6_isBy n lies a1 a2 a3 a4) = R at fin
  unfold f_X6_isBy at hR
  refine lv_iload_n hx hb dX6_isBy_0 rfl (lv_at hl 2 rfl) ?_
  refine lv_iconst (v := (4 : Int32)) hx hb dX6_isBy_1 (by decide) ?_
  refine lv_irem hx hb dX6_isBy_2 (by decide) ?_
  refine lv_rw (z := (jr a2 (4 : Int32))) rfl ?_
  refine lv_iload hx hb dX6_isBy_3 (lv_at hl 4 rfl) ?_
  refine lv_iadd hx hb dX6_isBy_5 ?_
  refine lv_istore (lv' := [(5, .int ((jr a2 (4 : Int32)) + a4)), (0, .ref (q 0)), (1, .int a1), (2, .int a2), (3, .int a3), (4, .int a4)]) hx hb dX6_isBy_6 hl (by decide) rfl (fun ls hl => ?_)
  refine lv_iload_n hx hb dX6_isBy_8 rfl (lv_at hl 3 rfl) ?_
  refine lv_iconst (v := (4 : Int32)) hx hb dX6_isBy_9 (by decide) ?_
  refine lv_idiv hx hb dX6_isBy_10 (by decide) ?_
  refine lv_iload_n hx hb dX6_isBy_11 rfl (lv_at hl 4 rfl) ?_
  refine lv_iadd hx hb dX6_isBy_12 ?_
  refine lv_istore (lv' := [(6, .int ((a2 / (4 : Int32)) + a3)), (5, .int ((jr a2 (4 : Int32)) + a4)), (0, .ref (q 0)), (1, .int a1), (2, .int a2), (3, .int a3), (4, .int a4)]) hx hb dX6_isBy_13 hl (by decide) rfl (fun ls hl => ?_)
  refine lv_iload hx hb dX6_isBy_15 (lv_at hl 1 rfl) ?_
  refine sRdI (As := [.int ((jr a2 (4 : Int32)) + a4)]) (rest := []) hF (c_X6_noColumn l D cI cZ q ((jr a2 (4 : Int32)) + a4)) (gdS tm_3_161 tm_3_162 tm_1_6 tm_3_163) de_X6_noColumn ⟨Nat.le_of_ble_eq_true rfl, Nat.le_of_ble_eq_true rfl⟩ va_P_nil hK hl.1 rfl (Nat.le_of_ble_eq_true rfl) dX6_isBy_17 ⟨Nat.zero_le _, Nat.zero_le _⟩ ?_
  refine lv_if_ne (tgt := 28) hx hb dX6_isBy_20 (by decide) (fun c_20 => ?_) (fun c_20 => ?_)
  · rw [if_neg c_20] at hR
    refine lv_iconst (v := (0 : Int32)) hx hb dX6_isBy_28 (by decide) ?_
    subst hR
    exact fin _ _ dX6_isBy_29 (nar_b (Or.inl rfl))
  · rw [if_pos c_20] at hR
    refine lv_iload hx hb dX6_isBy_23 (lv_at hl 0 rfl) ?_
    refine lv_if_ge (tgt := 30) hx hb dX6_isBy_25 (by decide) (fun c_25 => ?_) (fun c_25 => ?_)
    · rw [if_pos c_25] at hR
      refine lv_aload_n hx hb dX6_isBy_30 rfl (lv_at hl 2 rfl) ?_
      refine lv_iconst (v := (4 : Int32)) hx hb dX6_isBy_31 (by decide) ?_
      refine lv_iload hx hb dX6_isBy_32 (lv_at hl 0 rfl) ?_
      refine lv_imul hx hb dX6_isBy_34 ?_
      refine lv_iload hx hb dX6_isBy_35 (lv_at hl 1 rfl) ?_
      refine lv_iadd hx hb dX6_isBy_37 ?_
      refine vRdI (b := (q 0)) (As := [.int (((4 : Int32) * ((a2 / (4 : Int32)) + a3)) + ((jr a2 (4 : Int32)) + a4))]) (rest := []) hF (c_X6_partAt l D cI cZ q thrown textSize place stock n readStock readCells readParts acts tried soonMany soonWhich kindMany kindFirst restMany restFirst text lies kind readPart page trial book kept isKept triedAbout triedIs gains value seed (((4 : Int32) * ((a2 / (4 : Int32)) + a3)) + ((jr a2 (4 : Int32)) + a4)) hn7) (gdV tm_3_164 tm_3_166 tp_19 tm_1_6 tm_3_167) de_X6_partAt ⟨Nat.le_of_ble_eq_true rfl, Nat.le_of_ble_eq_true rfl⟩ hP hK (va_recv hK hP (ci := 5) (q0 := 0) rfl MW_0) hl.1 rfl (Nat.le_of_ble_eq_true rfl) dX6_isBy_38 ⟨Nat.zero_le _, Nat.zero_le _⟩ ?_
      refine lv_istore (lv' := [(7, .int (f_X6_partAt n lies (((4 : Int32) * ((a2 / (4 : Int32)) + a3)) + ((jr a2 (4 : Int32)) + a4)))), (6, .int ((a2 / (4 : Int32)) + a3)), (5, .int ((jr a2 (4 : Int32)) + a4)), (0, .ref (q 0)), (1, .int a1), (2, .int a2), (3, .int a3), (4, .int a4)]) hx hb dX6_isBy_41 hl (by decide) rfl (fun ls hl => ?_)
      refine lv_iload hx hb dX6_isBy_43 (lv_at hl 0 rfl) ?_
      refine lv_bipush (v := (-9 : Int32)) hx hb dX6_isBy_45 (by decide) ?_
      refine lv_icmp_eq (tgt := 63) hx hb dX6_isBy_47 (by decide) (fun c_47 => ?_) (fun c_47 => ?_)
      · rw [if_pos c_47] at hR
        refine lv_iconst (v := (0 : Int32)) hx hb dX6_isBy_63 (by decide) ?_
        subst hR
        exact fin _ _ dX6_isBy_64 (nar_b (Or.inl rfl))
      · rw [if_neg c_47] at hR
        refine lv_iload_n hx hb dX6_isBy_50 rfl (lv_at hl 4 rfl) ?_
        refine lv_iload hx hb dX6_isBy_51 (lv_at hl 0 rfl) ?_
        refine sRdI (As := [.int a1, .int (f_X6_partAt n lies (((4 : Int32) * ((a2 / (4 : Int32)) + a3)) + ((jr a2 (4 : Int32)) + a4)))]) (rest := []) hF (c_X6_has l D cI cZ q a1 (f_X6_partAt n lies (((4 : Int32) * ((a2 / (4 : Int32)) + a3)) + ((jr a2 (4 : Int32)) + a4)))) (gdS tm_3_118 tm_3_119 tm_1_6 tm_3_120) de_X6_has ⟨Nat.le_of_ble_eq_true rfl, Nat.le_of_ble_eq_true rfl⟩ va_P_nil hK hl.1 rfl (Nat.le_of_ble_eq_true rfl) dX6_isBy_53 ⟨Nat.zero_le _, Nat.zero_le _⟩ ?_
        refine lv_if_eq (tgt := 63) hx hb dX6_isBy_56 (by decide) (fun c_56 => ?_) (fun c_56 => ?_)
        · rw [if_pos c_56] at hR
          refine lv_iconst (v := (0 : Int32)) hx hb dX6_isBy_63 (by decide) ?_
          subst hR
          exact fin _ _ dX6_isBy_64 (nar_b (Or.inl rfl))
        · rw [if_neg c_56] at hR
          refine lv_iconst (v := (1 : Int32)) hx hb dX6_isBy_59 (by decide) ?_
          refine lv_goto (tgt := 64) hx hb dX6_isBy_60 (by decide) ?_
          subst hR
          exact fin _ _ dX6_isBy_64 (nar_b (Or.inr rfl))
    · rw [if_neg c_25] at hR
      refine lv_iconst (v := (0 : Int32)) hx hb dX6_isBy_28 (by decide) ?_
      subst hR
      exact fin _ _ dX6_isBy_29 (nar_b (Or.inl rfl))
theorem isBy01 (n : Nat) (lies : Nat → Int32) (a1 a2 a3 a4 : Int32) : f_X6_isBy n lies a1 a2 a3 a4 = 0 ∨ f_X6_isBy n lies a1 a2 a3 a4 = 1 := by
  unfold f_X6_isBy
  repeat' split
  all_goals first | exact Or.inl rfl | exact Or.inr rfl
def f_X6_stands (cl : Nat → Nat) (n : Nat) (pp : Nat) (f : Nat → Int32) (lies : Nat → Int32) (kind : Nat → Int32) (a3 : Int32) : Int32 := (if (nI (cl pp)) < (4 : Int32) then (1 : Int32) else (if (f_X6_hasPole cl pp f) = (0 : Int32) then (f_X6_standsBy (kind pp) (f_X6_isBy n lies a3 (nI (cl pp)) (-1 : Int32) (0 : Int32)) (f_X6_isBy n lies a3 (nI (cl pp)) (0 : Int32) (-1 : Int32)) (f_X6_isBy n lies a3 (nI (cl pp)) (0 : Int32) (1 : Int32)) (f_X6_isBy n lies a3 (nI (cl pp)) (-1 : Int32) (-1 : Int32)) (f_X6_isBy n lies a3 (nI (cl pp)) (-1 : Int32) (1 : Int32))) else (1 : Int32)))
set_option maxHeartbeats 4000000 in
set_option maxRecDepth 100000 in
theorem c_X6_stands (l : Launch) (D : va_G) (cI cZ : ClassId) (q : Nat → Nat) (thrown : Int32) (textSize : Int32) (place : Int32) (stock : Int32) (n : Nat) (readStock : Int32) (readCells : Int32) (readParts : Int32) (acts : Int32) (tried : Int32) (soonMany : Int32) (soonWhich : Int32) (kindMany : Int32) (kindFirst : Int32) (restMany : Int32) (restFirst : Int32) (text lies kind readPart page trial book kept isKept triedAbout triedIs gains value : Nat → Int32) (seed : Int64) (pk pr : Nat) (f : Nat → Int32) (hpk : (MW cI cZ q thrown textSize place stock (nI n) readStock readCells readParts acts tried soonMany soonWhich kindMany kindFirst restMany restFirst text lies kind readPart page trial book kept isKept triedAbout triedIs gains value seed)[pk]? = some (pr, .inl (cI, 7, .inl f))) (pp : Nat) (a3 : Int32) (hn7 : n ≤ 7) (hpp : pp < 7) (cl : Nat → Nat) (hcl : ∀ j, j < 7 → lies j = nI (cl j) ∧ cl j < 16) : RdI l yX6_stands cX6_stands 5 .boolean 3 72 D (tyL cI cZ) (MW cI cZ q thrown textSize place stock (nI n) readStock readCells readParts acts tried soonMany soonWhich kindMany kindFirst restMany restFirst text lies kind readPart page trial book kept isKept triedAbout triedIs gains value seed) [.ref (q 0), .ref pr, .int (nI pp), .int a3] (f_X6_stands cl n pp f lies kind a3) := by
  refine RdI.of (by decide) (Nat.le_of_ble_eq_true rfl) ?_
  intro p e s m args below meth c Q hx hb hml hown hts hP hK fin ls hl
  have hown : s.vm.findClass RX6 = some m.cls := hown
  have hF : CallFix p m c cX6_stands 5 s args tb RX6 := ⟨hx, hb, hml, hown, hts⟩
  have hl : lv_has ls 5 [(0, .ref (q 0)), (1, .ref pr), (2, .int (nI pp)), (3, .int a3)] := hl
  generalize hR : (f_X6_stands cl n pp f lies kind a3) = R at fin
  unfold f_X6_stands at hR
  refine lv_aload_n hx hb dX6_stands_0 rfl (lv_at hl 0 rfl) ?_
  refine va_get (D := D) (ci := 5) (v := .ref (q 2)) (C := RX6) (T := TX6) (N := 30) hx hb hts tbX6 hown hK hP 0 MW_0 rfl 6 (by decide) (hts _ tm_3_7) (fun _ h9 => h9) rfl dX6_stands_1 ?_
  refine lv_iload_n hx hb dX6_stands_4 rfl (lv_at hl 2 rfl) ?_
  refine va_iald hx hb hK hP 2 0 MW_2 rfl (vp_in_nI (show pp < 7 by omega) (by omega)) dX6_stands_5 ?_
  refine lv_rw (z := (lies pp)) (congrArg lies (nI_clamp (show pp < 2 ^ 31 by omega))) ?_
  refine lv_rw (z := (nI (cl pp))) (hcl pp hpp).1 ?_
  refine lv_istore (lv' := [(4, .int (nI (cl pp))), (0, .ref (q 0)), (1, .ref pr), (2, .int (nI pp)), (3, .int a3)]) hx hb dX6_stands_6 hl (by decide) rfl (fun ls hl => ?_)
  refine lv_iload hx hb dX6_stands_8 (lv_at hl 0 rfl) ?_
  refine lv_iconst (v := (4 : Int32)) hx hb dX6_stands_10 (by decide) ?_
  refine lv_icmp_lt (tgt := 23) hx hb dX6_stands_11 (by decide) (fun c_11 => ?_) (fun c_11 => ?_)
  · rw [if_pos c_11] at hR
    refine lv_iconst (v := (1 : Int32)) hx hb dX6_stands_23 (by decide) ?_
    subst hR
    exact fin _ _ dX6_stands_24 (nar_b (Or.inr rfl))
  · rw [if_neg c_11] at hR
    refine lv_aload_n hx hb dX6_stands_14 rfl (lv_at hl 1 rfl) ?_
    refine lv_aload_n hx hb dX6_stands_15 rfl (lv_at hl 2 rfl) ?_
    refine lv_iload_n hx hb dX6_stands_16 rfl (lv_at hl 3 rfl) ?_
    refine vRdI (b := (q 0)) (As := [.ref pr, .int (nI pp)]) (rest := []) hF (c_X6_hasPole l D cI cZ q thrown textSize place stock n readStock readCells readParts acts tried soonMany soonWhich kindMany kindFirst restMany restFirst text lies kind readPart page trial book kept isKept triedAbout triedIs gains value seed pk pr f hpk pp hpp cl hcl) (gdV tm_3_153 tm_3_155 tp_17 tm_1_6 tm_3_156) de_X6_hasPole ⟨Nat.le_of_ble_eq_true rfl, Nat.le_of_ble_eq_true rfl⟩ hP hK (va_recv hK hP (ci := 5) (q0 := 0) rfl MW_0) hl.1 rfl (Nat.le_of_ble_eq_true rfl) dX6_stands_17 ⟨Nat.zero_le _, Nat.zero_le _⟩ ?_
    refine lv_if_eq (tgt := 25) hx hb dX6_stands_20 (by decide) (fun c_20 => ?_) (fun c_20 => ?_)
    · rw [if_pos c_20] at hR
      refine lv_aload_n hx hb dX6_stands_25 rfl (lv_at hl 1 rfl) ?_
      refine va_get (D := D) (ci := 5) (v := .ref (q 3)) (C := RX6) (T := TX6) (N := 30) hx hb hts tbX6 hown hK hP 0 MW_0 rfl 7 (by decide) (hts _ tm_3_8) (fun _ h9 => h9) rfl dX6_stands_26 ?_
      refine lv_iload_n hx hb dX6_stands_29 rfl (lv_at hl 3 rfl) ?_
      refine va_iald hx hb hK hP 3 0 MW_3 rfl (vp_in_nI (show pp < 7 by omega) (by omega)) dX6_stands_30 ?_
      refine lv_rw (z := (kind pp)) (congrArg kind (nI_clamp (show pp < 2 ^ 31 by omega))) ?_
      refine lv_aload_n hx hb dX6_stands_31 rfl (lv_at hl 1 rfl) ?_
      refine lv_iload_n hx hb dX6_stands_32 rfl (lv_at hl 4 rfl) ?_
      refine lv_iload hx hb dX6_stands_33 (lv_at hl 0 rfl) ?_
      refine lv_iconst (v := (-1 : Int32)) hx hb dX6_stands_35 (by decide) ?_
      refine lv_iconst (v := (0 : Int32)) hx hb dX6_stands_36 (by decide) ?_
      refine vRdI (b := (q 0)) (As := [.int a3, .int (nI (cl pp)), .int (-1 : Int32), .int (0 : Int32)]) (rest := [.int (kind pp)]) hF (c_X6_isBy l D cI cZ q thrown textSize place stock n readStock readCells readParts acts tried soonMany soonWhich kindMany kindFirst restMany restFirst text lies kind readPart page trial book kept isKept triedAbout triedIs gains value seed a3 (nI (cl pp)) (-1 : Int32) (0 : Int32) hn7) (gdV tm_3_157 tm_3_159 tp_18 tm_1_6 tm_3_160) de_X6_isBy ⟨Nat.le_of_ble_eq_true rfl, Nat.le_of_ble_eq_true rfl⟩ hP hK (va_recv hK hP (ci := 5) (q0 := 0) rfl MW_0) hl.1 rfl (Nat.le_of_ble_eq_true rfl) dX6_stands_37 ⟨Nat.zero_le _, Nat.zero_le _⟩ ?_
      refine lv_aload_n hx hb dX6_stands_40 rfl (lv_at hl 1 rfl) ?_
      refine lv_iload_n hx hb dX6_stands_41 rfl (lv_at hl 4 rfl) ?_
      refine lv_iload hx hb dX6_stands_42 (lv_at hl 0 rfl) ?_
      refine lv_iconst (v := (0 : Int32)) hx hb dX6_stands_44 (by decide) ?_
      refine lv_iconst (v := (-1 : Int32)) hx hb dX6_stands_45 (by decide) ?_
      refine vRdI (b := (q 0)) (As := [.int a3, .int (nI (cl pp)), .int (0 : Int32), .int (-1 : Int32)]) (rest := [.int (f_X6_isBy n lies a3 (nI (cl pp)) (-1 : Int32) (0 : Int32)), .int (kind pp)]) hF (c_X6_isBy l D cI cZ q thrown textSize place stock n readStock readCells readParts acts tried soonMany soonWhich kindMany kindFirst restMany restFirst text lies kind readPart page trial book kept isKept triedAbout triedIs gains value seed a3 (nI (cl pp)) (0 : Int32) (-1 : Int32) hn7) (gdV tm_3_157 tm_3_159 tp_18 tm_1_6 tm_3_160) de_X6_isBy ⟨Nat.le_of_ble_eq_true rfl, Nat.le_of_ble_eq_true rfl⟩ hP hK (va_recv hK hP (ci := 5) (q0 := 0) rfl MW_0) hl.1 rfl (Nat.le_of_ble_eq_true rfl) dX6_stands_46 ⟨Nat.zero_le _, Nat.zero_le _⟩ ?_
      refine lv_aload_n hx hb dX6_stands_49 rfl (lv_at hl 1 rfl) ?_
      refine lv_iload_n hx hb dX6_stands_50 rfl (lv_at hl 4 rfl) ?_
      refine lv_iload hx hb dX6_stands_51 (lv_at hl 0 rfl) ?_
      refine lv_iconst (v := (0 : Int32)) hx hb dX6_stands_53 (by decide) ?_
      refine lv_iconst (v := (1 : Int32)) hx hb dX6_stands_54 (by decide) ?_
      refine vRdI (b := (q 0)) (As := [.int a3, .int (nI (cl pp)), .int (0 : Int32), .int (1 : Int32)]) (rest := [.int (f_X6_isBy n lies a3 (nI (cl pp)) (0 : Int32) (-1 : Int32)), .int (f_X6_isBy n lies a3 (nI (cl pp)) (-1 : Int32) (0 : Int32)), .int (kind pp)]) hF (c_X6_isBy l D cI cZ q thrown textSize place stock n readStock readCells readParts acts tried soonMany soonWhich kindMany kindFirst restMany restFirst text lies kind readPart page trial book kept isKept triedAbout triedIs gains value seed a3 (nI (cl pp)) (0 : Int32) (1 : Int32) hn7) (gdV tm_3_157 tm_3_159 tp_18 tm_1_6 tm_3_160) de_X6_isBy ⟨Nat.le_of_ble_eq_true rfl, Nat.le_of_ble_eq_true rfl⟩ hP hK (va_recv hK hP (ci := 5) (q0 := 0) rfl MW_0) hl.1 rfl (Nat.le_of_ble_eq_true rfl) dX6_stands_55 ⟨Nat.zero_le _, Nat.zero_le _⟩ ?_
      refine lv_aload_n hx hb dX6_stands_58 rfl (lv_at hl 1 rfl) ?_
      refine lv_iload_n hx hb dX6_stands_59 rfl (lv_at hl 4 rfl) ?_
      refine lv_iload hx hb dX6_stands_60 (lv_at hl 0 rfl) ?_
      refine lv_iconst (v := (-1 : Int32)) hx hb dX6_stands_62 (by decide) ?_
      refine lv_iconst (v := (-1 : Int32)) hx hb dX6_stands_63 (by decide) ?_
      refine vRdI (b := (q 0)) (As := [.int a3, .int (nI (cl pp)), .int (-1 : Int32), .int (-1 : Int32)]) (rest := [.int (f_X6_isBy n lies a3 (nI (cl pp)) (0 : Int32) (1 : Int32)), .int (f_X6_isBy n lies a3 (nI (cl pp)) (0 : Int32) (-1 : Int32)), .int (f_X6_isBy n lies a3 (nI (cl pp)) (-1 : Int32) (0 : Int32)), .int (kind pp)]) hF (c_X6_isBy l D cI cZ q thrown textSize place stock n readStock readCells readParts acts tried soonMany soonWhich kindMany kindFirst restMany restFirst text lies kind readPart page trial book kept isKept triedAbout triedIs gains value seed a3 (nI (cl pp)) (-1 : Int32) (-1 : Int32) hn7) (gdV tm_3_157 tm_3_159 tp_18 tm_1_6 tm_3_160) de_X6_isBy ⟨Nat.le_of_ble_eq_true rfl, Nat.le_of_ble_eq_true rfl⟩ hP hK (va_recv hK hP (ci := 5) (q0 := 0) rfl MW_0) hl.1 rfl (Nat.le_of_ble_eq_true rfl) dX6_stands_64 ⟨Nat.zero_le _, Nat.zero_le _⟩ ?_
      refine lv_aload_n hx hb dX6_stands_67 rfl (lv_at hl 1 rfl) ?_
      refine lv_iload_n hx hb dX6_stands_68 rfl (lv_at hl 4 rfl) ?_
      refine lv_iload hx hb dX6_stands_69 (lv_at hl 0 rfl) ?_
      refine lv_iconst (v := (-1 : Int32)) hx hb dX6_stands_71 (by decide) ?_
      refine lv_iconst (v := (1 : Int32)) hx hb dX6_stands_72 (by decide) ?_
      refine vRdI (b := (q 0)) (As := [.int a3, .int (nI (cl pp)), .int (-1 : Int32), .int (1 : Int32)]) (rest := [.int (f_X6_isBy n lies a3 (nI (cl pp)) (-1 : Int32) (-1 : Int32)), .int (f_X6_isBy n lies a3 (nI (cl pp)) (0 : Int32) (1 : Int32)), .int (f_X6_isBy n lies a3 (nI (cl pp)) (0 : Int32) (-1 : Int32)), .int (f_X6_isBy n lies a3 (nI (cl pp)) (-1 : Int32) (0 : Int32)), .int (kind pp)]) hF (c_X6_isBy l D cI cZ q thrown textSize place stock n readStock readCells readParts acts tried soonMany soonWhich kindMany kindFirst restMany restFirst text lies kind readPart page trial book kept isKept triedAbout triedIs gains value seed a3 (nI (cl pp)) (-1 : Int32) (1 : Int32) hn7) (gdV tm_3_157 tm_3_159 tp_18 tm_1_6 tm_3_160) de_X6_isBy ⟨Nat.le_of_ble_eq_true rfl, Nat.le_of_ble_eq_true rfl⟩ hP hK (va_recv hK hP (ci := 5) (q0 := 0) rfl MW_0) hl.1 rfl (Nat.le_of_ble_eq_true rfl) dX6_stands_73 ⟨Nat.zero_le _, Nat.zero_le _⟩ ?_
      refine sRdI (As := [.int (kind pp), .int (f_X6_isBy n lies a3 (nI (cl pp)) (-1 : Int32) (0 : Int32)), .int (f_X6_isBy n lies a3 (nI (cl pp)) (0 : Int32) (-1 : Int32)), .int (f_X6_isBy n lies a3 (nI (cl pp)) (0 : Int32) (1 : Int32)), .int (f_X6_isBy n lies a3 (nI (cl pp)) (-1 : Int32) (-1 : Int32)), .int (f_X6_isBy n lies a3 (nI (cl pp)) (-1 : Int32) (1 : Int32))]) (rest := []) hF (c_X6_standsBy l D cI cZ q (kind pp) (f_X6_isBy n lies a3 (nI (cl pp)) (-1 : Int32) (0 : Int32)) (f_X6_isBy n lies a3 (nI (cl pp)) (0 : Int32) (-1 : Int32)) (f_X6_isBy n lies a3 (nI (cl pp)) (0 : Int32) (1 : Int32)) (f_X6_isBy n lies a3 (nI (cl pp)) (-1 : Int32) (-1 : Int32)) (f_X6_isBy n lies a3 (nI (cl pp)) (-1 : Int32) (1 : Int32)) (isBy01 _ _ _ _ _ _)) (gdS tm_3_168 tm_3_169 tm_1_6 tm_3_170) de_X6_standsBy ⟨Nat.le_of_ble_eq_true rfl, Nat.le_of_ble_eq_true rfl⟩ va_P_nil hK hl.1 rfl (Nat.le_of_ble_eq_true rfl) dX6_stands_76 ⟨Nat.zero_le _, Nat.zero_le _⟩ ?_
      subst hR
      exact fin _ _ dX6_stands_79 (nar_b (stby01 (isBy01 _ _ _ _ _ _)))
    · rw [if_neg c_20] at hR
      refine lv_iconst (v := (1 : Int32)) hx hb dX6_stands_23 (by decide) ?_
      subst hR
      exact fin _ _ dX6_stands_24 (nar_b (Or.inr rfl))
def f_X6_standing_l13 (cl : Nat → Nat) (n : Nat) (f : Nat → Int32) (lies : Nat → Int32) (kind : Nat → Int32) : Nat → Nat → (Int32) → Int32
  | 0, i_13, so13 => so13
  | d_13 + 1, i_13, so13 => (if (f_X6_has (f 5) (nI i_13)) = (0 : Int32) then (f_X6_standing_l13 cl n f lies kind d_13 (i_13 + 1) (so13 ||| (0 : Int32))) else (if (f_X6_stands cl n i_13 f lies kind so13) = (0 : Int32) then (f_X6_standing_l13 cl n f lies kind d_13 (i_13 + 1) (so13 ||| (0 : Int32))) else (f_X6_standing_l13 cl n f lies kind d_13 (i_13 + 1) (so13 ||| (shl (1 : Int32) (nI i_13))))))
theorem f_X6_standing_l13_z {cl : Nat → Nat} {n : Nat} {f : Nat → Int32} {lies : Nat → Int32} {kind : Nat → Int32} {i_13 : Nat} {so13 : Int32} : f_X6_standing_l13 cl n f lies kind 0 i_13 so13 = so13 := by rw [f_X6_standing_l13]
theorem f_X6_standing_l13_s {cl : Nat → Nat} {n : Nat} {f : Nat → Int32} {lies : Nat → Int32} {kind : Nat → Int32} {d_13 : Nat} {i_13 : Nat} {so13 : Int32} : f_X6_standing_l13 cl n f lies kind (d_13 + 1) i_13 so13 = (if (f_X6_has (f 5) (nI i_13)) = (0 : Int32) then (f_X6_standing_l13 cl n f lies kind d_13 (i_13 + 1) (so13 ||| (0 : Int32))) else (if (f_X6_stands cl n i_13 f lies kind so13) = (0 : Int32) then (f_X6_standing_l13 cl n f lies kind d_13 (i_13 + 1) (so13 ||| (0 : Int32))) else (f_X6_standing_l13 cl n f lies kind d_13 (i_13 + 1) (so13 ||| (shl (1 : Int32) (nI i_13)))))) := by rw [f_X6_standing_l13]
def f_X6_standing_l4 (cl : Nat → Nat) (n : Nat) (f : Nat → Int32) (lies : Nat → Int32) (kind : Nat → Int32) : Nat → Nat → (Int32) → Int32
  | 0, i_4, so4 => so4
  | d_4 + 1, i_4, so4 => (f_X6_standing_l4 cl n f lies kind d_4 (i_4 + 1) (f_X6_standing_l13 cl n f lies kind n 0 so4))
theorem f_X6_standing_l4_z {cl : Nat → Nat} {n : Nat} {f : Nat → Int32} {lies : Nat → Int32} {kind : Nat → Int32} {i_4 : Nat} {so4 : Int32} : f_X6_standing_l4 cl n f lies kind 0 i_4 so4 = so4 := by rw [f_X6_standing_l4]
theorem f_X6_standing_l4_s {cl : Nat → Nat} {n : Nat} {f : Nat → Int32} {lies : Nat → Int32} {kind : Nat → Int32} {d_4 : Nat} {i_4 : Nat} {so4 : Int32} : f_X6_standing_l4 cl n f lies kind (d_4 + 1) i_4 so4 = (f_X6_standing_l4 cl n f lies kind d_4 (i_4 + 1) (f_X6_standing_l13 cl n f lies kind n 0 so4)) := by rw [f_X6_standing_l4]
def f_X6_standing (cl : Nat → Nat) (n : Nat) (f : Nat → Int32) (lies : Nat → Int32) (kind : Nat → Int32) : Int32 := (f_X6_standing_l4 cl n f lies kind 7 0 (0 : Int32))
set_option maxHeartbeats 4000000 in
set_option maxRecDepth 100000 in
theorem c_X6_standing (l : Launch) (D : va_G) (cI cZ : ClassId) (q : Nat → Nat) (thrown : Int32) (textSize : Int32) (place : Int32) (stock : Int32) (n : Nat) (readStock : Int32) (readCells : Int32) (readParts : Int32) (acts : Int32) (tried : Int32) (soonMany : Int32) (soonWhich : Int32) (kindMany : Int32) (kindFirst : Int32) (restMany : Int32) (restFirst : Int32) (text lies kind readPart page trial book kept isKept triedAbout triedIs gains value : Nat → Int32) (seed : Int64) (pk pr : Nat) (f : Nat → Int32) (hpk : (MW cI cZ q thrown textSize place stock (nI n) readStock readCells readParts acts tried soonMany soonWhich kindMany kindFirst restMany restFirst text lies kind readPart page trial book kept isKept triedAbout triedIs gains value seed)[pk]? = some (pr, .inl (cI, 7, .inl f))) (hn7 : n ≤ 7) (cl : Nat → Nat) (hcl : ∀ j, j < 7 → lies j = nI (cl j) ∧ cl j < 16) : RdI l yX6_standing cX6_standing 5 .int 4 96 D (tyL cI cZ) (MW cI cZ q thrown textSize place stock (nI n) readStock readCells readParts acts tried soonMany soonWhich kindMany kindFirst restMany restFirst text lies kind readPart page trial book kept isKept triedAbout triedIs gains value seed) [.ref (q 0), .ref pr] (f_X6_standing cl n f lies kind) := by
  refine RdI.of (by decide) (Nat.le_of_ble_eq_true rfl) ?_
  intro p e s m args below meth c Q hx hb hml hown hts hP hK fin ls hl
  have hown : s.vm.findClass RX6 = some m.cls := hown
  have hF : CallFix p m c cX6_standing 5 s args tb RX6 := ⟨hx, hb, hml, hown, hts⟩
  have hl : lv_has ls 5 [(0, .ref (q 0)), (1, .ref pr)] := hl
  generalize hR : (f_X6_standing cl n f lies kind) = R at fin
  unfold f_X6_standing at hR
  refine lv_iconst (v := (0 : Int32)) hx hb dX6_standing_0 (by decide) ?_
  refine lv_istore_n (lv' := [(2, .int (0 : Int32)), (0, .ref (q 0)), (1, .ref pr)]) hx hb dX6_standing_1 rfl hl (by decide) rfl (fun ls hl => ?_)
  refine lv_iconst (v := (0 : Int32)) hx hb dX6_standing_2 (by decide) ?_
  refine lv_istore_n (lv' := [(3, .int (0 : Int32)), (2, .int (0 : Int32)), (0, .ref (q 0)), (1, .ref pr)]) hx hb dX6_standing_3 rfl hl (by decide) rfl (fun ls hl => ?_)
  obtain ⟨T_4, hT_4⟩ : ∃ z, f_X6_standing_l4 cl n f lies kind 7 0 (0 : Int32) = z := ⟨_, rfl⟩
  rw [hT_4] at hR
  have key_4 : ∀ (d_4 i_4 : Nat) (so4 : Int32) (ls : Array Slot), i_4 + d_4 = 7 → f_X6_standing_l4 cl n f lies kind d_4 i_4 so4 = T_4 → lv_has ls 5 [(3, .int (nI i_4)), (2, .int so4), (0, .ref (q 0)), (1, .ref pr)] → W p l e (rmO 4 96) s m args below meth c s.heap [] 0 0 Q (F0 m 4 ls []) := by
    intro d_4
    induction d_4 with
    | zero =>
      intro i_4 so4 ls hi_4 hT_4 hl
      rw [f_X6_standing_l4_z] at hT_4
      refine lv_iload_n hx hb dX6_standing_4 rfl (lv_at hl 0 rfl) ?_
      refine lv_bipush (v := (7 : Int32)) hx hb dX6_standing_5 (by decide) ?_
      refine lv_icmp_ge (tgt := 67) hx hb dX6_standing_7 (by decide) (fun c_7 => ?_) (fun c_7 => absurd (nI_le (a := 7) (by omega) (by omega)) c_7)
      subst hT_4
      try dsimp only at hR
      refine lv_iload_n hx hb dX6_standing_67 rfl (lv_at hl 1 rfl) ?_
      subst hR
      exact fin _ _ dX6_standing_68 (nar_i _)
    | succ d_4 ih_4 =>
      intro i_4 so4 ls hi_4 hT_4 hl
      rw [f_X6_standing_l4_s] at hT_4
      refine lv_iload_n hx hb dX6_standing_4 rfl (lv_at hl 0 rfl) ?_
      refine lv_bipush (v := (7 : Int32)) hx hb dX6_standing_5 (by decide) ?_
      refine lv_icmp_ge (tgt := 67) hx hb dX6_standing_7 (by decide) (fun c_7 => absurd c_7 (nI_ge (b := 7) (by omega) (by omega))) (fun c_7 => ?_)
      refine lv_iconst (v := (0 : Int32)) hx hb dX6_standing_10 (by decide) ?_
      refine lv_istore (lv' := [(4, .int (0 : Int32)), (3, .int (nI i_4)), (2, .int so4), (0, .ref (q 0)), (1, .ref pr)]) hx hb dX6_standing_11 hl (by decide) rfl (fun ls hl => ?_)
      obtain ⟨T_13, hT_13⟩ : ∃ z, f_X6_standing_l13 cl n f lies kind n 0 so4 = z := ⟨_, rfl⟩
      rw [hT_13] at hT_4
      have key_13 : ∀ (d_13 i_13 : Nat) (so13 : Int32) (ls : Array Slot), i_13 + d_13 = n → f_X6_standing_l13 cl n f lies kind d_13 i_13 so13 = T_13 → lv_has ls 5 [(4, .int (nI i_13)), (3, .int (nI i_4)), (2, .int so13), (0, .ref (q 0)), (1, .ref pr)] → W p l e (rmO 4 96) s m args below meth c s.heap [] 0 0 Q (F0 m 13 ls []) := by
        intro d_13
        induction d_13 with
        | zero =>
          intro i_13 so13 ls hi_13 hT_13 hl
          rw [f_X6_standing_l13_z] at hT_13
          refine lv_iload hx hb dX6_standing_13 (lv_at hl 0 rfl) ?_
          refine lv_aload_n hx hb dX6_standing_15 rfl (lv_at hl 3 rfl) ?_
          refine va_get (D := D) (ci := 5) (v := .int (nI n)) (C := RX6) (T := TX6) (N := 30) hx hb hts tbX6 hown hK hP 0 MW_0 rfl 5 (by decide) (hts _ tm_3_6) (fun _ h9 => h9) rfl dX6_standing_16 ?_
          refine lv_icmp_ge (tgt := 61) hx hb dX6_standing_19 (by decide) (fun c_19 => ?_) (fun c_19 => absurd (nI_le  (by omega) (by omega)) c_19)
          subst hT_13
          try dsimp only at hT_4
          refine lv_iinc (v := (nI (i_4 + 1))) (lv' := [(3, .int (nI (i_4 + 1))), (4, .int (nI i_13)), (2, .int so13), (0, .ref (q 0)), (1, .ref pr)]) hx hb dX6_standing_61 hl (k := 1) rfl (nI_up i_4) (by decide) rfl (fun ls hl => ?_)
          refine lv_goto (tgt := 4) hx hb dX6_standing_64 (by decide) ?_
          exact ih_4 (i_4 + 1) so13 ls (by omega) hT_4 (lv_sub hl [0, 2, 3, 4] rfl)
        | succ d_13 ih_13 =>
          intro i_13 so13 ls hi_13 hT_13 hl
          rw [f_X6_standing_l13_s] at hT_13
          refine lv_iload hx hb dX6_standing_13 (lv_at hl 0 rfl) ?_
          refine lv_aload_n hx hb dX6_standing_15 rfl (lv_at hl 3 rfl) ?_
          refine va_get (D := D) (ci := 5) (v := .int (nI n)) (C := RX6) (T := TX6) (N := 30) hx hb hts tbX6 hown hK hP 0 MW_0 rfl 5 (by decide) (hts _ tm_3_6) (fun _ h9 => h9) rfl dX6_standing_16 ?_
          refine lv_icmp_ge (tgt := 61) hx hb dX6_standing_19 (by decide) (fun c_19 => absurd c_19 (nI_ge  (by omega) (by omega))) (fun c_19 => ?_)
          refine lv_iload_n hx hb dX6_standing_22 rfl (lv_at hl 2 rfl) ?_
          refine lv_aload_n hx hb dX6_standing_23 rfl (lv_at hl 4 rfl) ?_
          refine lv_iconst (v := (5 : Int32)) hx hb dX6_standing_24 (by decide) ?_
          refine va_iald hx hb hK hP pk 0 hpk rfl (vp_in_nI (n := 5) (by decide) (by decide)) dX6_standing_25 ?_
          refine lv_rw (z := (f 5)) (congrArg f cl_5) ?_
          refine lv_iload hx hb dX6_standing_26 (lv_at hl 0 rfl) ?_
          refine sRdI (As := [.int (f 5), .int (nI i_13)]) (rest := [.int so13]) hF (c_X6_has l D cI cZ q (f 5) (nI i_13)) (gdS tm_3_118 tm_3_119 tm_1_6 tm_3_120) de_X6_has ⟨Nat.le_of_ble_eq_true rfl, Nat.le_of_ble_eq_true rfl⟩ va_P_nil hK hl.1 rfl (Nat.le_of_ble_eq_true rfl) dX6_standing_28 ⟨Nat.zero_le _, Nat.zero_le _⟩ ?_
          refine lv_if_eq (tgt := 52) hx hb dX6_standing_31 (by decide) (fun c_31 => ?_) (fun c_31 => ?_)
          · rw [if_pos c_31] at hT_13
            refine lv_iconst (v := (0 : Int32)) hx hb dX6_standing_52 (by decide) ?_
            refine lv_ior hx hb dX6_standing_53 ?_
            refine lv_istore_n (lv' := [(2, .int (so13 ||| (0 : Int32))), (4, .int (nI i_13)), (3, .int (nI i_4)), (0, .ref (q 0)), (1, .ref pr)]) hx hb dX6_standing_54 rfl hl (by decide) rfl (fun ls hl => ?_)
            refine lv_iinc (v := (nI (i_13 + 1))) (lv' := [(4, .int (nI (i_13 + 1))), (2, .int (so13 ||| (0 : Int32))), (3, .int (nI i_4)), (0, .ref (q 0)), (1, .ref pr)]) hx hb dX6_standing_55 hl (k := 1) rfl (nI_up i_13) (by decide) rfl (fun ls hl => ?_)
            refine lv_goto (tgt := 13) hx hb dX6_standing_58 (by decide) ?_
            exact ih_13 (i_13 + 1) (so13 ||| (0 : Int32)) ls (by omega) hT_13 (lv_sub hl [0, 2, 1, 3, 4] rfl)
          · rw [if_neg c_31] at hT_13
            refine lv_aload_n hx hb dX6_standing_34 rfl (lv_at hl 3 rfl) ?_
            refine lv_aload_n hx hb dX6_standing_35 rfl (lv_at hl 4 rfl) ?_
            refine lv_iload hx hb dX6_standing_36 (lv_at hl 0 rfl) ?_
            refine lv_iload_n hx hb dX6_standing_38 rfl (lv_at hl 2 rfl) ?_
            refine vRdI (b := (q 0)) (As := [.ref pr, .int (nI i_13), .int so13]) (rest := [.int so13]) hF (c_X6_stands l D cI cZ q thrown textSize place stock n readStock readCells readParts acts tried soonMany soonWhich kindMany kindFirst restMany restFirst text lies kind readPart page trial book kept isKept triedAbout triedIs gains value seed pk pr f hpk i_13 so13 hn7 (by omega) cl hcl) (gdV tm_3_149 tm_3_151 tp_16 tm_1_6 tm_3_152) de_X6_stands ⟨Nat.le_of_ble_eq_true rfl, Nat.le_of_ble_eq_true rfl⟩ hP hK (va_recv hK hP (ci := 5) (q0 := 0) rfl MW_0) hl.1 rfl (Nat.le_of_ble_eq_true rfl) dX6_standing_39 ⟨Nat.zero_le _, Nat.zero_le _⟩ ?_
            refine lv_if_eq (tgt := 52) hx hb dX6_standing_42 (by decide) (fun c_42 => ?_) (fun c_42 => ?_)
            · rw [if_pos c_42] at hT_13
              refine lv_iconst (v := (0 : Int32)) hx hb dX6_standing_52 (by decide) ?_
              refine lv_ior hx hb dX6_standing_53 ?_
              refine lv_istore_n (lv' := [(2, .int (so13 ||| (0 : Int32))), (4, .int (nI i_13)), (3, .int (nI i_4)), (0, .ref (q 0)), (1, .ref pr)]) hx hb dX6_standing_54 rfl hl (by decide) rfl (fun ls hl => ?_)
              refine lv_iinc (v := (nI (i_13 + 1))) (lv' := [(4, .int (nI (i_13 + 1))), (2, .int (so13 ||| (0 : Int32))), (3, .int (nI i_4)), (0, .ref (q 0)), (1, .ref pr)]) hx hb dX6_standing_55 hl (k := 1) rfl (nI_up i_13) (by decide) rfl (fun ls hl => ?_)
              refine lv_goto (tgt := 13) hx hb dX6_standing_58 (by decide) ?_
              exact ih_13 (i_13 + 1) (so13 ||| (0 : Int32)) ls (by omega) hT_13 (lv_sub hl [0, 2, 1, 3, 4] rfl)
            · rw [if_neg c_42] at hT_13
              refine lv_iconst (v := (1 : Int32)) hx hb dX6_standing_45 (by decide) ?_
              refine lv_iload hx hb dX6_standing_46 (lv_at hl 0 rfl) ?_
              refine lv_ishl hx hb dX6_standing_48 ?_
              refine lv_rw (z := (shl (1 : Int32) (nI i_13))) rfl ?_
              refine lv_goto (tgt := 53) hx hb dX6_standing_49 (by decide) ?_
              refine lv_ior hx hb dX6_standing_53 ?_
              refine lv_istore_n (lv' := [(2, .int (so13 ||| (shl (1 : Int32) (nI i_13)))), (4, .int (nI i_13)), (3, .int (nI i_4)), (0, .ref (q 0)), (1, .ref pr)]) hx hb dX6_standing_54 rfl hl (by decide) rfl (fun ls hl => ?_)
              refine lv_iinc (v := (nI (i_13 + 1))) (lv' := [(4, .int (nI (i_13 + 1))), (2, .int (so13 ||| (shl (1 : Int32) (nI i_13)))), (3, .int (nI i_4)), (0, .ref (q 0)), (1, .ref pr)]) hx hb dX6_standing_55 hl (k := 1) rfl (nI_up i_13) (by decide) rfl (fun ls hl => ?_)
              refine lv_goto (tgt := 13) hx hb dX6_standing_58 (by decide) ?_
              exact ih_13 (i_13 + 1) (so13 ||| (shl (1 : Int32) (nI i_13))) ls (by omega) hT_13 (lv_sub hl [0, 2, 1, 3, 4] rfl)
      exact key_13 n 0 so4 ls (by omega) hT_13 (lv_sub hl [0, 1, 2, 3, 4] rfl)
  exact key_4 7 0 (0 : Int32) ls (by omega) hT_4 (lv_sub hl [0, 1, 2, 3] rfl)
def f_X6_poles (f : Nat → Int32) : Int32 := ((((f 0) + (f 1)) + (f 2)) + (f 3))
set_option maxHeartbeats 4000000 in
set_option maxRecDepth 100000 in
theorem c_X6_poles (l : Launch) (D : va_G) (cI cZ : ClassId) (q : Nat → Nat) (thrown textSize place stock parts readStock readCells readParts acts tried soonMany soonWhich kindMany kindFirst restMany restFirst : Int32) (text lies kind readPart page trial book kept isKept triedAbout triedIs gains value : Nat → Int32) (seed : Int64) (pk pr : Nat) (f : Nat → Int32) (hpk : (MW cI cZ q thrown textSize place stock parts readStock readCells readParts acts tried soonMany soonWhich kindMany kindFirst restMany restFirst text lies kind readPart page trial book kept isKept triedAbout triedIs gains value seed)[pk]? = some (pr, .inl (cI, 7, .inl f))) : RdI l yX6_poles cX6_poles 1 .int 0 0 D (tyL cI cZ) (MW cI cZ q thrown textSize place stock parts readStock readCells readParts acts tried soonMany soonWhich kindMany kindFirst restMany restFirst text lies kind readPart page trial book kept isKept triedAbout triedIs gains value seed) [.ref pr] (f_X6_poles f) := by
  refine RdI.of (by decide) (Nat.le_of_ble_eq_true rfl) ?_
  intro p e s m args below meth c Q hx hb hml hown hts hP hK fin ls hl
  have hown : s.vm.findClass RX6 = some m.cls := hown
  have hF : CallFix p m c cX6_poles 1 s args tb RX6 := ⟨hx, hb, hml, hown, hts⟩
  have hl : lv_has ls 1 [(0, .ref pr)] := hl
  generalize hR : (f_X6_poles f) = R at fin
  unfold f_X6_poles at hR
  refine lv_aload_n hx hb dX6_poles_0 rfl (lv_at hl 0 rfl) ?_
  refine lv_iconst (v := (0 : Int32)) hx hb dX6_poles_1 (by decide) ?_
  refine va_iald hx hb hK hP pk 0 hpk rfl (vp_in_nI (n := 0) (by decide) (by decide)) dX6_poles_2 ?_
  refine lv_rw (z := (f 0)) (congrArg f cl_0) ?_
  refine lv_aload_n hx hb dX6_poles_3 rfl (lv_at hl 0 rfl) ?_
  refine lv_iconst (v := (1 : Int32)) hx hb dX6_poles_4 (by decide) ?_
  refine va_iald hx hb hK hP pk 0 hpk rfl (vp_in_nI (n := 1) (by decide) (by decide)) dX6_poles_5 ?_
  refine lv_rw (z := (f 1)) (congrArg f cl_1) ?_
  refine lv_iadd hx hb dX6_poles_6 ?_
  refine lv_aload_n hx hb dX6_poles_7 rfl (lv_at hl 0 rfl) ?_
  refine lv_iconst (v := (2 : Int32)) hx hb dX6_poles_8 (by decide) ?_
  refine va_iald hx hb hK hP pk 0 hpk rfl (vp_in_nI (n := 2) (by decide) (by decide)) dX6_poles_9 ?_
  refine lv_rw (z := (f 2)) (congrArg f cl_2) ?_
  refine lv_iadd hx hb dX6_poles_10 ?_
  refine lv_aload_n hx hb dX6_poles_11 rfl (lv_at hl 0 rfl) ?_
  refine lv_iconst (v := (3 : Int32)) hx hb dX6_poles_12 (by decide) ?_
  refine va_iald hx hb hK hP pk 0 hpk rfl (vp_in_nI (n := 3) (by decide) (by decide)) dX6_poles_13 ?_
  refine lv_rw (z := (f 3)) (congrArg f cl_3) ?_
  refine lv_iadd hx hb dX6_poles_14 ?_
  subst hR
  exact fin _ _ dX6_poles_15 (nar_i _)
