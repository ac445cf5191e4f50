theorem de_X6_chooses : deOK yX6_chooses 2 := by decide +kernel
theorem de_X6_gain : deOK yX6_gain 1 := by decide +kernel
theorem de_X6_rests : deOK yX6_rests 3 := by decide +kernel
def f_X6_chooses (cl : Nat → Nat) (n : Nat) (cc : Nat) (lies : Nat → Int32) (kind : Nat → Int32) (trial : Nat → Int32) (a2 : Int32) : Nat → Int32 := (if a2 = (1 : Int32) then (if a2 = (2 : Int32) then (f_X6_strikes cl n lies kind (f_X6_goPut cl n cc lies kind trial).2 (nI cc)).2 else (f_X6_goPut cl n cc lies kind trial).2) else (if a2 = (2 : Int32) then (f_X6_strikes cl n lies kind trial (nI cc)).2 else trial))
set_option maxHeartbeats 4000000 in
set_option maxRecDepth 100000 in
theorem c_X6_chooses (l : Launch) (D : va_G) (cI cZ : ClassId) (q : Nat → Nat) (thrown : Int32) (textSize : Int32) (place : Int32) (stock : Int32) (n : Nat) (readStock : Int32) (readCells : Int32) (readParts : Int32) (acts : Int32) (tried : Int32) (soonMany : Int32) (soonWhich : Int32) (kindMany : Int32) (kindFirst : Int32) (restMany : Int32) (restFirst : Int32) (text lies kind readPart page trial book kept isKept triedAbout triedIs gains value : Nat → Int32) (seed : Int64) (cc : Nat) (a2 : Int32) (hn7 : n ≤ 7) (hcc : cc < 4) (cl : Nat → Nat) (hcl : ∀ j, j < 7 → lies j = nI (cl j) ∧ cl j < 16) : WrV l yX6_chooses cX6_chooses 3 8 186 D (tyL cI cZ) (MW cI cZ q thrown textSize place stock (nI n) readStock readCells readParts acts tried soonMany soonWhich kindMany kindFirst restMany restFirst text lies kind readPart page trial book kept isKept triedAbout triedIs gains value seed) [.ref (q 0), .int (nI cc), .int a2] (MW cI cZ q thrown textSize place stock (nI n) readStock readCells readParts acts tried soonMany soonWhich kindMany kindFirst restMany restFirst text lies kind readPart page (f_X6_chooses cl n cc lies kind trial a2) book kept isKept triedAbout triedIs gains value seed) := by
  refine WrV.of (by decide) (Nat.le_of_ble_eq_true rfl) ?_
  intro p e s m args below meth c Q A hx hb hml hown hts hP hK hD hS fin ls hl
  have hown : s.vm.findClass RX6 = some m.cls := hown
  have hF : CallFix p m c cX6_chooses 3 s args tb RX6 := ⟨hx, hb, hml, hown, hts⟩
  have hl : lv_has ls 3 [(0, .ref (q 0)), (1, .int (nI cc)), (2, .int a2)] := hl
  generalize hR : (f_X6_chooses cl n cc lies kind trial a2) = R at fin
  unfold f_X6_chooses at hR
  refine lv_iload_n hx hb dX6_chooses_0 rfl (lv_at hl 2 rfl) ?_
  refine lv_iconst (v := (1 : Int32)) hx hb dX6_chooses_1 (by decide) ?_
  refine lv_icmp_ne (tgt := 15) hx hb dX6_chooses_2 (by decide) (fun c_2 => ?_) (fun c_2 => ?_)
  · rw [if_neg c_2] at hR
    refine lv_iload_n hx hb dX6_chooses_15 rfl (lv_at hl 2 rfl) ?_
    refine lv_iconst (v := (2 : Int32)) hx hb dX6_chooses_16 (by decide) ?_
    refine lv_icmp_ne (tgt := 26) hx hb dX6_chooses_17 (by decide) (fun c_17 => ?_) (fun c_17 => ?_)
    · rw [if_neg c_17] at hR
      subst hR
      exact fin _ _ _ _ dX6_chooses_26 hP hS
    · rw [if_pos c_17] at hR
      refine lv_aload_n hx hb dX6_chooses_20 rfl (lv_at hl 0 rfl) ?_
      refine lv_iload_n hx hb dX6_chooses_21 rfl (lv_at hl 1 rfl) ?_
      refine vWrI (b := (q 0)) (As := [.int (nI cc)]) (rest := []) hF (c_X6_strikes l D cI cZ q thrown textSize place stock n readStock readCells readParts acts tried soonMany soonWhich kindMany kindFirst restMany restFirst text lies kind readPart page trial book kept isKept triedAbout triedIs gains value seed (nI cc) hn7 cl hcl) (gdV tm_4_18 tm_4_20 tp_28 tm_1_6 tm_4_21) de_X6_strikes ⟨Nat.le_of_ble_eq_true rfl, Nat.le_of_ble_eq_true rfl⟩ hP hK (va_recv hK hP (ci := 5) (q0 := 0) rfl MW_0) hl.1 rfl (Nat.le_of_ble_eq_true rfl) dX6_chooses_22 ⟨Nat.zero_le _, Nat.zero_le _⟩ hD hS (fun H locs hP hS => ?_)
      have hP : va_P D vwCl (MW cI cZ q thrown textSize place stock (nI n) readStock readCells readParts acts tried soonMany soonWhich kindMany kindFirst restMany restFirst text lies kind readPart page (f_X6_strikes cl n lies kind trial (nI cc)).2 book kept isKept triedAbout triedIs gains value seed) H := hP
      have hD : va_D A (MW cI cZ q thrown textSize place stock (nI n) readStock readCells readParts acts tried soonMany soonWhich kindMany kindFirst restMany restFirst text lies kind readPart page (f_X6_strikes cl n lies kind trial (nI cc)).2 book kept isKept triedAbout triedIs gains value seed) := hD.same (MW_ad.trans MW_ad.symm)
      refine lv_pop hx hb dX6_chooses_25 rfl ?_
      subst hR
      exact fin _ _ _ _ dX6_chooses_26 hP hS
  · rw [if_pos c_2] at hR
    refine lv_aload_n hx hb dX6_chooses_5 rfl (lv_at hl 0 rfl) ?_
    refine lv_aload_n hx hb dX6_chooses_6 rfl (lv_at hl 0 rfl) ?_
    refine va_get (D := D) (ci := 5) (v := .ref (q 6)) (C := RX6) (T := TX6) (N := 30) hx hb hts tbX6 hown hK hP 0 MW_0 rfl 13 (by decide) (hts _ tm_3_14) (fun _ h9 => h9) rfl dX6_chooses_7 ?_
    refine lv_iload_n hx hb dX6_chooses_10 rfl (lv_at hl 1 rfl) ?_
    refine vWrI (b := (q 0)) (As := [.ref (q 6), .int (nI cc)]) (rest := []) hF (c_X6_goPut_trial l D cI cZ q thrown textSize place stock n readStock readCells readParts acts tried soonMany soonWhich kindMany kindFirst restMany restFirst text lies kind readPart page trial book kept isKept triedAbout triedIs gains value seed cc hn7 hcc cl hcl) (gdV tm_3_198 tm_3_200 tp_22 tm_1_6 tm_3_201) de_X6_goPut ⟨Nat.le_of_ble_eq_true rfl, Nat.le_of_ble_eq_true rfl⟩ hP hK (va_recv hK hP (ci := 5) (q0 := 0) rfl MW_0) hl.1 rfl (Nat.le_of_ble_eq_true rfl) dX6_chooses_11 ⟨Nat.zero_le _, Nat.zero_le _⟩ hD hS (fun H locs hP hS => ?_)
    have hP : va_P D vwCl (MW cI cZ q thrown textSize place stock (nI n) readStock readCells readParts acts tried soonMany soonWhich kindMany kindFirst restMany restFirst text lies kind readPart page (f_X6_goPut cl n cc lies kind trial).2 book kept isKept triedAbout triedIs gains value seed) H := hP
    have hD : va_D A (MW cI cZ q thrown textSize place stock (nI n) readStock readCells readParts acts tried soonMany soonWhich kindMany kindFirst restMany restFirst text lies kind readPart page (f_X6_goPut cl n cc lies kind trial).2 book kept isKept triedAbout triedIs gains value seed) := hD.same (MW_ad.trans MW_ad.symm)
    refine lv_pop hx hb dX6_chooses_14 rfl ?_
    refine lv_iload_n hx hb dX6_chooses_15 rfl (lv_at hl 2 rfl) ?_
    refine lv_iconst (v := (2 : Int32)) hx hb dX6_chooses_16 (by decide) ?_
    refine lv_icmp_ne (tgt := 26) hx hb dX6_chooses_17 (by decide) (fun c_17 => ?_) (fun c_17 => ?_)
    · rw [if_neg c_17] at hR
      subst hR
      exact fin _ _ _ _ dX6_chooses_26 hP hS
    · rw [if_pos c_17] at hR
      refine lv_aload_n hx hb dX6_chooses_20 rfl (lv_at hl 0 rfl) ?_
      refine lv_iload_n hx hb dX6_chooses_21 rfl (lv_at hl 1 rfl) ?_
      refine vWrI (b := (q 0)) (As := [.int (nI cc)]) (rest := []) hF (c_X6_strikes l D cI cZ q thrown textSize place stock n readStock readCells readParts acts tried soonMany soonWhich kindMany kindFirst restMany restFirst text lies kind readPart page (f_X6_goPut cl n cc lies kind trial).2 book kept isKept triedAbout triedIs gains value seed (nI cc) hn7 cl hcl) (gdV tm_4_18 tm_4_20 tp_28 tm_1_6 tm_4_21) de_X6_strikes ⟨Nat.le_of_ble_eq_true rfl, Nat.le_of_ble_eq_true rfl⟩ hP hK (va_recv hK hP (ci := 5) (q0 := 0) rfl MW_0) hl.1 rfl (Nat.le_of_ble_eq_true rfl) dX6_chooses_22 ⟨Nat.zero_le _, Nat.zero_le _⟩ hD hS (fun H locs hP hS => ?_)
      have hP : va_P D vwCl (MW cI cZ q thrown textSize place stock (nI n) readStock readCells readParts acts tried soonMany soonWhich kindMany kindFirst restMany restFirst text lies kind readPart page (f_X6_strikes cl n lies kind (f_X6_goPut cl n cc lies kind trial).2 (nI cc)).2 book kept isKept triedAbout triedIs gains value seed) H := hP
      have hD : va_D A (MW cI cZ q thrown textSize place stock (nI n) readStock readCells readParts acts tried soonMany soonWhich kindMany kindFirst restMany restFirst text lies kind readPart page (f_X6_strikes cl n lies kind (f_X6_goPut cl n cc lies kind trial).2 (nI cc)).2 book kept isKept triedAbout triedIs gains value seed) := hD.same (MW_ad.trans MW_ad.symm)
      refine lv_pop hx hb dX6_chooses_25 rfl ?_
      subst hR
      exact fin _ _ _ _ dX6_chooses_26 hP hS
def f_X6_gain_l4 (cc : Nat) (lies : Nat → Int32) (trial : Nat → Int32) : Nat → Nat → (Int32) → Int32
  | 0, i_4, n4 => n4
  | d_4 + 1, i_4, n4 => (if (jr (lies i_4) (4 : Int32)) = (nI cc) then (if (f_X6_has (trial 5) (nI i_4)) = (0 : Int32) then (f_X6_gain_l4 cc lies trial d_4 (i_4 + 1) (n4 + (0 : Int32))) else (f_X6_gain_l4 cc lies trial d_4 (i_4 + 1) (n4 + (1 : Int32)))) else (f_X6_gain_l4 cc lies trial d_4 (i_4 + 1) (n4 + (0 : Int32))))
theorem f_X6_gain_l4_z {cc : Nat} {lies : Nat → Int32} {trial : Nat → Int32} {i_4 : Nat} {n4 : Int32} : f_X6_gain_l4 cc lies trial 0 i_4 n4 = n4 := by rw [f_X6_gain_l4]
theorem f_X6_gain_l4_s {cc : Nat} {lies : Nat → Int32} {trial : Nat → Int32} {d_4 : Nat} {i_4 : Nat} {n4 : Int32} : f_X6_gain_l4 cc lies trial (d_4 + 1) i_4 n4 = (if (jr (lies i_4) (4 : Int32)) = (nI cc) then (if (f_X6_has (trial 5) (nI i_4)) = (0 : Int32) then (f_X6_gain_l4 cc lies trial d_4 (i_4 + 1) (n4 + (0 : Int32))) else (f_X6_gain_l4 cc lies trial d_4 (i_4 + 1) (n4 + (1 : Int32)))) else (f_X6_gain_l4 cc lies trial d_4 (i_4 + 1) (n4 + (0 : Int32)))) := by rw [f_X6_gain_l4]
def f_X6_gain (n : Nat) (cc : Nat) (lies : Nat → Int32) (trial : Nat → Int32) : Int32 := (((2 : Int32) * (f_X6_gain_l4 cc lies trial n 0 (0 : Int32))) - (trial cc))
set_option maxHeartbeats 4000000 in
set_option maxRecDepth 100000 in
theorem c_X6_gain (l : Launch) (D : va_G) (cI cZ : ClassId) (q : Nat → Nat) (thrown : Int32) (textSize : Int32) (place : Int32) (stock : Int32) (n : Nat) (readStock : Int32) (readCells : Int32) (readParts : Int32) (acts : Int32) (tried : Int32) (soonMany : Int32) (soonWhich : Int32) (kindMany : Int32) (kindFirst : Int32) (restMany : Int32) (restFirst : Int32) (text lies kind readPart page trial book kept isKept triedAbout triedIs gains value : Nat → Int32) (seed : Int64) (cc : Nat) (hn7 : n ≤ 7) (hcc : cc < 4) : RdI l yX6_gain cX6_gain 4 .int 1 21 D (tyL cI cZ) (MW cI cZ q thrown textSize place stock (nI n) readStock readCells readParts acts tried soonMany soonWhich kindMany kindFirst restMany restFirst text lies kind readPart page trial book kept isKept triedAbout triedIs gains value seed) [.ref (q 0), .int (nI cc)] (f_X6_gain n cc lies trial) := by
  refine RdI.of (by decide) (Nat.le_of_ble_eq_true rfl) ?_
  intro p e s m args below meth c Q hx hb hml hown hts hP hK fin ls hl
  have hown : s.vm.findClass RX6 = some m.cls := hown
  have hF : CallFix p m c cX6_gain 4 s args tb RX6 := ⟨hx, hb, hml, hown, hts⟩
  have hl : lv_has ls 4 [(0, .ref (q 0)), (1, .int (nI cc))] := hl
  generalize hR : (f_X6_gain n cc lies trial) = R at fin
  unfold f_X6_gain at hR
  refine lv_iconst (v := (0 : Int32)) hx hb dX6_gain_0 (by decide) ?_
  refine lv_istore_n (lv' := [(2, .int (0 : Int32)), (0, .ref (q 0)), (1, .int (nI cc))]) hx hb dX6_gain_1 rfl hl (by decide) rfl (fun ls hl => ?_)
  refine lv_iconst (v := (0 : Int32)) hx hb dX6_gain_2 (by decide) ?_
  refine lv_istore_n (lv' := [(3, .int (0 : Int32)), (2, .int (0 : Int32)), (0, .ref (q 0)), (1, .int (nI cc))]) hx hb dX6_gain_3 rfl hl (by decide) rfl (fun ls hl => ?_)
  obtain ⟨T_4, hT_4⟩ : ∃ z, f_X6_gain_l4 cc lies trial n 0 (0 : Int32) = z := ⟨_, rfl⟩
  rw [hT_4] at hR
  have key_4 : ∀ (d_4 i_4 : Nat) (n4 : Int32) (ls : Array Slot), i_4 + d_4 = n → f_X6_gain_l4 cc lies trial d_4 i_4 n4 = T_4 → lv_has ls 4 [(3, .int (nI i_4)), (2, .int n4), (0, .ref (q 0)), (1, .int (nI cc))] → W p l e (rmO 1 21) s m args below meth c s.heap [] 0 0 Q (F0 m 4 ls []) := by
    intro d_4
    induction d_4 with
    | zero =>
      intro i_4 n4 ls hi_4 hT_4 hl
      rw [f_X6_gain_l4_z] at hT_4
      refine lv_iload_n hx hb dX6_gain_4 rfl (lv_at hl 0 rfl) ?_
      refine lv_aload_n hx hb dX6_gain_5 rfl (lv_at hl 2 rfl) ?_
      refine va_get (D := D) (ci := 5) (v := .int (nI n)) (C := RX6) (T := TX6) (N := 30) hx hb hts tbX6 hown hK hP 0 MW_0 rfl 5 (by decide) (hts _ tm_3_6) (fun _ h9 => h9) rfl dX6_gain_6 ?_
      refine lv_icmp_ge (tgt := 51) hx hb dX6_gain_9 (by decide) (fun c_9 => ?_) (fun c_9 => absurd (nI_le  (by omega) (by omega)) c_9)
      subst hT_4
      try dsimp only at hR
      refine lv_iconst (v := (2 : Int32)) hx hb dX6_gain_51 (by decide) ?_
      refine lv_iload_n hx hb dX6_gain_52 rfl (lv_at hl 1 rfl) ?_
      refine lv_imul hx hb dX6_gain_53 ?_
      refine lv_aload_n hx hb dX6_gain_54 rfl (lv_at hl 2 rfl) ?_
      refine va_get (D := D) (ci := 5) (v := .ref (q 6)) (C := RX6) (T := TX6) (N := 30) hx hb hts tbX6 hown hK hP 0 MW_0 rfl 13 (by decide) (hts _ tm_3_14) (fun _ h9 => h9) rfl dX6_gain_55 ?_
      refine lv_iload_n hx hb dX6_gain_58 rfl (lv_at hl 3 rfl) ?_
      refine va_iald hx hb hK hP 6 0 MW_6 rfl (vp_in_nI (show cc < 7 by omega) (by omega)) dX6_gain_59 ?_
      refine lv_rw (z := (trial cc)) (congrArg trial (nI_clamp (show cc < 2 ^ 31 by omega))) ?_
      refine lv_isub hx hb dX6_gain_60 ?_
      subst hR
      exact fin _ _ dX6_gain_61 (nar_i _)
    | succ d_4 ih_4 =>
      intro i_4 n4 ls hi_4 hT_4 hl
      rw [f_X6_gain_l4_s] at hT_4
      refine lv_iload_n hx hb dX6_gain_4 rfl (lv_at hl 0 rfl) ?_
      refine lv_aload_n hx hb dX6_gain_5 rfl (lv_at hl 2 rfl) ?_
      refine va_get (D := D) (ci := 5) (v := .int (nI n)) (C := RX6) (T := TX6) (N := 30) hx hb hts tbX6 hown hK hP 0 MW_0 rfl 5 (by decide) (hts _ tm_3_6) (fun _ h9 => h9) rfl dX6_gain_6 ?_
      refine lv_icmp_ge (tgt := 51) hx hb dX6_gain_9 (by decide) (fun c_9 => absurd c_9 (nI_ge  (by omega) (by omega))) (fun c_9 => ?_)
      refine lv_iload_n hx hb dX6_gain_12 rfl (lv_at hl 1 rfl) ?_
      refine lv_aload_n hx hb dX6_gain_13 rfl (lv_at hl 2 rfl) ?_
      refine va_get (D := D) (ci := 5) (v := .ref (q 2)) (C := RX6) (T := TX6) (N := 30) hx hb hts tbX6 hown hK hP 0 MW_0 rfl 6 (by decide) (hts _ tm_3_7) (fun _ h9 => h9) rfl dX6_gain_14 ?_
      refine lv_iload_n hx hb dX6_gain_17 rfl (lv_at hl 0 rfl) ?_
      refine va_iald hx hb hK hP 2 0 MW_2 rfl (vp_in_nI (show i_4 < 7 by omega) (by omega)) dX6_gain_18 ?_
      refine lv_rw (z := (lies i_4)) (congrArg lies (nI_clamp (show i_4 < 2 ^ 31 by omega))) ?_
      refine lv_iconst (v := (4 : Int32)) hx hb dX6_gain_19 (by decide) ?_
      refine lv_irem hx hb dX6_gain_20 (by decide) ?_
      refine lv_rw (z := (jr (lies i_4) (4 : Int32))) rfl ?_
      refine lv_iload_n hx hb dX6_gain_21 rfl (lv_at hl 3 rfl) ?_
      refine lv_icmp_ne (tgt := 42) hx hb dX6_gain_22 (by decide) (fun c_22 => ?_) (fun c_22 => ?_)
      · rw [if_neg c_22] at hT_4
        refine lv_iconst (v := (0 : Int32)) hx hb dX6_gain_42 (by decide) ?_
        refine lv_iadd hx hb dX6_gain_43 ?_
        refine lv_istore_n (lv' := [(2, .int (n4 + (0 : Int32))), (3, .int (nI i_4)), (0, .ref (q 0)), (1, .int (nI cc))]) hx hb dX6_gain_44 rfl hl (by decide) rfl (fun ls hl => ?_)
        refine lv_iinc (v := (nI (i_4 + 1))) (lv' := [(3, .int (nI (i_4 + 1))), (2, .int (n4 + (0 : Int32))), (0, .ref (q 0)), (1, .int (nI cc))]) hx hb dX6_gain_45 hl (k := 1) rfl (nI_up i_4) (by decide) rfl (fun ls hl => ?_)
        refine lv_goto (tgt := 4) hx hb dX6_gain_48 (by decide) ?_
        exact ih_4 (i_4 + 1) (n4 + (0 : Int32)) ls (by omega) hT_4 (lv_sub hl [0, 1, 2, 3] rfl)
      · rw [if_pos c_22] at hT_4
        refine lv_aload_n hx hb dX6_gain_25 rfl (lv_at hl 2 rfl) ?_
        refine va_get (D := D) (ci := 5) (v := .ref (q 6)) (C := RX6) (T := TX6) (N := 30) hx hb hts tbX6 hown hK hP 0 MW_0 rfl 13 (by decide) (hts _ tm_3_14) (fun _ h9 => h9) rfl dX6_gain_26 ?_
        refine lv_iconst (v := (5 : Int32)) hx hb dX6_gain_29 (by decide) ?_
        refine va_iald hx hb hK hP 6 0 MW_6 rfl (vp_in_nI (n := 5) (by decide) (by decide)) dX6_gain_30 ?_
        refine lv_rw (z := (trial 5)) (congrArg trial cl_5) ?_
        refine lv_iload_n hx hb dX6_gain_31 rfl (lv_at hl 0 rfl) ?_
        refine sRdI (As := [.int (trial 5), .int (nI i_4)]) (rest := [.int n4]) hF (c_X6_has l D cI cZ q (trial 5) (nI i_4)) (gdS tm_3_118 tm_3_119 tm_1_6 tm_3_120) de_X6_has ⟨Nat.le_of_ble_eq_true rfl, Nat.le_of_ble_eq_true rfl⟩ va_P_nil hK hl.1 rfl (Nat.le_of_ble_eq_true rfl) dX6_gain_32 ⟨Nat.zero_le _, Nat.zero_le _⟩ ?_
        refine lv_if_eq (tgt := 42) hx hb dX6_gain_35 (by decide) (fun c_35 => ?_) (fun c_35 => ?_)
        · rw [if_pos c_35] at hT_4
          refine lv_iconst (v := (0 : Int32)) hx hb dX6_gain_42 (by decide) ?_
          refine lv_iadd hx hb dX6_gain_43 ?_
          refine lv_istore_n (lv' := [(2, .int (n4 + (0 : Int32))), (3, .int (nI i_4)), (0, .ref (q 0)), (1, .int (nI cc))]) hx hb dX6_gain_44 rfl hl (by decide) rfl (fun ls hl => ?_)
          refine lv_iinc (v := (nI (i_4 + 1))) (lv' := [(3, .int (nI (i_4 + 1))), (2, .int (n4 + (0 : Int32))), (0, .ref (q 0)), (1, .int (nI cc))]) hx hb dX6_gain_45 hl (k := 1) rfl (nI_up i_4) (by decide) rfl (fun ls hl => ?_)
          refine lv_goto (tgt := 4) hx hb dX6_gain_48 (by decide) ?_
          exact ih_4 (i_4 + 1) (n4 + (0 : Int32)) ls (by omega) hT_4 (lv_sub hl [0, 1, 2, 3] rfl)
        · rw [if_neg c_35] at hT_4
          refine lv_iconst (v := (1 : Int32)) hx hb dX6_gain_38 (by decide) ?_
          refine lv_goto (tgt := 43) hx hb dX6_gain_39 (by decide) ?_
          refine lv_iadd hx hb dX6_gain_43 ?_
          refine lv_istore_n (lv' := [(2, .int (n4 + (1 : Int32))), (3, .int (nI i_4)), (0, .ref (q 0)), (1, .int (nI cc))]) hx hb dX6_gain_44 rfl hl (by decide) rfl (fun ls hl => ?_)
          refine lv_iinc (v := (nI (i_4 + 1))) (lv' := [(3, .int (nI (i_4 + 1))), (2, .int (n4 + (1 : Int32))), (0, .ref (q 0)), (1, .int (nI cc))]) hx hb dX6_gain_45 hl (k := 1) rfl (nI_up i_4) (by decide) rfl (fun ls hl => ?_)
          refine lv_goto (tgt := 4) hx hb dX6_gain_48 (by decide) ?_
          exact ih_4 (i_4 + 1) (n4 + (1 : Int32)) ls (by omega) hT_4 (lv_sub hl [0, 1, 2, 3] rfl)
  exact key_4 n 0 (0 : Int32) ls (by omega) hT_4 (lv_sub hl [0, 1, 2, 3] rfl)
def f_X6_rests_l134 (ga42 : Nat → Int32) (i_121 : Nat) : Nat → Nat → (Int32) → Int32
  | 0, i_134, is134 => is134
  | d_134 + 1, i_134, is134 => (if is134 = (0 : Int32) then (f_X6_rests_l134 ga42 i_121 d_134 (i_134 + 1) (0 : Int32)) else (if (ga42 (2 * i_121)) < (ga42 (2 * (3 * i_134 + i_121 % 3))) then (f_X6_rests_l134 ga42 i_121 d_134 (i_134 + 1) (0 : Int32)) else (if (ga42 (2 * i_121 + 1)) < (ga42 (2 * (i_121 - i_121 % 3 + i_134) + 1)) then (f_X6_rests_l134 ga42 i_121 d_134 (i_134 + 1) (0 : Int32)) else (f_X6_rests_l134 ga42 i_121 d_134 (i_134 + 1) (1 : Int32)))))
theorem f_X6_rests_l134_z {ga42 : Nat → Int32} {i_121 : Nat} {i_134 : Nat} {is134 : Int32} : f_X6_rests_l134 ga42 i_121 0 i_134 is134 = is134 := by rw [f_X6_rests_l134]
theorem f_X6_rests_l134_s {ga42 : Nat → Int32} {i_121 : Nat} {d_134 : Nat} {i_134 : Nat} {is134 : Int32} : f_X6_rests_l134 ga42 i_121 (d_134 + 1) i_134 is134 = (if is134 = (0 : Int32) then (f_X6_rests_l134 ga42 i_121 d_134 (i_134 + 1) (0 : Int32)) else (if (ga42 (2 * i_121)) < (ga42 (2 * (3 * i_134 + i_121 % 3))) then (f_X6_rests_l134 ga42 i_121 d_134 (i_134 + 1) (0 : Int32)) else (if (ga42 (2 * i_121 + 1)) < (ga42 (2 * (i_121 - i_121 % 3 + i_134) + 1)) then (f_X6_rests_l134 ga42 i_121 d_134 (i_134 + 1) (0 : Int32)) else (f_X6_rests_l134 ga42 i_121 d_134 (i_134 + 1) (1 : Int32))))) := by rw [f_X6_rests_l134]
def f_X6_rests_l121 (ga42 : Nat → Int32) : Nat → Nat → (Int32) → (Int32) → (Int32) × (Int32)
  | 0, i_121, rm121, rf121 => (rm121, rf121)
  | d_121 + 1, i_121, rm121, rf121 => (if (f_X6_rests_l134 ga42 i_121 3 0 (1 : Int32)) = (0 : Int32) then (if (f_X6_rests_l134 ga42 i_121 3 0 (1 : Int32)) = (0 : Int32) then (f_X6_rests_l121 ga42 d_121 (i_121 + 1) (rm121 + (0 : Int32)) rf121) else (f_X6_rests_l121 ga42 d_121 (i_121 + 1) (rm121 + (1 : Int32)) rf121)) else (if rm121 = (0 : Int32) then (if (f_X6_rests_l134 ga42 i_121 3 0 (1 : Int32)) = (0 : Int32) then (f_X6_rests_l121 ga42 d_121 (i_121 + 1) (rm121 + (0 : Int32)) (((10 : Int32) * (nI (i_121 / 3))) + (nI (i_121 % 3)))) else (f_X6_rests_l121 ga42 d_121 (i_121 + 1) (rm121 + (1 : Int32)) (((10 : Int32) * (nI (i_121 / 3))) + (nI (i_121 % 3))))) else (if (f_X6_rests_l134 ga42 i_121 3 0 (1 : Int32)) = (0 : Int32) then (f_X6_rests_l121 ga42 d_121 (i_121 + 1) (rm121 + (0 : Int32)) rf121) else (f_X6_rests_l121 ga42 d_121 (i_121 + 1) (rm121 + (1 : Int32)) rf121))))
theorem f_X6_rests_l121_z {ga42 : Nat → Int32} {i_121 : Nat} {rm121 : Int32} {rf121 : Int32} : f_X6_rests_l121 ga42 0 i_121 rm121 rf121 = (rm121, rf121) := by rw [f_X6_rests_l121]
theorem f_X6_rests_l121_s {ga42 : Nat → Int32} {d_121 : Nat} {i_121 : Nat} {rm121 : Int32} {rf121 : Int32} : f_X6_rests_l121 ga42 (d_121 + 1) i_121 rm121 rf121 = (if (f_X6_rests_l134 ga42 i_121 3 0 (1 : Int32)) = (0 : Int32) then (if (f_X6_rests_l134 ga42 i_121 3 0 (1 : Int32)) = (0 : Int32) then (f_X6_rests_l121 ga42 d_121 (i_121 + 1) (rm121 + (0 : Int32)) rf121) else (f_X6_rests_l121 ga42 d_121 (i_121 + 1) (rm121 + (1 : Int32)) rf121)) else (if rm121 = (0 : Int32) then (if (f_X6_rests_l134 ga42 i_121 3 0 (1 : Int32)) = (0 : Int32) then (f_X6_rests_l121 ga42 d_121 (i_121 + 1) (rm121 + (0 : Int32)) (((10 : Int32) * (nI (i_121 / 3))) + (nI (i_121 % 3)))) else (f_X6_rests_l121 ga42 d_121 (i_121 + 1) (rm121 + (1 : Int32)) (((10 : Int32) * (nI (i_121 / 3))) + (nI (i_121 % 3))))) else (if (f_X6_rests_l134 ga42 i_121 3 0 (1 : Int32)) = (0 : Int32) then (f_X6_rests_l121 ga42 d_121 (i_121 + 1) (rm121 + (0 : Int32)) rf121) else (f_X6_rests_l121 ga42 d_121 (i_121 + 1) (rm121 + (1 : Int32)) rf121)))) := by rw [f_X6_rests_l121]
def f_X6_rests_l42 (cl : Nat → Nat) (n : Nat) (lies : Nat → Int32) (kind : Nat → Int32) (page : Nat → Int32) (a1 : Int32) (a2 : Int32) : Nat → Nat → (Nat → Int32) → (Nat → Int32) → (Nat → Int32) × (Nat → Int32)
  | 0, i_42, tr42, ga42 => (tr42, ga42)
  | d_42 + 1, i_42, tr42, ga42 => (f_X6_rests_l42 cl n lies kind page a1 a2 d_42 (i_42 + 1) (f_X6_chooses cl n a2.toNatClampNeg lies kind (f_X6_chooses cl n a1.toNatClampNeg lies kind (f_X6_begin page tr42) (nI (i_42 / 3))) (nI (i_42 % 3))) (upd (upd ga42 (2 * i_42) (f_X6_gain n a1.toNatClampNeg lies (f_X6_chooses cl n a2.toNatClampNeg lies kind (f_X6_chooses cl n a1.toNatClampNeg lies kind (f_X6_begin page tr42) (nI (i_42 / 3))) (nI (i_42 % 3))))) (2 * i_42 + 1) (f_X6_gain n a2.toNatClampNeg lies (f_X6_chooses cl n a2.toNatClampNeg lies kind (f_X6_chooses cl n a1.toNatClampNeg lies kind (f_X6_begin page tr42) (nI (i_42 / 3))) (nI (i_42 % 3))))))
theorem f_X6_rests_l42_z {cl : Nat → Nat} {n : Nat} {lies : Nat → Int32} {kind : Nat → Int32} {page : Nat → Int32} {a1 : Int32} {a2 : Int32} {i_42 : Nat} {tr42 : Nat → Int32} {ga42 : Nat → Int32} : f_X6_rests_l42 cl n lies kind page a1 a2 0 i_42 tr42 ga42 = (tr42, ga42) := by rw [f_X6_rests_l42]
theorem f_X6_rests_l42_s {cl : Nat → Nat} {n : Nat} {lies : Nat → Int32} {kind : Nat → Int32} {page : Nat → Int32} {a1 : Int32} {a2 : Int32} {d_42 : Nat} {i_42 : Nat} {tr42 : Nat → Int32} {ga42 : Nat → Int32} : f_X6_rests_l42 cl n lies kind page a1 a2 (d_42 + 1) i_42 tr42 ga42 = (f_X6_rests_l42 cl n lies kind page a1 a2 d_42 (i_42 + 1) (f_X6_chooses cl n a2.toNatClampNeg lies kind (f_X6_chooses cl n a1.toNatClampNeg lies kind (f_X6_begin page tr42) (nI (i_42 / 3))) (nI (i_42 % 3))) (upd (upd ga42 (2 * i_42) (f_X6_gain n a1.toNatClampNeg lies (f_X6_chooses cl n a2.toNatClampNeg lies kind (f_X6_chooses cl n a1.toNatClampNeg lies kind (f_X6_begin page tr42) (nI (i_42 / 3))) (nI (i_42 % 3))))) (2 * i_42 + 1) (f_X6_gain n a2.toNatClampNeg lies (f_X6_chooses cl n a2.toNatClampNeg lies kind (f_X6_chooses cl n a1.toNatClampNeg lies kind (f_X6_begin page tr42) (nI (i_42 / 3))) (nI (i_42 % 3)))))) := by rw [f_X6_rests_l42]
def f_X6_rests (cl : Nat → Nat) (n : Nat) (restMany : Int32) (restFirst : Int32) (lies : Nat → Int32) (kind : Nat → Int32) (page : Nat → Int32) (trial : Nat → Int32) (gains : Nat → Int32) (a1 : Int32) (a2 : Int32) (a3 : Int32) : (Int32) × (Int32) × (Nat → Int32) × (Nat → Int32) × (Int32) × (Int32) := (if (f_X6_noColumn a1) = (0 : Int32) then (if (f_X6_noColumn a2) = (0 : Int32) then (if a1 = a2 then ((-2 : Int32), (0 : Int32), trial, gains, restMany, restFirst) else (if (f_X6_in a3.toInt64 (0 : Int64) (1 : Int64)) = (0 : Int32) then ((-2 : Int32), (0 : Int32), trial, gains, restMany, restFirst) else (if a3 = (0 : Int32) then ((f_X6_rests_l121 (f_X6_rests_l42 cl n lies kind page a1 a2 9 0 trial gains).2 9 0 (0 : Int32) (-9 : Int32)).1, (0 : Int32), (f_X6_rests_l42 cl n lies kind page a1 a2 9 0 trial gains).1, (f_X6_rests_l42 cl n lies kind page a1 a2 9 0 trial gains).2, (f_X6_rests_l121 (f_X6_rests_l42 cl n lies kind page a1 a2 9 0 trial gains).2 9 0 (0 : Int32) (-9 : Int32)).1, (f_X6_rests_l121 (f_X6_rests_l42 cl n lies kind page a1 a2 9 0 trial gains).2 9 0 (0 : Int32) (-9 : Int32)).2) else ((f_X6_rests_l121 (f_X6_rests_l42 cl n lies kind page a1 a2 9 0 trial gains).2 9 0 (0 : Int32) (-9 : Int32)).2, (0 : Int32), (f_X6_rests_l42 cl n lies kind page a1 a2 9 0 trial gains).1, (f_X6_rests_l42 cl n lies kind page a1 a2 9 0 trial gains).2, (f_X6_rests_l121 (f_X6_rests_l42 cl n lies kind page a1 a2 9 0 trial gains).2 9 0 (0 : Int32) (-9 : Int32)).1, (f_X6_rests_l121 (f_X6_rests_l42 cl n lies kind page a1 a2 9 0 trial gains).2 9 0 (0 : Int32) (-9 : Int32)).2)))) else ((-1 : Int32), (0 : Int32), trial, gains, restMany, restFirst)) else ((-1 : Int32), (0 : Int32), trial, gains, restMany, restFirst))
set_option maxHeartbeats 4000000 in
set_option maxRecDepth 100000 in
theorem c_X6_rests (l : Launch) (D : va_G) (cI cZ : ClassId) (q : Nat → Nat) (thrown : Int32) (textSize : Int32) (place : Int32) (stock : Int32) (n : Nat) (readStock : Int32) (readCells : Int32) (readParts : Int32) (acts : Int32) (tried : Int32) (soonMany : Int32) (soonWhich : Int32) (kindMany : Int32) (kindFirst : Int32) (restMany : Int32) (restFirst : Int32) (text lies kind readPart page trial book kept isKept triedAbout triedIs gains value : Nat → Int32) (seed : Int64) (a1 : Int32) (a2 : Int32) (a3 : Int32) (hn7 : n ≤ 7) (cl : Nat → Nat) (hcl : ∀ j, j < 7 → lies j = nI (cl j) ∧ cl j < 16) : WrI l yX6_rests cX6_rests 7 .int 9 208 D (tyL cI cZ) (MW cI cZ q thrown textSize place stock (nI n) readStock readCells readParts acts tried soonMany soonWhich kindMany kindFirst restMany restFirst text lies kind readPart page trial book kept isKept triedAbout triedIs gains value seed) [.ref (q 0), .int a1, .int a2, .int a3] (f_X6_rests cl n restMany restFirst lies kind page trial gains a1 a2 a3).1 (MW cI cZ q (f_X6_rests cl n restMany restFirst lies kind page trial gains a1 a2 a3).2.1 textSize place stock (nI n) readStock readCells readParts acts tried soonMany soonWhich kindMany kindFirst (f_X6_rests cl n restMany restFirst lies kind page trial gains a1 a2 a3).2.2.2.2.1 (f_X6_rests cl n restMany restFirst lies kind page trial gains a1 a2 a3).2.2.2.2.2 text lies kind readPart page (f_X6_rests cl n restMany restFirst lies kind page trial gains a1 a2 a3).2.2.1 book kept isKept triedAbout triedIs (f_X6_rests cl n restMany restFirst lies kind page trial gains a1 a2 a3).2.2.2.1 value seed) := by
  refine WrI.of (by decide) (Nat.le_of_ble_eq_true rfl) ?_
  intro p e s m args below meth c Q A hx hb hml hown hts hP hK hD hS fin ls hl
  have hown : s.vm.findClass RX6 = some m.cls := hown
  have hF : CallFix p m c cX6_rests 7 s args tb RX6 := ⟨hx, hb, hml, hown, hts⟩
  have hl : lv_has ls 7 [(0, .ref (q 0)), (1, .int a1), (2, .int a2), (3, .int a3)] := hl
  generalize hR : (f_X6_rests cl n restMany restFirst lies kind page trial gains a1 a2 a3) = R at fin
  unfold f_X6_rests at hR
  refine lv_aload_n hx hb dX6_rests_0 rfl (lv_at hl 0 rfl) ?_
  refine lv_iconst (v := (0 : Int32)) hx hb dX6_rests_1 (by decide) ?_
  refine va_put (D := D) (ci := 5) (v := .int (0 : Int32)) (ty := .int) (C := RX6) (T := TX6) (N := 30) hx hb hts tbX6 tyX6 tyX6_ok nmX6 hown hK hP hD hS 0 MW_0 rfl 0 (by decide) (hts _ tm_3_1) (fun _ h9 => h9) rfl (by decide +kernel) rfl rfl (Nat.le_of_ble_eq_true rfl) dX6_rests_2 (fun H locs hP _ hS => ?_)
  have hP : va_P D vwCl (MW cI cZ q (0 : Int32) textSize place stock (nI n) readStock readCells readParts acts tried soonMany soonWhich kindMany kindFirst restMany restFirst text lies kind readPart page trial book kept isKept triedAbout triedIs gains value seed) H := hP
  have hD : va_D A (MW cI cZ q (0 : Int32) textSize place stock (nI n) readStock readCells readParts acts tried soonMany soonWhich kindMany kindFirst restMany restFirst text lies kind readPart page trial book kept isKept triedAbout triedIs gains value seed) := hD.same (MW_ad.trans MW_ad.symm)
  refine lv_iload_n hx hb dX6_rests_5 rfl (lv_at hl 1 rfl) ?_
  refine sRdI (As := [.int a1]) (rest := []) hF (c_X6_noColumn l D cI cZ q a1) (gdS tm_3_161 tm_3_162 tm_1_6 tm_3_163) de_X6_noColumn ⟨Nat.le_of_ble_eq_true rfl, Nat.le_of_ble_eq_true rfl⟩ va_P_nil hK hl.1 rfl (Nat.le_of_ble_eq_true rfl) dX6_rests_6 ⟨Nat.zero_le _, Nat.zero_le _⟩ ?_
  refine lv_if_ne (tgt := 19) hx hb dX6_rests_9 (by decide) (fun c_9 => ?_) (fun c_9 => ?_)
  · rw [if_neg c_9] at hR
    refine lv_iconst (v := (-1 : Int32)) hx hb dX6_rests_19 (by decide) ?_
    subst hR
    exact fin _ _ _ _ dX6_rests_20 (nar_i _) hP hS
  · rw [if_pos c_9] at hR
    refine lv_iload_n hx hb dX6_rests_12 rfl (lv_at hl 2 rfl) ?_
    refine sRdI (As := [.int a2]) (rest := []) hF (c_X6_noColumn l D cI cZ q a2) (gdS tm_3_161 tm_3_162 tm_1_6 tm_3_163) de_X6_noColumn ⟨Nat.le_of_ble_eq_true rfl, Nat.le_of_ble_eq_true rfl⟩ va_P_nil hK hl.1 rfl (Nat.le_of_ble_eq_true rfl) dX6_rests_13 ⟨Nat.zero_le _, Nat.zero_le _⟩ ?_
    refine lv_if_eq (tgt := 21) hx hb dX6_rests_16 (by decide) (fun c_16 => ?_) (fun c_16 => ?_)
    · rw [if_pos c_16] at hR
      have hc1 := noCol_nI c_9
      have hc2 := noCol_lt c_9
      have hd1 := noCol_nI c_16
      have hd2 := noCol_lt c_16
      refine lv_iload_n hx hb dX6_rests_21 rfl (lv_at hl 1 rfl) ?_
      refine lv_iload_n hx hb dX6_rests_22 rfl (lv_at hl 2 rfl) ?_
      refine lv_icmp_eq (tgt := 36) hx hb dX6_rests_23 (by decide) (fun c_23 => ?_) (fun c_23 => ?_)
      · rw [if_pos c_23] at hR
        refine lv_bipush (v := (-2 : Int32)) hx hb dX6_rests_36 (by decide) ?_
        subst hR
        exact fin _ _ _ _ dX6_rests_38 (nar_i _) hP hS
      · rw [if_neg c_23] at hR
        refine lv_iload_n hx hb dX6_rests_26 rfl (lv_at hl 3 rfl) ?_
        refine lv_i2l (v := a3.toInt64) hx hb dX6_rests_27 rfl ?_
        refine lv_lconst (v := (0 : Int64)) hx hb dX6_rests_28 (by decide) ?_
        refine lv_lconst (v := (1 : Int64)) hx hb dX6_rests_29 (by decide) ?_
        refine sRdI (As := [.long a3.toInt64, .long (0 : Int64), .long (1 : Int64)]) (rest := []) hF (c_X6_in l D cI cZ q a3.toInt64 (0 : Int64) (1 : Int64)) (gdS tm_3_97 tm_3_98 tm_1_6 tm_3_99) de_X6_in ⟨Nat.le_of_ble_eq_true rfl, Nat.le_of_ble_eq_true rfl⟩ va_P_nil hK hl.1 rfl (Nat.le_of_ble_eq_true rfl) dX6_rests_30 ⟨Nat.zero_le _, Nat.zero_le _⟩ ?_
        refine lv_if_ne (tgt := 39) hx hb dX6_rests_33 (by decide) (fun c_33 => ?_) (fun c_33 => ?_)
        · rw [if_neg c_33] at hR
          refine lv_iconst (v := (0 : Int32)) hx hb dX6_rests_39 (by decide) ?_
          refine lv_istore (lv' := [(4, .int (0 : Int32)), (0, .ref (q 0)), (1, .int a1), (2, .int a2), (3, .int a3)]) hx hb dX6_rests_40 hl (by decide) rfl (fun ls hl => ?_)
          obtain ⟨T_42, hT_42⟩ : ∃ z, f_X6_rests_l42 cl n lies kind page a1 a2 9 0 trial gains = z := ⟨_, rfl⟩
          rw [hT_42] at hR
          have key_42 : ∀ (d_42 i_42 : Nat) (tr42 : Nat → Int32) (ga42 : Nat → Int32) (ls : Array Slot) (H : Heap) (locs : List Loc), i_42 + d_42 = 9 → f_X6_rests_l42 cl n lies kind page a1 a2 d_42 i_42 tr42 ga42 = T_42 → lv_has ls 7 [(4, .int (nI i_42)), (0, .ref (q 0)), (1, .int a1), (2, .int a2), (3, .int a3)] → va_P D vwCl (MW cI cZ q (0 : Int32) textSize place stock (nI n) readStock readCells readParts acts tried soonMany soonWhich kindMany kindFirst restMany restFirst text lies kind readPart page tr42 book kept isKept triedAbout triedIs ga42 value seed) H → va_S A s.heap H locs → W p l e (rmO 9 208) s m args below meth c H locs 0 0 Q (F0 m 42 ls []) := by
            intro d_42
            induction d_42 with
            | zero =>
              intro i_42 tr42 ga42 ls H locs hi_42 hT_42 hl hP hS
              have hD : va_D A (MW cI cZ q (0 : Int32) textSize place stock (nI n) readStock readCells readParts acts tried soonMany soonWhich kindMany kindFirst restMany restFirst text lies kind readPart page tr42 book kept isKept triedAbout triedIs ga42 value seed) := hD.same (MW_ad.trans MW_ad.symm)
              rw [f_X6_rests_l42_z] at hT_42
              refine lv_iload hx hb dX6_rests_42 (lv_at hl 0 rfl) ?_
              refine lv_bipush (v := (9 : Int32)) hx hb dX6_rests_44 (by decide) ?_
              refine lv_icmp_ge (tgt := 107) hx hb dX6_rests_46 (by decide) (fun c_46 => ?_) (fun c_46 => absurd (nI_le (a := 9) (by omega) (by omega)) c_46)
              subst hT_42
              try dsimp only at hR
              refine lv_aload_n hx hb dX6_rests_107 rfl (lv_at hl 1 rfl) ?_
              refine lv_iconst (v := (0 : Int32)) hx hb dX6_rests_108 (by decide) ?_
              refine va_put (D := D) (ci := 5) (v := .int (0 : Int32)) (ty := .int) (C := RX6) (T := TX6) (N := 30) hx hb hts tbX6 tyX6 tyX6_ok nmX6 hown hK hP hD hS 0 MW_0 rfl 26 (by decide) (hts _ tm_3_27) (fun _ h9 => h9) rfl (by decide +kernel) rfl rfl (Nat.le_of_ble_eq_true rfl) dX6_rests_109 (fun H locs hP _ hS => ?_)
              have hP : va_P D vwCl (MW cI cZ q (0 : Int32) textSize place stock (nI n) readStock readCells readParts acts tried soonMany soonWhich kindMany kindFirst (0 : Int32) restFirst text lies kind readPart page tr42 book kept isKept triedAbout triedIs ga42 value seed) H := hP
              have hD : va_D A (MW cI cZ q (0 : Int32) textSize place stock (nI n) readStock readCells readParts acts tried soonMany soonWhich kindMany kindFirst (0 : Int32) restFirst text lies kind readPart page tr42 book kept isKept triedAbout triedIs ga42 value seed) := hD.same (MW_ad.trans MW_ad.symm)
              refine lv_aload_n hx hb dX6_rests_112 rfl (lv_at hl 1 rfl) ?_
              refine lv_bipush (v := (-9 : Int32)) hx hb dX6_rests_113 (by decide) ?_
              refine va_put (D := D) (ci := 5) (v := .int (-9 : Int32)) (ty := .int) (C := RX6) (T := TX6) (N := 30) hx hb hts tbX6 tyX6 tyX6_ok nmX6 hown hK hP hD hS 0 MW_0 rfl 27 (by decide) (hts _ tm_3_28) (fun _ h9 => h9) rfl (by decide +kernel) rfl rfl (Nat.le_of_ble_eq_true rfl) dX6_rests_115 (fun H locs hP _ hS => ?_)
              have hP : va_P D vwCl (MW cI cZ q (0 : Int32) textSize place stock (nI n) readStock readCells readParts acts tried soonMany soonWhich kindMany kindFirst (0 : Int32) (-9 : Int32) text lies kind readPart page tr42 book kept isKept triedAbout triedIs ga42 value seed) H := hP
              have hD : va_D A (MW cI cZ q (0 : Int32) textSize place stock (nI n) readStock readCells readParts acts tried soonMany soonWhich kindMany kindFirst (0 : Int32) (-9 : Int32) text lies kind readPart page tr42 book kept isKept triedAbout triedIs ga42 value seed) := hD.same (MW_ad.trans MW_ad.symm)
              refine lv_iconst (v := (0 : Int32)) hx hb dX6_rests_118 (by decide) ?_
              refine lv_istore (lv' := [(4, .int (0 : Int32)), (0, .ref (q 0)), (1, .int a1), (2, .int a2), (3, .int a3)]) hx hb dX6_rests_119 hl (by decide) rfl (fun ls hl => ?_)
              obtain ⟨T_121, hT_121⟩ : ∃ z, f_X6_rests_l121 ga42 9 0 (0 : Int32) (-9 : Int32) = z := ⟨_, rfl⟩
              rw [hT_121] at hR
              have key_121 : ∀ (d_121 i_121 : Nat) (rm121 : Int32) (rf121 : Int32) (ls : Array Slot) (H : Heap) (locs : List Loc), i_121 + d_121 = 9 → f_X6_rests_l121 ga42 d_121 i_121 rm121 rf121 = T_121 → lv_has ls 7 [(4, .int (nI i_121)), (0, .ref (q 0)), (1, .int a1), (2, .int a2), (3, .int a3)] → va_P D vwCl (MW cI cZ q (0 : Int32) textSize place stock (nI n) readStock readCells readParts acts tried soonMany soonWhich kindMany kindFirst rm121 rf121 text lies kind readPart page tr42 book kept isKept triedAbout triedIs ga42 value seed) H → va_S A s.heap H locs → W p l e (rmO 9 208) s m args below meth c H locs 0 0 Q (F0 m 121 ls []) := by
                intro d_121
                induction d_121 with
                | zero =>
                  intro i_121 rm121 rf121 ls H locs hi_121 hT_121 hl hP hS
                  have hD : va_D A (MW cI cZ q (0 : Int32) textSize place stock (nI n) readStock readCells readParts acts tried soonMany soonWhich kindMany kindFirst rm121 rf121 text lies kind readPart page tr42 book kept isKept triedAbout triedIs ga42 value seed) := hD.same (MW_ad.trans MW_ad.symm)
                  rw [f_X6_rests_l121_z] at hT_121
                  refine lv_iload hx hb dX6_rests_121 (lv_at hl 0 rfl) ?_
                  refine lv_bipush (v := (9 : Int32)) hx hb dX6_rests_123 (by decide) ?_
                  refine lv_icmp_ge (tgt := 279) hx hb dX6_rests_125 (by decide) (fun c_125 => ?_) (fun c_125 => absurd (nI_le (a := 9) (by omega) (by omega)) c_125)
                  subst hT_121
                  try dsimp only at hR
                  refine lv_iload_n hx hb dX6_rests_279 rfl (lv_at hl 4 rfl) ?_
                  refine lv_if_ne (tgt := 290) hx hb dX6_rests_280 (by decide) (fun c_280 => ?_) (fun c_280 => ?_)
                  · rw [if_neg c_280] at hR
                    refine lv_aload_n hx hb dX6_rests_290 rfl (lv_at hl 1 rfl) ?_
                    refine va_get (D := D) (ci := 5) (v := .int rf121) (C := RX6) (T := TX6) (N := 30) hx hb hts tbX6 hown hK hP 0 MW_0 rfl 27 (by decide) (hts _ tm_3_28) (fun _ h9 => h9) rfl dX6_rests_291 ?_
                    subst hR
                    exact fin _ _ _ _ dX6_rests_294 (nar_i _) hP hS
                  · rw [if_pos c_280] at hR
                    refine lv_aload_n hx hb dX6_rests_283 rfl (lv_at hl 1 rfl) ?_
                    refine va_get (D := D) (ci := 5) (v := .int rm121) (C := RX6) (T := TX6) (N := 30) hx hb hts tbX6 hown hK hP 0 MW_0 rfl 26 (by decide) (hts _ tm_3_27) (fun _ h9 => h9) rfl dX6_rests_284 ?_
                    refine lv_goto (tgt := 294) hx hb dX6_rests_287 (by decide) ?_
                    subst hR
                    exact fin _ _ _ _ dX6_rests_294 (nar_i _) hP hS
                | succ d_121 ih_121 =>
                  intro i_121 rm121 rf121 ls H locs hi_121 hT_121 hl hP hS
                  have hD : va_D A (MW cI cZ q (0 : Int32) textSize place stock (nI n) readStock readCells readParts acts tried soonMany soonWhich kindMany kindFirst rm121 rf121 text lies kind readPart page tr42 book kept isKept triedAbout triedIs ga42 value seed) := hD.same (MW_ad.trans MW_ad.symm)
                  rw [f_X6_rests_l121_s] at hT_121
                  refine lv_iload hx hb dX6_rests_121 (lv_at hl 0 rfl) ?_
                  refine lv_bipush (v := (9 : Int32)) hx hb dX6_rests_123 (by decide) ?_
                  refine lv_icmp_ge (tgt := 279) hx hb dX6_rests_125 (by decide) (fun c_125 => absurd c_125 (nI_ge (b := 9) (by omega) (by omega))) (fun c_125 => ?_)
                  refine lv_iconst (v := (1 : Int32)) hx hb dX6_rests_128 (by decide) ?_
                  refine lv_istore (lv' := [(5, .int (1 : Int32)), (4, .int (nI i_121)), (0, .ref (q 0)), (1, .int a1), (2, .int a2), (3, .int a3)]) hx hb dX6_rests_129 hl (by decide) rfl (fun ls hl => ?_)
                  refine lv_iconst (v := (0 : Int32)) hx hb dX6_rests_131 (by decide) ?_
                  refine lv_istore (lv' := [(6, .int (0 : Int32)), (5, .int (1 : Int32)), (4, .int (nI i_121)), (0, .ref (q 0)), (1, .int a1), (2, .int a2), (3, .int a3)]) hx hb dX6_rests_132 hl (by decide) rfl (fun ls hl => ?_)
                  obtain ⟨T_134, hT_134⟩ : ∃ z, f_X6_rests_l134 ga42 i_121 3 0 (1 : Int32) = z := ⟨_, rfl⟩
                  rw [hT_134] at hT_121
                  have key_134 : ∀ (d_134 i_134 : Nat) (is134 : Int32) (ls : Array Slot) (H : Heap) (locs : List Loc), i_134 + d_134 = 3 → f_X6_rests_l134 ga42 i_121 d_134 i_134 is134 = T_134 → lv_has ls 7 [(6, .int (nI i_134)), (5, .int is134), (4, .int (nI i_121)), (0, .ref (q 0)), (1, .int a1), (2, .int a2), (3, .int a3)] → va_P D vwCl (MW cI cZ q (0 : Int32) textSize place stock (nI n) readStock readCells readParts acts tried soonMany soonWhich kindMany kindFirst rm121 rf121 text lies kind readPart page tr42 book kept isKept triedAbout triedIs ga42 value seed) H → va_S A s.heap H locs → W p l e (rmO 9 208) s m args below meth c H locs 0 0 Q (F0 m 134 ls []) := by
                    intro d_134
                    induction d_134 with
                    | zero =>
                      intro i_134 is134 ls H locs hi_134 hT_134 hl hP hS
                      have hD : va_D A (MW cI cZ q (0 : Int32) textSize place stock (nI n) readStock readCells readParts acts tried soonMany soonWhich kindMany kindFirst rm121 rf121 text lies kind readPart page tr42 book kept isKept triedAbout triedIs ga42 value seed) := hD.same (MW_ad.trans MW_ad.symm)
                      rw [f_X6_rests_l134_z] at hT_134
                      refine lv_iload hx hb dX6_rests_134 (lv_at hl 0 rfl) ?_
                      refine lv_iconst (v := (3 : Int32)) hx hb dX6_rests_136 (by decide) ?_
                      refine lv_icmp_ge (tgt := 219) hx hb dX6_rests_137 (by decide) (fun c_137 => ?_) (fun c_137 => absurd (nI_le (a := 3) (by omega) (by omega)) c_137)
                      subst hT_134
                      try dsimp only at hT_121
                      refine lv_aload_n hx hb dX6_rests_219 rfl (lv_at hl 3 rfl) ?_
                      refine lv_iload hx hb dX6_rests_220 (lv_at hl 1 rfl) ?_
                      refine lv_if_eq (tgt := 247) hx hb dX6_rests_222 (by decide) (fun c_222 => ?_) (fun c_222 => ?_)
                      · rw [if_pos c_222] at hT_121
                        refine lv_aload_n hx hb dX6_rests_247 rfl (lv_at hl 3 rfl) ?_
                        refine va_get (D := D) (ci := 5) (v := .int rf121) (C := RX6) (T := TX6) (N := 30) hx hb hts tbX6 hown hK hP 0 MW_0 rfl 27 (by decide) (hts _ tm_3_28) (fun _ h9 => h9) rfl dX6_rests_248 ?_
                        refine va_put (D := D) (ci := 5) (v := .int rf121) (ty := .int) (C := RX6) (T := TX6) (N := 30) hx hb hts tbX6 tyX6 tyX6_ok nmX6 hown hK hP hD hS 0 MW_0 rfl 27 (by decide) (hts _ tm_3_28) (fun _ h9 => h9) rfl (by decide +kernel) rfl rfl (Nat.le_of_ble_eq_true rfl) dX6_rests_251 (fun H locs hP _ hS => ?_)
                        have hP : va_P D vwCl (MW cI cZ q (0 : Int32) textSize place stock (nI n) readStock readCells readParts acts tried soonMany soonWhich kindMany kindFirst rm121 rf121 text lies kind readPart page tr42 book kept isKept triedAbout triedIs ga42 value seed) H := hP
                        have hD : va_D A (MW cI cZ q (0 : Int32) textSize place stock (nI n) readStock readCells readParts acts tried soonMany soonWhich kindMany kindFirst rm121 rf121 text lies kind readPart page tr42 book kept isKept triedAbout triedIs ga42 value seed) := hD.same (MW_ad.trans MW_ad.symm)
                        refine lv_aload_n hx hb dX6_rests_254 rfl (lv_at hl 3 rfl) ?_
                        refine lv_dup hx hb dX6_rests_255 rfl ?_
                        refine va_get (D := D) (ci := 5) (v := .int rm121) (C := RX6) (T := TX6) (N := 30) hx hb hts tbX6 hown hK hP 0 MW_0 rfl 26 (by decide) (hts _ tm_3_27) (fun _ h9 => h9) rfl dX6_rests_256 ?_
                        refine lv_iload hx hb dX6_rests_259 (lv_at hl 1 rfl) ?_
                        refine lv_if_eq (tgt := 268) hx hb dX6_rests_261 (by decide) (fun c_261 => ?_) (fun c_261 => ?_)
                        · rw [if_pos c_261] at hT_121
                          refine lv_iconst (v := (0 : Int32)) hx hb dX6_rests_268 (by decide) ?_
                          refine lv_iadd hx hb dX6_rests_269 ?_
                          refine va_put (D := D) (ci := 5) (v := .int (rm121 + (0 : Int32))) (ty := .int) (C := RX6) (T := TX6) (N := 30) hx hb hts tbX6 tyX6 tyX6_ok nmX6 hown hK hP hD hS 0 MW_0 rfl 26 (by decide) (hts _ tm_3_27) (fun _ h9 => h9) rfl (by decide +kernel) rfl rfl (Nat.le_of_ble_eq_true rfl) dX6_rests_270 (fun H locs hP _ hS => ?_)
                          have hP : va_P D vwCl (MW cI cZ q (0 : Int32) textSize place stock (nI n) readStock readCells readParts acts tried soonMany soonWhich kindMany kindFirst (rm121 + (0 : Int32)) rf121 text lies kind readPart page tr42 book kept isKept triedAbout triedIs ga42 value seed) H := hP
                          have hD : va_D A (MW cI cZ q (0 : Int32) textSize place stock (nI n) readStock readCells readParts acts tried soonMany soonWhich kindMany kindFirst (rm121 + (0 : Int32)) rf121 text lies kind readPart page tr42 book kept isKept triedAbout triedIs ga42 value seed) := hD.same (MW_ad.trans MW_ad.symm)
                          refine lv_iinc (v := (nI (i_121 + 1))) (lv' := [(4, .int (nI (i_121 + 1))), (6, .int (nI i_134)), (5, .int is134), (0, .ref (q 0)), (1, .int a1), (2, .int a2), (3, .int a3)]) hx hb dX6_rests_273 hl (k := 2) rfl (nI_up i_121) (by decide) rfl (fun ls hl => ?_)
                          refine lv_goto (tgt := 121) hx hb dX6_rests_276 (by decide) ?_
                          exact ih_121 (i_121 + 1) (rm121 + (0 : Int32)) rf121 ls _ _ (by omega) hT_121 (lv_sub hl [0, 3, 4, 5, 6] rfl) hP hS
                        · rw [if_neg c_261] at hT_121
                          refine lv_iconst (v := (1 : Int32)) hx hb dX6_rests_264 (by decide) ?_
                          refine lv_goto (tgt := 269) hx hb dX6_rests_265 (by decide) ?_
                          refine lv_iadd hx hb dX6_rests_269 ?_
                          refine va_put (D := D) (ci := 5) (v := .int (rm121 + (1 : Int32))) (ty := .int) (C := RX6) (T := TX6) (N := 30) hx hb hts tbX6 tyX6 tyX6_ok nmX6 hown hK hP hD hS 0 MW_0 rfl 26 (by decide) (hts _ tm_3_27) (fun _ h9 => h9) rfl (by decide +kernel) rfl rfl (Nat.le_of_ble_eq_true rfl) dX6_rests_270 (fun H locs hP _ hS => ?_)
                          have hP : va_P D vwCl (MW cI cZ q (0 : Int32) textSize place stock (nI n) readStock readCells readParts acts tried soonMany soonWhich kindMany kindFirst (rm121 + (1 : Int32)) rf121 text lies kind readPart page tr42 book kept isKept triedAbout triedIs ga42 value seed) H := hP
                          have hD : va_D A (MW cI cZ q (0 : Int32) textSize place stock (nI n) readStock readCells readParts acts tried soonMany soonWhich kindMany kindFirst (rm121 + (1 : Int32)) rf121 text lies kind readPart page tr42 book kept isKept triedAbout triedIs ga42 value seed) := hD.same (MW_ad.trans MW_ad.symm)
                          refine lv_iinc (v := (nI (i_121 + 1))) (lv' := [(4, .int (nI (i_121 + 1))), (6, .int (nI i_134)), (5, .int is134), (0, .ref (q 0)), (1, .int a1), (2, .int a2), (3, .int a3)]) hx hb dX6_rests_273 hl (k := 2) rfl (nI_up i_121) (by decide) rfl (fun ls hl => ?_)
                          refine lv_goto (tgt := 121) hx hb dX6_rests_276 (by decide) ?_
                          exact ih_121 (i_121 + 1) (rm121 + (1 : Int32)) rf121 ls _ _ (by omega) hT_121 (lv_sub hl [0, 3, 4, 5, 6] rfl) hP hS
                      · rw [if_neg c_222] at hT_121
                        refine lv_aload_n hx hb dX6_rests_225 rfl (lv_at hl 3 rfl) ?_
                        refine va_get (D := D) (ci := 5) (v := .int rm121) (C := RX6) (T := TX6) (N := 30) hx hb hts tbX6 hown hK hP 0 MW_0 rfl 26 (by decide) (hts _ tm_3_27) (fun _ h9 => h9) rfl dX6_rests_226 ?_
                        refine lv_if_ne (tgt := 247) hx hb dX6_rests_229 (by decide) (fun c_229 => ?_) (fun c_229 => ?_)
                        · rw [if_neg c_229] at hT_121
                          refine lv_aload_n hx hb dX6_rests_247 rfl (lv_at hl 3 rfl) ?_
                          refine va_get (D := D) (ci := 5) (v := .int rf121) (C := RX6) (T := TX6) (N := 30) hx hb hts tbX6 hown hK hP 0 MW_0 rfl 27 (by decide) (hts _ tm_3_28) (fun _ h9 => h9) rfl dX6_rests_248 ?_
                          refine va_put (D := D) (ci := 5) (v := .int rf121) (ty := .int) (C := RX6) (T := TX6) (N := 30) hx hb hts tbX6 tyX6 tyX6_ok nmX6 hown hK hP hD hS 0 MW_0 rfl 27 (by decide) (hts _ tm_3_28) (fun _ h9 => h9) rfl (by decide +kernel) rfl rfl (Nat.le_of_ble_eq_true rfl) dX6_rests_251 (fun H locs hP _ hS => ?_)
                          have hP : va_P D vwCl (MW cI cZ q (0 : Int32) textSize place stock (nI n) readStock readCells readParts acts tried soonMany soonWhich kindMany kindFirst rm121 rf121 text lies kind readPart page tr42 book kept isKept triedAbout triedIs ga42 value seed) H := hP
                          have hD : va_D A (MW cI cZ q (0 : Int32) textSize place stock (nI n) readStock readCells readParts acts tried soonMany soonWhich kindMany kindFirst rm121 rf121 text lies kind readPart page tr42 book kept isKept triedAbout triedIs ga42 value seed) := hD.same (MW_ad.trans MW_ad.symm)
                          refine lv_aload_n hx hb dX6_rests_254 rfl (lv_at hl 3 rfl) ?_
                          refine lv_dup hx hb dX6_rests_255 rfl ?_
                          refine va_get (D := D) (ci := 5) (v := .int rm121) (C := RX6) (T := TX6) (N := 30) hx hb hts tbX6 hown hK hP 0 MW_0 rfl 26 (by decide) (hts _ tm_3_27) (fun _ h9 => h9) rfl dX6_rests_256 ?_
                          refine lv_iload hx hb dX6_rests_259 (lv_at hl 1 rfl) ?_
                          refine lv_if_eq (tgt := 268) hx hb dX6_rests_261 (by decide) (fun c_261 => ?_) (fun c_261 => ?_)
                          · rw [if_pos c_261] at hT_121
                            refine lv_iconst (v := (0 : Int32)) hx hb dX6_rests_268 (by decide) ?_
                            refine lv_iadd hx hb dX6_rests_269 ?_
                            refine va_put (D := D) (ci := 5) (v := .int (rm121 + (0 : Int32))) (ty := .int) (C := RX6) (T := TX6) (N := 30) hx hb hts tbX6 tyX6 tyX6_ok nmX6 hown hK hP hD hS 0 MW_0 rfl 26 (by decide) (hts _ tm_3_27) (fun _ h9 => h9) rfl (by decide +kernel) rfl rfl (Nat.le_of_ble_eq_true rfl) dX6_rests_270 (fun H locs hP _ hS => ?_)
                            have hP : va_P D vwCl (MW cI cZ q (0 : Int32) textSize place stock (nI n) readStock readCells readParts acts tried soonMany soonWhich kindMany kindFirst (rm121 + (0 : Int32)) rf121 text lies kind readPart page tr42 book kept isKept triedAbout triedIs ga42 value seed) H := hP
                            have hD : va_D A (MW cI cZ q (0 : Int32) textSize place stock (nI n) readStock readCells readParts acts tried soonMany soonWhich kindMany kindFirst (rm121 + (0 : Int32)) rf121 text lies kind readPart page tr42 book kept isKept triedAbout triedIs ga42 value seed) := hD.same (MW_ad.trans MW_ad.symm)
                            refine lv_iinc (v := (nI (i_121 + 1))) (lv' := [(4, .int (nI (i_121 + 1))), (6, .int (nI i_134)), (5, .int is134), (0, .ref (q 0)), (1, .int a1), (2, .int a2), (3, .int a3)]) hx hb dX6_rests_273 hl (k := 2) rfl (nI_up i_121) (by decide) rfl (fun ls hl => ?_)
                            refine lv_goto (tgt := 121) hx hb dX6_rests_276 (by decide) ?_
                            exact ih_121 (i_121 + 1) (rm121 + (0 : Int32)) rf121 ls _ _ (by omega) hT_121 (lv_sub hl [0, 3, 4, 5, 6] rfl) hP hS
                          · rw [if_neg c_261] at hT_121
                            refine lv_iconst (v := (1 : Int32)) hx hb dX6_rests_264 (by decide) ?_
                            refine lv_goto (tgt := 269) hx hb dX6_rests_265 (by decide) ?_
                            refine lv_iadd hx hb dX6_rests_269 ?_
                            refine va_put (D := D) (ci := 5) (v := .int (rm121 + (1 : Int32))) (ty := .int) (C := RX6) (T := TX6) (N := 30) hx hb hts tbX6 tyX6 tyX6_ok nmX6 hown hK hP hD hS 0 MW_0 rfl 26 (by decide) (hts _ tm_3_27) (fun _ h9 => h9) rfl (by decide +kernel) rfl rfl (Nat.le_of_ble_eq_true rfl) dX6_rests_270 (fun H locs hP _ hS => ?_)
                            have hP : va_P D vwCl (MW cI cZ q (0 : Int32) textSize place stock (nI n) readStock readCells readParts acts tried soonMany soonWhich kindMany kindFirst (rm121 + (1 : Int32)) rf121 text lies kind readPart page tr42 book kept isKept triedAbout triedIs ga42 value seed) H := hP
                            have hD : va_D A (MW cI cZ q (0 : Int32) textSize place stock (nI n) readStock readCells readParts acts tried soonMany soonWhich kindMany kindFirst (rm121 + (1 : Int32)) rf121 text lies kind readPart page tr42 book kept isKept triedAbout triedIs ga42 value seed) := hD.same (MW_ad.trans MW_ad.symm)
                            refine lv_iinc (v := (nI (i_121 + 1))) (lv' := [(4, .int (nI (i_121 + 1))), (6, .int (nI i_134)), (5, .int is134), (0, .ref (q 0)), (1, .int a1), (2, .int a2), (3, .int a3)]) hx hb dX6_rests_273 hl (k := 2) rfl (nI_up i_121) (by decide) rfl (fun ls hl => ?_)
                            refine lv_goto (tgt := 121) hx hb dX6_rests_276 (by decide) ?_
                            exact ih_121 (i_121 + 1) (rm121 + (1 : Int32)) rf121 ls _ _ (by omega) hT_121 (lv_sub hl [0, 3, 4, 5, 6] rfl) hP hS
                        · rw [if_pos c_229] at hT_121
                          refine lv_bipush (v := (10 : Int32)) hx hb dX6_rests_232 (by decide) ?_
                          refine lv_iload hx hb dX6_rests_234 (lv_at hl 2 rfl) ?_
                          refine lv_iconst (v := (3 : Int32)) hx hb dX6_rests_236 (by decide) ?_
                          refine lv_idiv hx hb dX6_rests_237 (by decide) ?_
                          refine lv_rw (z := (nI (i_121 / 3))) (pk_div (d := 3) (by omega) (by omega) (by omega)) ?_
                          refine lv_imul hx hb dX6_rests_238 ?_
                          refine lv_iload hx hb dX6_rests_239 (lv_at hl 2 rfl) ?_
                          refine lv_iconst (v := (3 : Int32)) hx hb dX6_rests_241 (by decide) ?_
                          refine lv_irem hx hb dX6_rests_242 (by decide) ?_
                          refine lv_rw (z := (jr (nI i_121) (3 : Int32))) rfl ?_
                          refine lv_rw (z := (nI (i_121 % 3))) (jr_nI (d := 3) (by omega) (by omega) (by omega)) ?_
                          refine lv_iadd hx hb dX6_rests_243 ?_
                          refine lv_goto (tgt := 251) hx hb dX6_rests_244 (by decide) ?_
                          refine va_put (D := D) (ci := 5) (v := .int (((10 : Int32) * (nI (i_121 / 3))) + (nI (i_121 % 3)))) (ty := .int) (C := RX6) (T := TX6) (N := 30) hx hb hts tbX6 tyX6 tyX6_ok nmX6 hown hK hP hD hS 0 MW_0 rfl 27 (by decide) (hts _ tm_3_28) (fun _ h9 => h9) rfl (by decide +kernel) rfl rfl (Nat.le_of_ble_eq_true rfl) dX6_rests_251 (fun H locs hP _ hS => ?_)
                          have hP : va_P D vwCl (MW cI cZ q (0 : Int32) textSize place stock (nI n) readStock readCells readParts acts tried soonMany soonWhich kindMany kindFirst rm121 (((10 : Int32) * (nI (i_121 / 3))) + (nI (i_121 % 3))) text lies kind readPart page tr42 book kept isKept triedAbout triedIs ga42 value seed) H := hP
                          have hD : va_D A (MW cI cZ q (0 : Int32) textSize place stock (nI n) readStock readCells readParts acts tried soonMany soonWhich kindMany kindFirst rm121 (((10 : Int32) * (nI (i_121 / 3))) + (nI (i_121 % 3))) text lies kind readPart page tr42 book kept isKept triedAbout triedIs ga42 value seed) := hD.same (MW_ad.trans MW_ad.symm)
                          refine lv_aload_n hx hb dX6_rests_254 rfl (lv_at hl 3 rfl) ?_
                          refine lv_dup hx hb dX6_rests_255 rfl ?_
                          refine va_get (D := D) (ci := 5) (v := .int rm121) (C := RX6) (T := TX6) (N := 30) hx hb hts tbX6 hown hK hP 0 MW_0 rfl 26 (by decide) (hts _ tm_3_27) (fun _ h9 => h9) rfl dX6_rests_256 ?_
                          refine lv_iload hx hb dX6_rests_259 (lv_at hl 1 rfl) ?_
                          refine lv_if_eq (tgt := 268) hx hb dX6_rests_261 (by decide) (fun c_261 => ?_) (fun c_261 => ?_)
                          · rw [if_pos c_261] at hT_121
                            refine lv_iconst (v := (0 : Int32)) hx hb dX6_rests_268 (by decide) ?_
                            refine lv_iadd hx hb dX6_rests_269 ?_
                            refine va_put (D := D) (ci := 5) (v := .int (rm121 + (0 : Int32))) (ty := .int) (C := RX6) (T := TX6) (N := 30) hx hb hts tbX6 tyX6 tyX6_ok nmX6 hown hK hP hD hS 0 MW_0 rfl 26 (by decide) (hts _ tm_3_27) (fun _ h9 => h9) rfl (by decide +kernel) rfl rfl (Nat.le_of_ble_eq_true rfl) dX6_rests_270 (fun H locs hP _ hS => ?_)
                            have hP : va_P D vwCl (MW cI cZ q (0 : Int32) textSize place stock (nI n) readStock readCells readParts acts tried soonMany soonWhich kindMany kindFirst (rm121 + (0 : Int32)) (((10 : Int32) * (nI (i_121 / 3))) + (nI (i_121 % 3))) text lies kind readPart page tr42 book kept isKept triedAbout triedIs ga42 value seed) H := hP
                            have hD : va_D A (MW cI cZ q (0 : Int32) textSize place stock (nI n) readStock readCells readParts acts tried soonMany soonWhich kindMany kindFirst (rm121 + (0 : Int32)) (((10 : Int32) * (nI (i_121 / 3))) + (nI (i_121 % 3))) text lies kind readPart page tr42 book kept isKept triedAbout triedIs ga42 value seed) := hD.same (MW_ad.trans MW_ad.symm)
                            refine lv_iinc (v := (nI (i_121 + 1))) (lv' := [(4, .int (nI (i_121 + 1))), (6, .int (nI i_134)), (5, .int is134), (0, .ref (q 0)), (1, .int a1), (2, .int a2), (3, .int a3)]) hx hb dX6_rests_273 hl (k := 2) rfl (nI_up i_121) (by decide) rfl (fun ls hl => ?_)
                            refine lv_goto (tgt := 121) hx hb dX6_rests_276 (by decide) ?_
                            exact ih_121 (i_121 + 1) (rm121 + (0 : Int32)) (((10 : Int32) * (nI (i_121 / 3))) + (nI (i_121 % 3))) ls _ _ (by omega) hT_121 (lv_sub hl [0, 3, 4, 5, 6] rfl) hP hS
                          · rw [if_neg c_261] at hT_121
                            refine lv_iconst (v := (1 : Int32)) hx hb dX6_rests_264 (by decide) ?_
                            refine lv_goto (tgt := 269) hx hb dX6_rests_265 (by decide) ?_
                            refine lv_iadd hx hb dX6_rests_269 ?_
                            refine va_put (D := D) (ci := 5) (v := .int (rm121 + (1 : Int32))) (ty := .int) (C := RX6) (T := TX6) (N := 30) hx hb hts tbX6 tyX6 tyX6_ok nmX6 hown hK hP hD hS 0 MW_0 rfl 26 (by decide) (hts _ tm_3_27) (fun _ h9 => h9) rfl (by decide +kernel) rfl rfl (Nat.le_of_ble_eq_true rfl) dX6_rests_270 (fun H locs hP _ hS => ?_)
                            have hP : va_P D vwCl (MW cI cZ q (0 : Int32) textSize place stock (nI n) readStock readCells readParts acts tried soonMany soonWhich kindMany kindFirst (rm121 + (1 : Int32)) (((10 : Int32) * (nI (i_121 / 3))) + (nI (i_121 % 3))) text lies kind readPart page tr42 book kept isKept triedAbout triedIs ga42 value seed) H := hP
                            have hD : va_D A (MW cI cZ q (0 : Int32) textSize place stock (nI n) readStock readCells readParts acts tried soonMany soonWhich kindMany kindFirst (rm121 + (1 : Int32)) (((10 : Int32) * (nI (i_121 / 3))) + (nI (i_121 % 3))) text lies kind readPart page tr42 book kept isKept triedAbout triedIs ga42 value seed) := hD.same (MW_ad.trans MW_ad.symm)
                            refine lv_iinc (v := (nI (i_121 + 1))) (lv' := [(4, .int (nI (i_121 + 1))), (6, .int (nI i_134)), (5, .int is134), (0, .ref (q 0)), (1, .int a1), (2, .int a2), (3, .int a3)]) hx hb dX6_rests_273 hl (k := 2) rfl (nI_up i_121) (by decide) rfl (fun ls hl => ?_)
                            refine lv_goto (tgt := 121) hx hb dX6_rests_276 (by decide) ?_
                            exact ih_121 (i_121 + 1) (rm121 + (1 : Int32)) (((10 : Int32) * (nI (i_121 / 3))) + (nI (i_121 % 3))) ls _ _ (by omega) hT_121 (lv_sub hl [0, 3, 4, 5, 6] rfl) hP hS
                    | succ d_134 ih_134 =>
                      intro i_134 is134 ls H locs hi_134 hT_134 hl hP hS
                      have hD : va_D A (MW cI cZ q (0 : Int32) textSize place stock (nI n) readStock readCells readParts acts tried soonMany soonWhich kindMany kindFirst rm121 rf121 text lies kind readPart page tr42 book kept isKept triedAbout triedIs ga42 value seed) := hD.same (MW_ad.trans MW_ad.symm)
                      rw [f_X6_rests_l134_s] at hT_134
                      refine lv_iload hx hb dX6_rests_134 (lv_at hl 0 rfl) ?_
                      refine lv_iconst (v := (3 : Int32)) hx hb dX6_rests_136 (by decide) ?_
                      refine lv_icmp_ge (tgt := 219) hx hb dX6_rests_137 (by decide) (fun c_137 => absurd c_137 (nI_ge (b := 3) (by omega) (by omega))) (fun c_137 => ?_)
                      refine lv_iload hx hb dX6_rests_140 (lv_at hl 1 rfl) ?_
                      refine lv_if_eq (tgt := 210) hx hb dX6_rests_142 (by decide) (fun c_142 => ?_) (fun c_142 => ?_)
                      · rw [if_pos c_142] at hT_134
                        refine lv_iconst (v := (0 : Int32)) hx hb dX6_rests_210 (by decide) ?_
                        refine lv_istore (lv' := [(5, .int (0 : Int32)), (6, .int (nI i_134)), (4, .int (nI i_121)), (0, .ref (q 0)), (1, .int a1), (2, .int a2), (3, .int a3)]) hx hb dX6_rests_211 hl (by decide) rfl (fun ls hl => ?_)
                        refine lv_iinc (v := (nI (i_134 + 1))) (lv' := [(6, .int (nI (i_134 + 1))), (5, .int (0 : Int32)), (4, .int (nI i_121)), (0, .ref (q 0)), (1, .int a1), (2, .int a2), (3, .int a3)]) hx hb dX6_rests_213 hl (k := 1) rfl (nI_up i_134) (by decide) rfl (fun ls hl => ?_)
                        refine lv_goto (tgt := 134) hx hb dX6_rests_216 (by decide) ?_
                        exact ih_134 (i_134 + 1) (0 : Int32) ls _ _ (by omega) hT_134 (lv_sub hl [0, 1, 2, 3, 4, 5, 6] rfl) hP hS
                      · rw [if_neg c_142] at hT_134
                        refine lv_aload_n hx hb dX6_rests_145 rfl (lv_at hl 3 rfl) ?_
                        refine va_get (D := D) (ci := 5) (v := .ref (q 12)) (C := RX6) (T := TX6) (N := 30) hx hb hts tbX6 hown hK hP 0 MW_0 rfl 28 (by decide) (hts _ tm_3_29) (fun _ h9 => h9) rfl dX6_rests_146 ?_
                        refine lv_iconst (v := (2 : Int32)) hx hb dX6_rests_149 (by decide) ?_
                        refine lv_iconst (v := (3 : Int32)) hx hb dX6_rests_150 (by decide) ?_
                        refine lv_iload hx hb dX6_rests_151 (lv_at hl 0 rfl) ?_
                        refine lv_imul hx hb dX6_rests_153 ?_
                        refine lv_rw (z := (nI (3 * i_134))) (pk_mul 3 _) ?_
                        refine lv_iload hx hb dX6_rests_154 (lv_at hl 2 rfl) ?_
                        refine lv_iconst (v := (3 : Int32)) hx hb dX6_rests_156 (by decide) ?_
                        refine lv_irem hx hb dX6_rests_157 (by decide) ?_
                        refine lv_rw (z := (jr (nI i_121) (3 : Int32))) rfl ?_
                        refine lv_rw (z := (nI (i_121 % 3))) (jr_nI (d := 3) (by omega) (by omega) (by omega)) ?_
                        refine lv_iadd hx hb dX6_rests_158 ?_
                        refine lv_rw (z := (nI (3 * i_134 + i_121 % 3))) (nI_add _ _) ?_
                        refine lv_imul hx hb dX6_rests_159 ?_
                        refine lv_rw (z := (nI (2 * (3 * i_134 + i_121 % 3)))) (pk_mul 2 _) ?_
                        refine va_iald hx hb hK hP 12 0 MW_12 rfl (vp_in_nI (show (2 * (3 * i_134 + i_121 % 3)) < 18 by omega) (by omega)) dX6_rests_160 ?_
                        refine lv_rw (z := (ga42 (2 * (3 * i_134 + i_121 % 3)))) (congrArg ga42 (nI_clamp (show (2 * (3 * i_134 + i_121 % 3)) < 2 ^ 31 by omega))) ?_
                        refine lv_aload_n hx hb dX6_rests_161 rfl (lv_at hl 3 rfl) ?_
                        refine va_get (D := D) (ci := 5) (v := .ref (q 12)) (C := RX6) (T := TX6) (N := 30) hx hb hts tbX6 hown hK hP 0 MW_0 rfl 28 (by decide) (hts _ tm_3_29) (fun _ h9 => h9) rfl dX6_rests_162 ?_
                        refine lv_iconst (v := (2 : Int32)) hx hb dX6_rests_165 (by decide) ?_
                        refine lv_iload hx hb dX6_rests_166 (lv_at hl 2 rfl) ?_
                        refine lv_imul hx hb dX6_rests_168 ?_
                        refine lv_rw (z := (nI (2 * i_121))) (pk_mul 2 _) ?_
                        refine va_iald hx hb hK hP 12 0 MW_12 rfl (vp_in_nI (show (2 * i_121) < 18 by omega) (by omega)) dX6_rests_169 ?_
                        refine lv_rw (z := (ga42 (2 * i_121))) (congrArg ga42 (nI_clamp (show (2 * i_121) < 2 ^ 31 by omega))) ?_
                        refine lv_icmp_gt (tgt := 210) hx hb dX6_rests_170 (by decide) (fun c_170 => ?_) (fun c_170 => ?_)
                        · rw [if_pos c_170] at hT_134
                          refine lv_iconst (v := (0 : Int32)) hx hb dX6_rests_210 (by decide) ?_
                          refine lv_istore (lv' := [(5, .int (0 : Int32)), (6, .int (nI i_134)), (4, .int (nI i_121)), (0, .ref (q 0)), (1, .int a1), (2, .int a2), (3, .int a3)]) hx hb dX6_rests_211 hl (by decide) rfl (fun ls hl => ?_)
                          refine lv_iinc (v := (nI (i_134 + 1))) (lv' := [(6, .int (nI (i_134 + 1))), (5, .int (0 : Int32)), (4, .int (nI i_121)), (0, .ref (q 0)), (1, .int a1), (2, .int a2), (3, .int a3)]) hx hb dX6_rests_213 hl (k := 1) rfl (nI_up i_134) (by decide) rfl (fun ls hl => ?_)
                          refine lv_goto (tgt := 134) hx hb dX6_rests_216 (by decide) ?_
                          exact ih_134 (i_134 + 1) (0 : Int32) ls _ _ (by omega) hT_134 (lv_sub hl [0, 1, 2, 3, 4, 5, 6] rfl) hP hS
                        · rw [if_neg c_170] at hT_134
                          refine lv_aload_n hx hb dX6_rests_173 rfl (lv_at hl 3 rfl) ?_
                          refine va_get (D := D) (ci := 5) (v := .ref (q 12)) (C := RX6) (T := TX6) (N := 30) hx hb hts tbX6 hown hK hP 0 MW_0 rfl 28 (by decide) (hts _ tm_3_29) (fun _ h9 => h9) rfl dX6_rests_174 ?_
                          refine lv_iconst (v := (2 : Int32)) hx hb dX6_rests_177 (by decide) ?_
                          refine lv_iload hx hb dX6_rests_178 (lv_at hl 2 rfl) ?_
                          refine lv_iload hx hb dX6_rests_180 (lv_at hl 2 rfl) ?_
                          refine lv_iconst (v := (3 : Int32)) hx hb dX6_rests_182 (by decide) ?_
                          refine lv_irem hx hb dX6_rests_183 (by decide) ?_
                          refine lv_rw (z := (jr (nI i_121) (3 : Int32))) rfl ?_
                          refine lv_rw (z := (nI (i_121 % 3))) (jr_nI (d := 3) (by omega) (by omega) (by omega)) ?_
                          refine lv_isub hx hb dX6_rests_184 ?_
                          refine lv_rw (z := (nI (i_121 - i_121 % 3))) (pk_sub (Nat.mod_le _ _)) ?_
                          refine lv_iload hx hb dX6_rests_185 (lv_at hl 0 rfl) ?_
                          refine lv_iadd hx hb dX6_rests_187 ?_
                          refine lv_rw (z := (nI (i_121 - i_121 % 3 + i_134))) (nI_add _ _) ?_
                          refine lv_imul hx hb dX6_rests_188 ?_
                          refine lv_rw (z := (nI (2 * (i_121 - i_121 % 3 + i_134)))) (pk_mul 2 _) ?_
                          refine lv_iconst (v := (1 : Int32)) hx hb dX6_rests_189 (by decide) ?_
                          refine lv_iadd hx hb dX6_rests_190 ?_
                          refine lv_rw (z := (nI (2 * (i_121 - i_121 % 3 + i_134) + 1))) (nI_1 _) ?_
                          refine va_iald hx hb hK hP 12 0 MW_12 rfl (vp_in_nI (show (2 * (i_121 - i_121 % 3 + i_134) + 1) < 18 by omega) (by omega)) dX6_rests_191 ?_
                          refine lv_rw (z := (ga42 (2 * (i_121 - i_121 % 3 + i_134) + 1))) (congrArg ga42 (nI_clamp (show (2 * (i_121 - i_121 % 3 + i_134) + 1) < 2 ^ 31 by omega))) ?_
                          refine lv_aload_n hx hb dX6_rests_192 rfl (lv_at hl 3 rfl) ?_
                          refine va_get (D := D) (ci := 5) (v := .ref (q 12)) (C := RX6) (T := TX6) (N := 30) hx hb hts tbX6 hown hK hP 0 MW_0 rfl 28 (by decide) (hts _ tm_3_29) (fun _ h9 => h9) rfl dX6_rests_193 ?_
                          refine lv_iconst (v := (2 : Int32)) hx hb dX6_rests_196 (by decide) ?_
                          refine lv_iload hx hb dX6_rests_197 (lv_at hl 2 rfl) ?_
                          refine lv_imul hx hb dX6_rests_199 ?_
                          refine lv_rw (z := (nI (2 * i_121))) (pk_mul 2 _) ?_
                          refine lv_iconst (v := (1 : Int32)) hx hb dX6_rests_200 (by decide) ?_
                          refine lv_iadd hx hb dX6_rests_201 ?_
                          refine lv_rw (z := (nI (2 * i_121 + 1))) (nI_1 _) ?_
                          refine va_iald hx hb hK hP 12 0 MW_12 rfl (vp_in_nI (show (2 * i_121 + 1) < 18 by omega) (by omega)) dX6_rests_202 ?_
                          refine lv_rw (z := (ga42 (2 * i_121 + 1))) (congrArg ga42 (nI_clamp (show (2 * i_121 + 1) < 2 ^ 31 by omega))) ?_
                          refine lv_icmp_gt (tgt := 210) hx hb dX6_rests_203 (by decide) (fun c_203 => ?_) (fun c_203 => ?_)
                          · rw [if_pos c_203] at hT_134
                            refine lv_iconst (v := (0 : Int32)) hx hb dX6_rests_210 (by decide) ?_
                            refine lv_istore (lv' := [(5, .int (0 : Int32)), (6, .int (nI i_134)), (4, .int (nI i_121)), (0, .ref (q 0)), (1, .int a1), (2, .int a2), (3, .int a3)]) hx hb dX6_rests_211 hl (by decide) rfl (fun ls hl => ?_)
                            refine lv_iinc (v := (nI (i_134 + 1))) (lv' := [(6, .int (nI (i_134 + 1))), (5, .int (0 : Int32)), (4, .int (nI i_121)), (0, .ref (q 0)), (1, .int a1), (2, .int a2), (3, .int a3)]) hx hb dX6_rests_213 hl (k := 1) rfl (nI_up i_134) (by decide) rfl (fun ls hl => ?_)
                            refine lv_goto (tgt := 134) hx hb dX6_rests_216 (by decide) ?_
                            exact ih_134 (i_134 + 1) (0 : Int32) ls _ _ (by omega) hT_134 (lv_sub hl [0, 1, 2, 3, 4, 5, 6] rfl) hP hS
                          · rw [if_neg c_203] at hT_134
                            refine lv_iconst (v := (1 : Int32)) hx hb dX6_rests_206 (by decide) ?_
                            refine lv_goto (tgt := 211) hx hb dX6_rests_207 (by decide) ?_
                            refine lv_istore (lv' := [(5, .int (1 : Int32)), (6, .int (nI i_134)), (4, .int (nI i_121)), (0, .ref (q 0)), (1, .int a1), (2, .int a2), (3, .int a3)]) hx hb dX6_rests_211 hl (by decide) rfl (fun ls hl => ?_)
                            refine lv_iinc (v := (nI (i_134 + 1))) (lv' := [(6, .int (nI (i_134 + 1))), (5, .int (1 : Int32)), (4, .int (nI i_121)), (0, .ref (q 0)), (1, .int a1), (2, .int a2), (3, .int a3)]) hx hb dX6_rests_213 hl (k := 1) rfl (nI_up i_134) (by decide) rfl (fun ls hl => ?_)
                            refine lv_goto (tgt := 134) hx hb dX6_rests_216 (by decide) ?_
                            exact ih_134 (i_134 + 1) (1 : Int32) ls _ _ (by omega) hT_134 (lv_sub hl [0, 1, 2, 3, 4, 5, 6] rfl) hP hS
                  exact key_134 3 0 (1 : Int32) ls _ _ (by omega) hT_134 (lv_sub hl [0, 1, 2, 3, 4, 5, 6] rfl) hP hS
              exact key_121 9 0 (0 : Int32) (-9 : Int32) ls _ _ (by omega) hT_121 (lv_sub hl [0, 1, 2, 3, 4] rfl) hP hS
            | succ d_42 ih_42 =>
              intro i_42 tr42 ga42 ls H locs hi_42 hT_42 hl hP hS
              have hD : va_D A (MW cI cZ q (0 : Int32) textSize place stock (nI n) readStock readCells readParts acts tried soonMany soonWhich kindMany kindFirst restMany restFirst text lies kind readPart page tr42 book kept isKept triedAbout triedIs ga42 value seed) := hD.same (MW_ad.trans MW_ad.symm)
              rw [f_X6_rests_l42_s] at hT_42
              refine lv_iload hx hb dX6_rests_42 (lv_at hl 0 rfl) ?_
              refine lv_bipush (v := (9 : Int32)) hx hb dX6_rests_44 (by decide) ?_
              refine lv_icmp_ge (tgt := 107) hx hb dX6_rests_46 (by decide) (fun c_46 => absurd c_46 (nI_ge (b := 9) (by omega) (by omega))) (fun c_46 => ?_)
              refine lv_aload_n hx hb dX6_rests_49 rfl (lv_at hl 1 rfl) ?_
              refine vWrV (b := (q 0)) (As := []) (rest := []) hF (c_X6_begin l D cI cZ q (0 : Int32) textSize place stock (nI n) readStock readCells readParts acts tried soonMany soonWhich kindMany kindFirst restMany restFirst text lies kind readPart page tr42 book kept isKept triedAbout triedIs ga42 value seed) (gdV tm_3_137 tm_3_139 tp_13 tm_1_6 tm_3_140) de_X6_begin ⟨Nat.le_of_ble_eq_true rfl, Nat.le_of_ble_eq_true rfl⟩ hP hK (va_recv hK hP (ci := 5) (q0 := 0) rfl MW_0) hl.1 rfl (Nat.le_of_ble_eq_true rfl) dX6_rests_50 ⟨Nat.zero_le _, Nat.zero_le _⟩ hD hS (fun H locs hP hS => ?_)
              have hP : va_P D vwCl (MW cI cZ q (0 : Int32) textSize place stock (nI n) readStock readCells readParts acts tried soonMany soonWhich kindMany kindFirst restMany restFirst text lies kind readPart page (f_X6_begin page tr42) book kept isKept triedAbout triedIs ga42 value seed) H := hP
              have hD : va_D A (MW cI cZ q (0 : Int32) textSize place stock (nI n) readStock readCells readParts acts tried soonMany soonWhich kindMany kindFirst restMany restFirst text lies kind readPart page (f_X6_begin page tr42) book kept isKept triedAbout triedIs ga42 value seed) := hD.same (MW_ad.trans MW_ad.symm)
              refine lv_aload_n hx hb dX6_rests_53 rfl (lv_at hl 1 rfl) ?_
              refine lv_iload_n hx hb dX6_rests_54 rfl (lv_at hl 2 rfl) ?_
              refine lv_rw (z := (nI a1.toNatClampNeg)) hc1 ?_
              refine lv_iload hx hb dX6_rests_55 (lv_at hl 0 rfl) ?_
              refine lv_iconst (v := (3 : Int32)) hx hb dX6_rests_57 (by decide) ?_
              refine lv_idiv hx hb dX6_rests_58 (by decide) ?_
              refine lv_rw (z := (nI (i_42 / 3))) (pk_div (d := 3) (by omega) (by omega) (by omega)) ?_
              refine vWrV (b := (q 0)) (As := [.int (nI a1.toNatClampNeg), .int (nI (i_42 / 3))]) (rest := []) hF (c_X6_chooses l D cI cZ q (0 : Int32) textSize place stock n readStock readCells readParts acts tried soonMany soonWhich kindMany kindFirst restMany restFirst text lies kind readPart page (f_X6_begin page tr42) book kept isKept triedAbout triedIs ga42 value seed a1.toNatClampNeg (nI (i_42 / 3)) hn7 hc2 cl hcl) (gdV tm_4_52 tm_4_54 tp_29 tm_1_6 tm_4_55) de_X6_chooses ⟨Nat.le_of_ble_eq_true rfl, Nat.le_of_ble_eq_true rfl⟩ hP hK (va_recv hK hP (ci := 5) (q0 := 0) rfl MW_0) hl.1 rfl (Nat.le_of_ble_eq_true rfl) dX6_rests_59 ⟨Nat.zero_le _, Nat.zero_le _⟩ hD hS (fun H locs hP hS => ?_)
              have hP : va_P D vwCl (MW cI cZ q (0 : Int32) textSize place stock (nI n) readStock readCells readParts acts tried soonMany soonWhich kindMany kindFirst restMany restFirst text lies kind readPart page (f_X6_chooses cl n a1.toNatClampNeg lies kind (f_X6_begin page tr42) (nI (i_42 / 3))) book kept isKept triedAbout triedIs ga42 value seed) H := hP
              have hD : va_D A (MW cI cZ q (0 : Int32) textSize place stock (nI n) readStock readCells readParts acts tried soonMany soonWhich kindMany kindFirst restMany restFirst text lies kind readPart page (f_X6_chooses cl n a1.toNatClampNeg lies kind (f_X6_begin page tr42) (nI (i_42 / 3))) book kept isKept triedAbout triedIs ga42 value seed) := hD.same (MW_ad.trans MW_ad.symm)
              refine lv_aload_n hx hb dX6_rests_62 rfl (lv_at hl 1 rfl) ?_
              refine lv_iload_n hx hb dX6_rests_63 rfl (lv_at hl 3 rfl) ?_
              refine lv_rw (z := (nI a2.toNatClampNeg)) hd1 ?_
              refine lv_iload hx hb dX6_rests_64 (lv_at hl 0 rfl) ?_
              refine lv_iconst (v := (3 : Int32)) hx hb dX6_rests_66 (by decide) ?_
              refine lv_irem hx hb dX6_rests_67 (by decide) ?_
              refine lv_rw (z := (jr (nI i_42) (3 : Int32))) rfl ?_
              refine lv_rw (z := (nI (i_42 % 3))) (jr_nI (d := 3) (by omega) (by omega) (by omega)) ?_
              refine vWrV (b := (q 0)) (As := [.int (nI a2.toNatClampNeg), .int (nI (i_42 % 3))]) (rest := []) hF (c_X6_chooses l D cI cZ q (0 : Int32) textSize place stock n readStock readCells readParts acts tried soonMany soonWhich kindMany kindFirst restMany restFirst text lies kind readPart page (f_X6_chooses cl n a1.toNatClampNeg lies kind (f_X6_begin page tr42) (nI (i_42 / 3))) book kept isKept triedAbout triedIs ga42 value seed a2.toNatClampNeg (nI (i_42 % 3)) hn7 hd2 cl hcl) (gdV tm_4_52 tm_4_54 tp_29 tm_1_6 tm_4_55) de_X6_chooses ⟨Nat.le_of_ble_eq_true rfl, Nat.le_of_ble_eq_true rfl⟩ hP hK (va_recv hK hP (ci := 5) (q0 := 0) rfl MW_0) hl.1 rfl (Nat.le_of_ble_eq_true rfl) dX6_rests_68 ⟨Nat.zero_le _, Nat.zero_le _⟩ hD hS (fun H locs hP hS => ?_)
              have hP : va_P D vwCl (MW cI cZ q (0 : Int32) textSize place stock (nI n) readStock readCells readParts acts tried soonMany soonWhich kindMany kindFirst restMany restFirst text lies kind readPart page (f_X6_chooses cl n a2.toNatClampNeg lies kind (f_X6_chooses cl n a1.toNatClampNeg lies kind (f_X6_begin page tr42) (nI (i_42 / 3))) (nI (i_42 % 3))) book kept isKept triedAbout triedIs ga42 value seed) H := hP
              have hD : va_D A (MW cI cZ q (0 : Int32) textSize place stock (nI n) readStock readCells readParts acts tried soonMany soonWhich kindMany kindFirst restMany restFirst text lies kind readPart page (f_X6_chooses cl n a2.toNatClampNeg lies kind (f_X6_chooses cl n a1.toNatClampNeg lies kind (f_X6_begin page tr42) (nI (i_42 / 3))) (nI (i_42 % 3))) book kept isKept triedAbout triedIs ga42 value seed) := hD.same (MW_ad.trans MW_ad.symm)
              refine lv_aload_n hx hb dX6_rests_71 rfl (lv_at hl 1 rfl) ?_
              refine va_get (D := D) (ci := 5) (v := .ref (q 12)) (C := RX6) (T := TX6) (N := 30) hx hb hts tbX6 hown hK hP 0 MW_0 rfl 28 (by decide) (hts _ tm_3_29) (fun _ h9 => h9) rfl dX6_rests_72 ?_
              refine lv_iconst (v := (2 : Int32)) hx hb dX6_rests_75 (by decide) ?_
              refine lv_iload hx hb dX6_rests_76 (lv_at hl 0 rfl) ?_
              refine lv_imul hx hb dX6_rests_78 ?_
              refine lv_rw (z := (nI (2 * i_42))) (pk_mul 2 _) ?_
              refine lv_aload_n hx hb dX6_rests_79 rfl (lv_at hl 1 rfl) ?_
              refine lv_iload_n hx hb dX6_rests_80 rfl (lv_at hl 2 rfl) ?_
              refine lv_rw (z := (nI a1.toNatClampNeg)) hc1 ?_
              refine vRdI (b := (q 0)) (As := [.int (nI a1.toNatClampNeg)]) (rest := [.int (nI (2 * i_42)), .ref (q 12)]) hF (c_X6_gain l D cI cZ q (0 : Int32) textSize place stock n readStock readCells readParts acts tried soonMany soonWhich kindMany kindFirst restMany restFirst text lies kind readPart page (f_X6_chooses cl n a2.toNatClampNeg lies kind (f_X6_chooses cl n a1.toNatClampNeg lies kind (f_X6_begin page tr42) (nI (i_42 / 3))) (nI (i_42 % 3))) book kept isKept triedAbout triedIs ga42 value seed a1.toNatClampNeg hn7 hc2) (gdV tm_4_56 tm_4_58 tp_30 tm_1_6 tm_4_59) de_X6_gain ⟨Nat.le_of_ble_eq_true rfl, Nat.le_of_ble_eq_true rfl⟩ hP hK (va_recv hK hP (ci := 5) (q0 := 0) rfl MW_0) hl.1 rfl (Nat.le_of_ble_eq_true rfl) dX6_rests_81 ⟨Nat.zero_le _, Nat.zero_le _⟩ ?_
              refine va_iast hx hb hK hP hD hS 12 0 MW_12 rfl (vp_in_nI (show (2 * i_42) < 18 by omega) (by omega)) dX6_rests_84 (fun H locs hP _ hS => ?_)
              have hP : va_P D vwCl (MW cI cZ q (0 : Int32) textSize place stock (nI n) readStock readCells readParts acts tried soonMany soonWhich kindMany kindFirst restMany restFirst text lies kind readPart page (f_X6_chooses cl n a2.toNatClampNeg lies kind (f_X6_chooses cl n a1.toNatClampNeg lies kind (f_X6_begin page tr42) (nI (i_42 / 3))) (nI (i_42 % 3))) book kept isKept triedAbout triedIs (upd ga42 (nI (2 * i_42)).toNatClampNeg (f_X6_gain n a1.toNatClampNeg lies (f_X6_chooses cl n a2.toNatClampNeg lies kind (f_X6_chooses cl n a1.toNatClampNeg lies kind (f_X6_begin page tr42) (nI (i_42 / 3))) (nI (i_42 % 3))))) value seed) H := hP
              rw [(nI_clamp (show (2 * i_42) < 2 ^ 31 by omega))] at hP
              have hD : va_D A (MW cI cZ q (0 : Int32) textSize place stock (nI n) readStock readCells readParts acts tried soonMany soonWhich kindMany kindFirst restMany restFirst text lies kind readPart page (f_X6_chooses cl n a2.toNatClampNeg lies kind (f_X6_chooses cl n a1.toNatClampNeg lies kind (f_X6_begin page tr42) (nI (i_42 / 3))) (nI (i_42 % 3))) book kept isKept triedAbout triedIs (upd ga42 (2 * i_42) (f_X6_gain n a1.toNatClampNeg lies (f_X6_chooses cl n a2.toNatClampNeg lies kind (f_X6_chooses cl n a1.toNatClampNeg lies kind (f_X6_begin page tr42) (nI (i_42 / 3))) (nI (i_42 % 3))))) value seed) := hD.same (MW_ad.trans MW_ad.symm)
              refine lv_aload_n hx hb dX6_rests_85 rfl (lv_at hl 1 rfl) ?_
              refine va_get (D := D) (ci := 5) (v := .ref (q 12)) (C := RX6) (T := TX6) (N := 30) hx hb hts tbX6 hown hK hP 0 MW_0 rfl 28 (by decide) (hts _ tm_3_29) (fun _ h9 => h9) rfl dX6_rests_86 ?_
              refine lv_iconst (v := (2 : Int32)) hx hb dX6_rests_89 (by decide) ?_
              refine lv_iload hx hb dX6_rests_90 (lv_at hl 0 rfl) ?_
              refine lv_imul hx hb dX6_rests_92 ?_
              refine lv_rw (z := (nI (2 * i_42))) (pk_mul 2 _) ?_
              refine lv_iconst (v := (1 : Int32)) hx hb dX6_rests_93 (by decide) ?_
              refine lv_iadd hx hb dX6_rests_94 ?_
              refine lv_rw (z := (nI (2 * i_42 + 1))) (nI_1 _) ?_
              refine lv_aload_n hx hb dX6_rests_95 rfl (lv_at hl 1 rfl) ?_
              refine lv_iload_n hx hb dX6_rests_96 rfl (lv_at hl 3 rfl) ?_
              refine lv_rw (z := (nI a2.toNatClampNeg)) hd1 ?_
              refine vRdI (b := (q 0)) (As := [.int (nI a2.toNatClampNeg)]) (rest := [.int (nI (2 * i_42 + 1)), .ref (q 12)]) hF (c_X6_gain l D cI cZ q (0 : Int32) textSize place stock n readStock readCells readParts acts tried soonMany soonWhich kindMany kindFirst restMany restFirst text lies kind readPart page (f_X6_chooses cl n a2.toNatClampNeg lies kind (f_X6_chooses cl n a1.toNatClampNeg lies kind (f_X6_begin page tr42) (nI (i_42 / 3))) (nI (i_42 % 3))) book kept isKept triedAbout triedIs (upd ga42 (2 * i_42) (f_X6_gain n a1.toNatClampNeg lies (f_X6_chooses cl n a2.toNatClampNeg lies kind (f_X6_chooses cl n a1.toNatClampNeg lies kind (f_X6_begin page tr42) (nI (i_42 / 3))) (nI (i_42 % 3))))) value seed a2.toNatClampNeg hn7 hd2) (gdV tm_4_56 tm_4_58 tp_30 tm_1_6 tm_4_59) de_X6_gain ⟨Nat.le_of_ble_eq_true rfl, Nat.le_of_ble_eq_true rfl⟩ hP hK (va_recv hK hP (ci := 5) (q0 := 0) rfl MW_0) hl.1 rfl (Nat.le_of_ble_eq_true rfl) dX6_rests_97 ⟨Nat.zero_le _, Nat.zero_le _⟩ ?_
              refine va_iast hx hb hK hP hD hS 12 0 MW_12 rfl (vp_in_nI (show (2 * i_42 + 1) < 18 by omega) (by omega)) dX6_rests_100 (fun H locs hP _ hS => ?_)
              have hP : va_P D vwCl (MW cI cZ q (0 : Int32) textSize place stock (nI n) readStock readCells readParts acts tried soonMany soonWhich kindMany kindFirst restMany restFirst text lies kind readPart page (f_X6_chooses cl n a2.toNatClampNeg lies kind (f_X6_chooses cl n a1.toNatClampNeg lies kind (f_X6_begin page tr42) (nI (i_42 / 3))) (nI (i_42 % 3))) book kept isKept triedAbout triedIs (upd (upd ga42 (2 * i_42) (f_X6_gain n a1.toNatClampNeg lies (f_X6_chooses cl n a2.toNatClampNeg lies kind (f_X6_chooses cl n a1.toNatClampNeg lies kind (f_X6_begin page tr42) (nI (i_42 / 3))) (nI (i_42 % 3))))) (nI (2 * i_42 + 1)).toNatClampNeg (f_X6_gain n a2.toNatClampNeg lies (f_X6_chooses cl n a2.toNatClampNeg lies kind (f_X6_chooses cl n a1.toNatClampNeg lies kind (f_X6_begin page tr42) (nI (i_42 / 3))) (nI (i_42 % 3))))) value seed) H := hP
              rw [(nI_clamp (show (2 * i_42 + 1) < 2 ^ 31 by omega))] at hP
              have hD : va_D A (MW cI cZ q (0 : Int32) textSize place stock (nI n) readStock readCells readParts acts tried soonMany soonWhich kindMany kindFirst restMany restFirst text lies kind readPart page (f_X6_chooses cl n a2.toNatClampNeg lies kind (f_X6_chooses cl n a1.toNatClampNeg lies kind (f_X6_begin page tr42) (nI (i_42 / 3))) (nI (i_42 % 3))) book kept isKept triedAbout triedIs (upd (upd ga42 (2 * i_42) (f_X6_gain n a1.toNatClampNeg lies (f_X6_chooses cl n a2.toNatClampNeg lies kind (f_X6_chooses cl n a1.toNatClampNeg lies kind (f_X6_begin page tr42) (nI (i_42 / 3))) (nI (i_42 % 3))))) (2 * i_42 + 1) (f_X6_gain n a2.toNatClampNeg lies (f_X6_chooses cl n a2.toNatClampNeg lies kind (f_X6_chooses cl n a1.toNatClampNeg lies kind (f_X6_begin page tr42) (nI (i_42 / 3))) (nI (i_42 % 3))))) value seed) := hD.same (MW_ad.trans MW_ad.symm)
              refine lv_iinc (v := (nI (i_42 + 1))) (lv' := [(4, .int (nI (i_42 + 1))), (0, .ref (q 0)), (1, .int a1), (2, .int a2), (3, .int a3)]) hx hb dX6_rests_101 hl (k := 0) rfl (nI_up i_42) (by decide) rfl (fun ls hl => ?_)
              refine lv_goto (tgt := 42) hx hb dX6_rests_104 (by decide) ?_
              exact ih_42 (i_42 + 1) (f_X6_chooses cl n a2.toNatClampNeg lies kind (f_X6_chooses cl n a1.toNatClampNeg lies kind (f_X6_begin page tr42) (nI (i_42 / 3))) (nI (i_42 % 3))) (upd (upd ga42 (2 * i_42) (f_X6_gain n a1.toNatClampNeg lies (f_X6_chooses cl n a2.toNatClampNeg lies kind (f_X6_chooses cl n a1.toNatClampNeg lies kind (f_X6_begin page tr42) (nI (i_42 / 3))) (nI (i_42 % 3))))) (2 * i_42 + 1) (f_X6_gain n a2.toNatClampNeg lies (f_X6_chooses cl n a2.toNatClampNeg lies kind (f_X6_chooses cl n a1.toNatClampNeg lies kind (f_X6_begin page tr42) (nI (i_42 / 3))) (nI (i_42 % 3))))) ls _ _ (by omega) hT_42 (lv_sub hl [0, 1, 2, 3, 4] rfl) hP hS
          exact key_42 9 0 trial gains ls _ _ (by omega) hT_42 (lv_sub hl [0, 1, 2, 3, 4] rfl) hP hS
        · rw [if_pos c_33] at hR
          refine lv_bipush (v := (-2 : Int32)) hx hb dX6_rests_36 (by decide) ?_
          subst hR
          exact fin _ _ _ _ dX6_rests_38 (nar_i _) hP hS
    · rw [if_neg c_16] at hR
      refine lv_iconst (v := (-1 : Int32)) hx hb dX6_rests_19 (by decide) ?_
      subst hR
      exact fin _ _ _ _ dX6_rests_20 (nar_i _) hP hS
