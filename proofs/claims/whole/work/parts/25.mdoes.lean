theorem de_X6_strikes : deOK yX6_strikes 1 := by decide +kernel
theorem de_X6_does : deOK yX6_does 1 := by decide +kernel
theorem de_X6_judge : deOK yX6_judge 2 := by decide +kernel
def f_X6_strikes (cl : Nat → Nat) (n : Nat) (lies : Nat → Int32) (kind : Nat → Int32) (trial : Nat → Int32) (a1 : Int32) : (Int32) × (Nat → Int32) := (if (f_X6_noColumn a1) = (0 : Int32) then (if (trial a1.toNatClampNeg) ≤ (0 : Int32) then ((0 : Int32), trial) else ((1 : Int32), (f_X6_goStrike cl n a1.toNatClampNeg lies kind trial).2)) else ((0 : Int32), trial))
set_option maxHeartbeats 4000000 in
set_option maxRecDepth 100000 in
theorem c_X6_strikes (l : Launch) (D : va_G) (cI cZ : ClassId) (q : Nat → Nat) (thrown : Int32) (textSize : Int32) (place : Int32) (stock : Int32) (n : Nat) (readStock : Int32) (readCells : Int32) (readParts : Int32) (acts : Int32) (tried : Int32) (soonMany : Int32) (soonWhich : Int32) (kindMany : Int32) (kindFirst : Int32) (restMany : Int32) (restFirst : Int32) (text lies kind readPart page trial book kept isKept triedAbout triedIs gains value : Nat → Int32) (seed : Int64) (a1 : Int32) (hn7 : n ≤ 7) (cl : Nat → Nat) (hcl : ∀ j, j < 7 → lies j = nI (cl j) ∧ cl j < 16) : WrI l yX6_strikes cX6_strikes 3 .boolean 7 164 D (tyL cI cZ) (MW cI cZ q thrown textSize place stock (nI n) readStock readCells readParts acts tried soonMany soonWhich kindMany kindFirst restMany restFirst text lies kind readPart page trial book kept isKept triedAbout triedIs gains value seed) [.ref (q 0), .int a1] (f_X6_strikes cl n lies kind trial a1).1 (MW cI cZ q thrown textSize place stock (nI n) readStock readCells readParts acts tried soonMany soonWhich kindMany kindFirst restMany restFirst text lies kind readPart page (f_X6_strikes cl n lies kind trial a1).2 book kept isKept triedAbout triedIs gains value seed) := by
  refine WrI.of (by decide) (Nat.le_of_ble_eq_true rfl) ?_
  intro p e s m args below meth c Q A hx hb hml hown hts hP hK hD hS fin ls hl
  have hown : s.vm.findClass RX6 = some m.cls := hown
  have hF : CallFix p m c cX6_strikes 3 s args tb RX6 := ⟨hx, hb, hml, hown, hts⟩
  have hl : lv_has ls 3 [(0, .ref (q 0)), (1, .int a1)] := hl
  generalize hR : (f_X6_strikes cl n lies kind trial a1) = R at fin
  unfold f_X6_strikes at hR
  refine lv_iload_n hx hb dX6_strikes_0 rfl (lv_at hl 1 rfl) ?_
  refine sRdI (As := [.int a1]) (rest := []) hF (c_X6_noColumn l D cI cZ q a1) (gdS tm_3_161 tm_3_162 tm_1_6 tm_3_163) de_X6_noColumn ⟨Nat.le_of_ble_eq_true rfl, Nat.le_of_ble_eq_true rfl⟩ va_P_nil hK hl.1 rfl (Nat.le_of_ble_eq_true rfl) dX6_strikes_1 ⟨Nat.zero_le _, Nat.zero_le _⟩ ?_
  refine lv_if_ne (tgt := 20) hx hb dX6_strikes_4 (by decide) (fun c_4 => ?_) (fun c_4 => ?_)
  · rw [if_neg c_4] at hR
    refine lv_iconst (v := (0 : Int32)) hx hb dX6_strikes_20 (by decide) ?_
    refine lv_istore_n (lv' := [(2, .int (0 : Int32)), (0, .ref (q 0)), (1, .int a1)]) hx hb dX6_strikes_21 rfl hl (by decide) rfl (fun ls hl => ?_)
    refine lv_iload_n hx hb dX6_strikes_22 rfl (lv_at hl 0 rfl) ?_
    refine lv_if_eq (tgt := 36) hx hb dX6_strikes_23 (by decide) (fun c_23 => ?_) (fun c_23 => absurd (by decide) c_23)
    refine lv_iload_n hx hb dX6_strikes_36 rfl (lv_at hl 0 rfl) ?_
    subst hR
    exact fin _ _ _ _ dX6_strikes_37 (nar_b (Or.inl rfl)) hP hS
  · rw [if_pos c_4] at hR
    have hc1 := noCol_nI c_4
    have hc2 := noCol_lt c_4
    refine lv_aload_n hx hb dX6_strikes_7 rfl (lv_at hl 0 rfl) ?_
    refine va_get (D := D) (ci := 5) (v := .ref (q 6)) (C := RX6) (T := TX6) (N := 30) hx hb hts tbX6 hown hK hP 0 MW_0 rfl 13 (by decide) (hts _ tm_3_14) (fun _ h9 => h9) rfl dX6_strikes_8 ?_
    refine lv_iload_n hx hb dX6_strikes_11 rfl (lv_at hl 1 rfl) ?_
    refine lv_rw (z := (nI a1.toNatClampNeg)) (noCol_nI c_4) ?_
    refine va_iald hx hb hK hP 6 0 MW_6 rfl (vp_in_nI (show a1.toNatClampNeg < 7 by omega) (by omega)) dX6_strikes_12 ?_
    refine lv_rw (z := (trial a1.toNatClampNeg)) (congrArg trial (nI_clamp (show a1.toNatClampNeg < 2 ^ 31 by omega))) ?_
    refine lv_if_le (tgt := 20) hx hb dX6_strikes_13 (by decide) (fun c_13 => ?_) (fun c_13 => ?_)
    · rw [if_pos c_13] at hR
      refine lv_iconst (v := (0 : Int32)) hx hb dX6_strikes_20 (by decide) ?_
      refine lv_istore_n (lv' := [(2, .int (0 : Int32)), (0, .ref (q 0)), (1, .int a1)]) hx hb dX6_strikes_21 rfl hl (by decide) rfl (fun ls hl => ?_)
      refine lv_iload_n hx hb dX6_strikes_22 rfl (lv_at hl 0 rfl) ?_
      refine lv_if_eq (tgt := 36) hx hb dX6_strikes_23 (by decide) (fun c_23 => ?_) (fun c_23 => absurd (by decide) c_23)
      refine lv_iload_n hx hb dX6_strikes_36 rfl (lv_at hl 0 rfl) ?_
      subst hR
      exact fin _ _ _ _ dX6_strikes_37 (nar_b (Or.inl rfl)) hP hS
    · rw [if_neg c_13] at hR
      refine lv_iconst (v := (1 : Int32)) hx hb dX6_strikes_16 (by decide) ?_
      refine lv_goto (tgt := 21) hx hb dX6_strikes_17 (by decide) ?_
      refine lv_istore_n (lv' := [(2, .int (1 : Int32)), (0, .ref (q 0)), (1, .int a1)]) hx hb dX6_strikes_21 rfl hl (by decide) rfl (fun ls hl => ?_)
      refine lv_iload_n hx hb dX6_strikes_22 rfl (lv_at hl 0 rfl) ?_
      refine lv_if_eq (tgt := 36) hx hb dX6_strikes_23 (by decide) (fun c_23 => absurd c_23 (by decide)) (fun c_23 => ?_)
      refine lv_aload_n hx hb dX6_strikes_26 rfl (lv_at hl 1 rfl) ?_
      refine lv_aload_n hx hb dX6_strikes_27 rfl (lv_at hl 1 rfl) ?_
      refine va_get (D := D) (ci := 5) (v := .ref (q 6)) (C := RX6) (T := TX6) (N := 30) hx hb hts tbX6 hown hK hP 0 MW_0 rfl 13 (by decide) (hts _ tm_3_14) (fun _ h9 => h9) rfl dX6_strikes_28 ?_
      refine lv_iload_n hx hb dX6_strikes_31 rfl (lv_at hl 2 rfl) ?_
      refine lv_rw (z := (nI a1.toNatClampNeg)) (noCol_nI c_4) ?_
      refine vWrI (b := (q 0)) (As := [.ref (q 6), .int (nI a1.toNatClampNeg)]) (rest := []) hF (c_X6_goStrike_trial l D cI cZ q thrown textSize place stock n readStock readCells readParts acts tried soonMany soonWhich kindMany kindFirst restMany restFirst text lies kind readPart page trial book kept isKept triedAbout triedIs gains value seed a1.toNatClampNeg hn7 (noCol_lt c_4) cl hcl) (gdV tm_3_206 tm_3_208 tp_23 tm_1_6 tm_3_209) de_X6_goStrike ⟨Nat.le_of_ble_eq_true rfl, Nat.le_of_ble_eq_true rfl⟩ hP hK (va_recv hK hP (ci := 5) (q0 := 0) rfl MW_0) hl.1 rfl (Nat.le_of_ble_eq_true rfl) dX6_strikes_32 ⟨Nat.zero_le _, Nat.zero_le _⟩ hD hS (fun H locs hP hS => ?_)
      have hP : va_P D vwCl (MW cI cZ q thrown textSize place stock (nI n) readStock readCells readParts acts tried soonMany soonWhich kindMany kindFirst restMany restFirst text lies kind readPart page (f_X6_goStrike cl n a1.toNatClampNeg lies kind trial).2 book kept isKept triedAbout triedIs gains value seed) H := hP
      have hD : va_D A (MW cI cZ q thrown textSize place stock (nI n) readStock readCells readParts acts tried soonMany soonWhich kindMany kindFirst restMany restFirst text lies kind readPart page (f_X6_goStrike cl n a1.toNatClampNeg lies kind trial).2 book kept isKept triedAbout triedIs gains value seed) := hD.same (MW_ad.trans MW_ad.symm)
      refine lv_pop hx hb dX6_strikes_35 rfl ?_
      refine lv_iload_n hx hb dX6_strikes_36 rfl (lv_at hl 0 rfl) ?_
      subst hR
      exact fin _ _ _ _ dX6_strikes_37 (nar_b (Or.inr rfl)) hP hS
def f_X6_does (cl : Nat → Nat) (n : Nat) (lies : Nat → Int32) (kind : Nat → Int32) (trial : Nat → Int32) (a1 : Int32) : (Int32) × (Nat → Int32) := (if a1 = (300 : Int32) then ((1 : Int32), (f_X6_goRain cl n lies kind trial).2) else (if (a1 / (100 : Int32)) = (5 : Int32) then (if (f_X6_noColumn (jr (a1 / (10 : Int32)) (10 : Int32))) = (0 : Int32) then (if (trial (jr (a1 / (10 : Int32)) (10 : Int32)).toNatClampNeg) < (jr a1 (10 : Int32)) then ((0 : Int32), trial) else ((1 : Int32), trial)) else ((0 : Int32), trial)) else (if (jr (a1 / (10 : Int32)) (10 : Int32)) = (0 : Int32) then (if (a1 / (100 : Int32)) = (1 : Int32) then (if (f_X6_noColumn (jr a1 (10 : Int32))) = (0 : Int32) then (if (f_X6_goPut cl n (jr a1 (10 : Int32)).toNatClampNeg lies kind trial).1 = (0 : Int32) then ((0 : Int32), (f_X6_goPut cl n (jr a1 (10 : Int32)).toNatClampNeg lies kind trial).2) else ((1 : Int32), (f_X6_goPut cl n (jr a1 (10 : Int32)).toNatClampNeg lies kind trial).2)) else ((0 : Int32), trial)) else (if (a1 / (100 : Int32)) = (2 : Int32) then (if (f_X6_strikes cl n lies kind trial (jr a1 (10 : Int32))).1 = (0 : Int32) then (if (a1 / (100 : Int32)) = (4 : Int32) then (if (f_X6_noPart n (jr a1 (10 : Int32))) = (0 : Int32) then (if (f_X6_has ((f_X6_strikes cl n lies kind trial (jr a1 (10 : Int32))).2 5) (jr a1 (10 : Int32))) = (0 : Int32) then ((0 : Int32), (f_X6_strikes cl n lies kind trial (jr a1 (10 : Int32))).2) else ((1 : Int32), (f_X6_strikes cl n lies kind trial (jr a1 (10 : Int32))).2)) else ((0 : Int32), (f_X6_strikes cl n lies kind trial (jr a1 (10 : Int32))).2)) else ((0 : Int32), (f_X6_strikes cl n lies kind trial (jr a1 (10 : Int32))).2)) else ((1 : Int32), (f_X6_strikes cl n lies kind trial (jr a1 (10 : Int32))).2)) else (if (a1 / (100 : Int32)) = (4 : Int32) then (if (f_X6_noPart n (jr a1 (10 : Int32))) = (0 : Int32) then (if (f_X6_has (trial 5) (jr a1 (10 : Int32))) = (0 : Int32) then ((0 : Int32), trial) else ((1 : Int32), trial)) else ((0 : Int32), trial)) else ((0 : Int32), trial)))) else ((0 : Int32), trial))))
set_option maxHeartbeats 4000000 in
set_option maxRecDepth 100000 in
theorem c_X6_does (l : Launch) (D : va_G) (cI cZ : ClassId) (q : Nat → Nat) (thrown : Int32) (textSize : Int32) (place : Int32) (stock : Int32) (n : Nat) (readStock : Int32) (readCells : Int32) (readParts : Int32) (acts : Int32) (tried : Int32) (soonMany : Int32) (soonWhich : Int32) (kindMany : Int32) (kindFirst : Int32) (restMany : Int32) (restFirst : Int32) (text lies kind readPart page trial book kept isKept triedAbout triedIs gains value : Nat → Int32) (seed : Int64) (a1 : Int32) (hn7 : n ≤ 7) (cl : Nat → Nat) (hcl : ∀ j, j < 7 → lies j = nI (cl j) ∧ cl j < 16) : WrI l yX6_does cX6_does 5 .boolean 8 186 D (tyL cI cZ) (MW cI cZ q thrown textSize place stock (nI n) readStock readCells readParts acts tried soonMany soonWhich kindMany kindFirst restMany restFirst text lies kind readPart page trial book kept isKept triedAbout triedIs gains value seed) [.ref (q 0), .int a1] (f_X6_does cl n lies kind trial a1).1 (MW cI cZ q thrown textSize place stock (nI n) readStock readCells readParts acts tried soonMany soonWhich kindMany kindFirst restMany restFirst text lies kind readPart page (f_X6_does cl n lies kind trial a1).2 book kept isKept triedAbout triedIs gains value seed) := by
  refine WrI.of (by decide) (Nat.le_of_ble_eq_true rfl) ?_
  intro p e s m args below meth c Q A hx hb hml hown hts hP hK hD hS fin ls hl
  have hown : s.vm.findClass RX6 = some m.cls := hown
  have hF : CallFix p m c cX6_does 5 s args tb RX6 := ⟨hx, hb, hml, hown, hts⟩
  have hl : lv_has ls 5 [(0, .ref (q 0)), (1, .int a1)] := hl
  generalize hR : (f_X6_does cl n lies kind trial a1) = R at fin
  unfold f_X6_does at hR
  refine lv_iload_n hx hb dX6_does_0 rfl (lv_at hl 1 rfl) ?_
  refine lv_bipush (v := (100 : Int32)) hx hb dX6_does_1 (by decide) ?_
  refine lv_idiv hx hb dX6_does_3 (by decide) ?_
  refine lv_istore_n (lv' := [(2, .int (a1 / (100 : Int32))), (0, .ref (q 0)), (1, .int a1)]) hx hb dX6_does_4 rfl hl (by decide) rfl (fun ls hl => ?_)
  refine lv_iload_n hx hb dX6_does_5 rfl (lv_at hl 2 rfl) ?_
  refine lv_bipush (v := (10 : Int32)) hx hb dX6_does_6 (by decide) ?_
  refine lv_idiv hx hb dX6_does_8 (by decide) ?_
  refine lv_bipush (v := (10 : Int32)) hx hb dX6_does_9 (by decide) ?_
  refine lv_irem hx hb dX6_does_11 (by decide) ?_
  refine lv_rw (z := (jr (a1 / (10 : Int32)) (10 : Int32))) rfl ?_
  refine lv_istore_n (lv' := [(3, .int (jr (a1 / (10 : Int32)) (10 : Int32))), (2, .int (a1 / (100 : Int32))), (0, .ref (q 0)), (1, .int a1)]) hx hb dX6_does_12 rfl hl (by decide) rfl (fun ls hl => ?_)
  refine lv_iload_n hx hb dX6_does_13 rfl (lv_at hl 3 rfl) ?_
  refine lv_bipush (v := (10 : Int32)) hx hb dX6_does_14 (by decide) ?_
  refine lv_irem hx hb dX6_does_16 (by decide) ?_
  refine lv_rw (z := (jr a1 (10 : Int32))) rfl ?_
  refine lv_istore (lv' := [(4, .int (jr a1 (10 : Int32))), (3, .int (jr (a1 / (10 : Int32)) (10 : Int32))), (2, .int (a1 / (100 : Int32))), (0, .ref (q 0)), (1, .int a1)]) hx hb dX6_does_17 hl (by decide) rfl (fun ls hl => ?_)
  refine lv_iload_n hx hb dX6_does_19 rfl (lv_at hl 4 rfl) ?_
  refine lv_sipush (v := (300 : Int32)) hx hb dX6_does_20 (by decide) ?_
  refine lv_icmp_ne (tgt := 37) hx hb dX6_does_23 (by decide) (fun c_23 => ?_) (fun c_23 => ?_)
  · rw [if_neg c_23] at hR
    refine lv_iload_n hx hb dX6_does_37 rfl (lv_at hl 2 rfl) ?_
    refine lv_iconst (v := (5 : Int32)) hx hb dX6_does_38 (by decide) ?_
    refine lv_icmp_ne (tgt := 66) hx hb dX6_does_39 (by decide) (fun c_39 => ?_) (fun c_39 => ?_)
    · rw [if_neg c_39] at hR
      refine lv_iload_n hx hb dX6_does_66 rfl (lv_at hl 1 rfl) ?_
      refine lv_if_eq (tgt := 72) hx hb dX6_does_67 (by decide) (fun c_67 => ?_) (fun c_67 => ?_)
      · rw [if_pos c_67] at hR
        refine lv_iload_n hx hb dX6_does_72 rfl (lv_at hl 2 rfl) ?_
        refine lv_iconst (v := (1 : Int32)) hx hb dX6_does_73 (by decide) ?_
        refine lv_icmp_ne (tgt := 104) hx hb dX6_does_74 (by decide) (fun c_74 => ?_) (fun c_74 => ?_)
        · rw [if_neg c_74] at hR
          refine lv_iload_n hx hb dX6_does_104 rfl (lv_at hl 2 rfl) ?_
          refine lv_iconst (v := (2 : Int32)) hx hb dX6_does_105 (by decide) ?_
          refine lv_icmp_ne (tgt := 118) hx hb dX6_does_106 (by decide) (fun c_106 => ?_) (fun c_106 => ?_)
          · rw [if_neg c_106] at hR
            refine lv_iload_n hx hb dX6_does_118 rfl (lv_at hl 2 rfl) ?_
            refine lv_iconst (v := (4 : Int32)) hx hb dX6_does_119 (by decide) ?_
            refine lv_icmp_ne (tgt := 150) hx hb dX6_does_120 (by decide) (fun c_120 => ?_) (fun c_120 => ?_)
            · rw [if_neg c_120] at hR
              refine lv_iconst (v := (0 : Int32)) hx hb dX6_does_150 (by decide) ?_
              subst hR
              exact fin _ _ _ _ dX6_does_151 (nar_b (Or.inl rfl)) hP hS
            · rw [if_pos c_120] at hR
              refine lv_aload_n hx hb dX6_does_123 rfl (lv_at hl 3 rfl) ?_
              refine lv_iload hx hb dX6_does_124 (lv_at hl 0 rfl) ?_
              refine vRdI (b := (q 0)) (As := [.int (jr a1 (10 : Int32))]) (rest := []) hF (c_X6_noPart l D cI cZ q thrown textSize place stock n readStock readCells readParts acts tried soonMany soonWhich kindMany kindFirst restMany restFirst text lies kind readPart page trial book kept isKept triedAbout triedIs gains value seed (jr a1 (10 : Int32))) (gdV tm_3_178 tm_3_180 tp_20 tm_1_6 tm_3_181) de_X6_noPart ⟨Nat.le_of_ble_eq_true rfl, Nat.le_of_ble_eq_true rfl⟩ hP hK (va_recv hK hP (ci := 5) (q0 := 0) rfl MW_0) hl.1 rfl (Nat.le_of_ble_eq_true rfl) dX6_does_126 ⟨Nat.zero_le _, Nat.zero_le _⟩ ?_
              refine lv_if_ne (tgt := 150) hx hb dX6_does_129 (by decide) (fun c_129 => ?_) (fun c_129 => ?_)
              · rw [if_neg c_129] at hR
                refine lv_iconst (v := (0 : Int32)) hx hb dX6_does_150 (by decide) ?_
                subst hR
                exact fin _ _ _ _ dX6_does_151 (nar_b (Or.inl rfl)) hP hS
              · rw [if_pos c_129] at hR
                refine lv_aload_n hx hb dX6_does_132 rfl (lv_at hl 3 rfl) ?_
                refine va_get (D := D) (ci := 5) (v := .ref (q 6)) (C := RX6) (T := TX6) (N := 30) hx hb hts tbX6 hown hK hP 0 MW_0 rfl 13 (by decide) (hts _ tm_3_14) (fun _ h9 => h9) rfl dX6_does_133 ?_
                refine lv_iconst (v := (5 : Int32)) hx hb dX6_does_136 (by decide) ?_
                refine va_iald hx hb hK hP 6 0 MW_6 rfl (vp_in_nI (n := 5) (by decide) (by decide)) dX6_does_137 ?_
                refine lv_rw (z := (trial 5)) (congrArg trial cl_5) ?_
                refine lv_iload hx hb dX6_does_138 (lv_at hl 0 rfl) ?_
                refine sRdI (As := [.int (trial 5), .int (jr a1 (10 : Int32))]) (rest := []) hF (c_X6_has l D cI cZ q (trial 5) (jr a1 (10 : Int32))) (gdS tm_3_118 tm_3_119 tm_1_6 tm_3_120) de_X6_has ⟨Nat.le_of_ble_eq_true rfl, Nat.le_of_ble_eq_true rfl⟩ va_P_nil hK hl.1 rfl (Nat.le_of_ble_eq_true rfl) dX6_does_140 ⟨Nat.zero_le _, Nat.zero_le _⟩ ?_
                refine lv_if_eq (tgt := 150) hx hb dX6_does_143 (by decide) (fun c_143 => ?_) (fun c_143 => ?_)
                · rw [if_pos c_143] at hR
                  refine lv_iconst (v := (0 : Int32)) hx hb dX6_does_150 (by decide) ?_
                  subst hR
                  exact fin _ _ _ _ dX6_does_151 (nar_b (Or.inl rfl)) hP hS
                · rw [if_neg c_143] at hR
                  refine lv_iconst (v := (1 : Int32)) hx hb dX6_does_146 (by decide) ?_
                  refine lv_goto (tgt := 151) hx hb dX6_does_147 (by decide) ?_
                  subst hR
                  exact fin _ _ _ _ dX6_does_151 (nar_b (Or.inr rfl)) hP hS
          · rw [if_pos c_106] at hR
            refine lv_aload_n hx hb dX6_does_109 rfl (lv_at hl 3 rfl) ?_
            refine lv_iload hx hb dX6_does_110 (lv_at hl 0 rfl) ?_
            refine vWrI (b := (q 0)) (As := [.int (jr a1 (10 : Int32))]) (rest := []) hF (c_X6_strikes l D cI cZ q thrown textSize place stock n readStock readCells readParts acts tried soonMany soonWhich kindMany kindFirst restMany restFirst text lies kind readPart page trial book kept isKept triedAbout triedIs gains value seed (jr a1 (10 : Int32)) hn7 cl hcl) (gdV tm_4_18 tm_4_20 tp_28 tm_1_6 tm_4_21) de_X6_strikes ⟨Nat.le_of_ble_eq_true rfl, Nat.le_of_ble_eq_true rfl⟩ hP hK (va_recv hK hP (ci := 5) (q0 := 0) rfl MW_0) hl.1 rfl (Nat.le_of_ble_eq_true rfl) dX6_does_112 ⟨Nat.zero_le _, Nat.zero_le _⟩ hD hS (fun H locs hP hS => ?_)
            have hP : va_P D vwCl (MW cI cZ q thrown textSize place stock (nI n) readStock readCells readParts acts tried soonMany soonWhich kindMany kindFirst restMany restFirst text lies kind readPart page (f_X6_strikes cl n lies kind trial (jr a1 (10 : Int32))).2 book kept isKept triedAbout triedIs gains value seed) H := hP
            have hD : va_D A (MW cI cZ q thrown textSize place stock (nI n) readStock readCells readParts acts tried soonMany soonWhich kindMany kindFirst restMany restFirst text lies kind readPart page (f_X6_strikes cl n lies kind trial (jr a1 (10 : Int32))).2 book kept isKept triedAbout triedIs gains value seed) := hD.same (MW_ad.trans MW_ad.symm)
            refine lv_if_ne (tgt := 146) hx hb dX6_does_115 (by decide) (fun c_115 => ?_) (fun c_115 => ?_)
            · rw [if_neg c_115] at hR
              refine lv_iconst (v := (1 : Int32)) hx hb dX6_does_146 (by decide) ?_
              refine lv_goto (tgt := 151) hx hb dX6_does_147 (by decide) ?_
              subst hR
              exact fin _ _ _ _ dX6_does_151 (nar_b (Or.inr rfl)) hP hS
            · rw [if_pos c_115] at hR
              refine lv_iload_n hx hb dX6_does_118 rfl (lv_at hl 2 rfl) ?_
              refine lv_iconst (v := (4 : Int32)) hx hb dX6_does_119 (by decide) ?_
              refine lv_icmp_ne (tgt := 150) hx hb dX6_does_120 (by decide) (fun c_120 => ?_) (fun c_120 => ?_)
              · rw [if_neg c_120] at hR
                refine lv_iconst (v := (0 : Int32)) hx hb dX6_does_150 (by decide) ?_
                subst hR
                exact fin _ _ _ _ dX6_does_151 (nar_b (Or.inl rfl)) hP hS
              · rw [if_pos c_120] at hR
                refine lv_aload_n hx hb dX6_does_123 rfl (lv_at hl 3 rfl) ?_
                refine lv_iload hx hb dX6_does_124 (lv_at hl 0 rfl) ?_
                refine vRdI (b := (q 0)) (As := [.int (jr a1 (10 : Int32))]) (rest := []) hF (c_X6_noPart l D cI cZ q thrown textSize place stock n readStock readCells readParts acts tried soonMany soonWhich kindMany kindFirst restMany restFirst text lies kind readPart page (f_X6_strikes cl n lies kind trial (jr a1 (10 : Int32))).2 book kept isKept triedAbout triedIs gains value seed (jr a1 (10 : Int32))) (gdV tm_3_178 tm_3_180 tp_20 tm_1_6 tm_3_181) de_X6_noPart ⟨Nat.le_of_ble_eq_true rfl, Nat.le_of_ble_eq_true rfl⟩ hP hK (va_recv hK hP (ci := 5) (q0 := 0) rfl MW_0) hl.1 rfl (Nat.le_of_ble_eq_true rfl) dX6_does_126 ⟨Nat.zero_le _, Nat.zero_le _⟩ ?_
                refine lv_if_ne (tgt := 150) hx hb dX6_does_129 (by decide) (fun c_129 => ?_) (fun c_129 => ?_)
                · rw [if_neg c_129] at hR
                  refine lv_iconst (v := (0 : Int32)) hx hb dX6_does_150 (by decide) ?_
                  subst hR
                  exact fin _ _ _ _ dX6_does_151 (nar_b (Or.inl rfl)) hP hS
                · rw [if_pos c_129] at hR
                  refine lv_aload_n hx hb dX6_does_132 rfl (lv_at hl 3 rfl) ?_
                  refine va_get (D := D) (ci := 5) (v := .ref (q 6)) (C := RX6) (T := TX6) (N := 30) hx hb hts tbX6 hown hK hP 0 MW_0 rfl 13 (by decide) (hts _ tm_3_14) (fun _ h9 => h9) rfl dX6_does_133 ?_
                  refine lv_iconst (v := (5 : Int32)) hx hb dX6_does_136 (by decide) ?_
                  refine va_iald hx hb hK hP 6 0 MW_6 rfl (vp_in_nI (n := 5) (by decide) (by decide)) dX6_does_137 ?_
                  refine lv_rw (z := ((f_X6_strikes cl n lies kind trial (jr a1 (10 : Int32))).2 5)) (congrArg (f_X6_strikes cl n lies kind trial (jr a1 (10 : Int32))).2 cl_5) ?_
                  refine lv_iload hx hb dX6_does_138 (lv_at hl 0 rfl) ?_
                  refine sRdI (As := [.int ((f_X6_strikes cl n lies kind trial (jr a1 (10 : Int32))).2 5), .int (jr a1 (10 : Int32))]) (rest := []) hF (c_X6_has l D cI cZ q ((f_X6_strikes cl n lies kind trial (jr a1 (10 : Int32))).2 5) (jr a1 (10 : Int32))) (gdS tm_3_118 tm_3_119 tm_1_6 tm_3_120) de_X6_has ⟨Nat.le_of_ble_eq_true rfl, Nat.le_of_ble_eq_true rfl⟩ va_P_nil hK hl.1 rfl (Nat.le_of_ble_eq_true rfl) dX6_does_140 ⟨Nat.zero_le _, Nat.zero_le _⟩ ?_
                  refine lv_if_eq (tgt := 150) hx hb dX6_does_143 (by decide) (fun c_143 => ?_) (fun c_143 => ?_)
                  · rw [if_pos c_143] at hR
                    refine lv_iconst (v := (0 : Int32)) hx hb dX6_does_150 (by decide) ?_
                    subst hR
                    exact fin _ _ _ _ dX6_does_151 (nar_b (Or.inl rfl)) hP hS
                  · rw [if_neg c_143] at hR
                    refine lv_iconst (v := (1 : Int32)) hx hb dX6_does_146 (by decide) ?_
                    refine lv_goto (tgt := 151) hx hb dX6_does_147 (by decide) ?_
                    subst hR
                    exact fin _ _ _ _ dX6_does_151 (nar_b (Or.inr rfl)) hP hS
        · rw [if_pos c_74] at hR
          refine lv_iload hx hb dX6_does_77 (lv_at hl 0 rfl) ?_
          refine sRdI (As := [.int (jr a1 (10 : Int32))]) (rest := []) hF (c_X6_noColumn l D cI cZ q (jr a1 (10 : Int32))) (gdS tm_3_161 tm_3_162 tm_1_6 tm_3_163) de_X6_noColumn ⟨Nat.le_of_ble_eq_true rfl, Nat.le_of_ble_eq_true rfl⟩ va_P_nil hK hl.1 rfl (Nat.le_of_ble_eq_true rfl) dX6_does_79 ⟨Nat.zero_le _, Nat.zero_le _⟩ ?_
          refine lv_if_ne (tgt := 102) hx hb dX6_does_82 (by decide) (fun c_82 => ?_) (fun c_82 => ?_)
          · rw [if_neg c_82] at hR
            refine lv_iconst (v := (0 : Int32)) hx hb dX6_does_102 (by decide) ?_
            subst hR
            exact fin _ _ _ _ dX6_does_103 (nar_b (Or.inl rfl)) hP hS
          · rw [if_pos c_82] at hR
            refine lv_aload_n hx hb dX6_does_85 rfl (lv_at hl 3 rfl) ?_
            refine lv_aload_n hx hb dX6_does_86 rfl (lv_at hl 3 rfl) ?_
            refine va_get (D := D) (ci := 5) (v := .ref (q 6)) (C := RX6) (T := TX6) (N := 30) hx hb hts tbX6 hown hK hP 0 MW_0 rfl 13 (by decide) (hts _ tm_3_14) (fun _ h9 => h9) rfl dX6_does_87 ?_
            refine lv_iload hx hb dX6_does_90 (lv_at hl 0 rfl) ?_
            refine lv_rw (z := (nI (jr a1 (10 : Int32)).toNatClampNeg)) (noCol_nI c_82) ?_
            refine vWrI (b := (q 0)) (As := [.ref (q 6), .int (nI (jr a1 (10 : Int32)).toNatClampNeg)]) (rest := []) hF (c_X6_goPut_trial l D cI cZ q thrown textSize place stock n readStock readCells readParts acts tried soonMany soonWhich kindMany kindFirst restMany restFirst text lies kind readPart page trial book kept isKept triedAbout triedIs gains value seed (jr a1 (10 : Int32)).toNatClampNeg hn7 (noCol_lt c_82) cl hcl) (gdV tm_3_198 tm_3_200 tp_22 tm_1_6 tm_3_201) de_X6_goPut ⟨Nat.le_of_ble_eq_true rfl, Nat.le_of_ble_eq_true rfl⟩ hP hK (va_recv hK hP (ci := 5) (q0 := 0) rfl MW_0) hl.1 rfl (Nat.le_of_ble_eq_true rfl) dX6_does_92 ⟨Nat.zero_le _, Nat.zero_le _⟩ hD hS (fun H locs hP hS => ?_)
            have hP : va_P D vwCl (MW cI cZ q thrown textSize place stock (nI n) readStock readCells readParts acts tried soonMany soonWhich kindMany kindFirst restMany restFirst text lies kind readPart page (f_X6_goPut cl n (jr a1 (10 : Int32)).toNatClampNeg lies kind trial).2 book kept isKept triedAbout triedIs gains value seed) H := hP
            have hD : va_D A (MW cI cZ q thrown textSize place stock (nI n) readStock readCells readParts acts tried soonMany soonWhich kindMany kindFirst restMany restFirst text lies kind readPart page (f_X6_goPut cl n (jr a1 (10 : Int32)).toNatClampNeg lies kind trial).2 book kept isKept triedAbout triedIs gains value seed) := hD.same (MW_ad.trans MW_ad.symm)
            refine lv_if_eq (tgt := 102) hx hb dX6_does_95 (by decide) (fun c_95 => ?_) (fun c_95 => ?_)
            · rw [if_pos c_95] at hR
              refine lv_iconst (v := (0 : Int32)) hx hb dX6_does_102 (by decide) ?_
              subst hR
              exact fin _ _ _ _ dX6_does_103 (nar_b (Or.inl rfl)) hP hS
            · rw [if_neg c_95] at hR
              refine lv_iconst (v := (1 : Int32)) hx hb dX6_does_98 (by decide) ?_
              refine lv_goto (tgt := 103) hx hb dX6_does_99 (by decide) ?_
              subst hR
              exact fin _ _ _ _ dX6_does_103 (nar_b (Or.inr rfl)) hP hS
      · rw [if_neg c_67] at hR
        refine lv_iconst (v := (0 : Int32)) hx hb dX6_does_70 (by decide) ?_
        subst hR
        exact fin _ _ _ _ dX6_does_71 (nar_b (Or.inl rfl)) hP hS
    · rw [if_pos c_39] at hR
      refine lv_iload_n hx hb dX6_does_42 rfl (lv_at hl 1 rfl) ?_
      refine sRdI (As := [.int (jr (a1 / (10 : Int32)) (10 : Int32))]) (rest := []) hF (c_X6_noColumn l D cI cZ q (jr (a1 / (10 : Int32)) (10 : Int32))) (gdS tm_3_161 tm_3_162 tm_1_6 tm_3_163) de_X6_noColumn ⟨Nat.le_of_ble_eq_true rfl, Nat.le_of_ble_eq_true rfl⟩ va_P_nil hK hl.1 rfl (Nat.le_of_ble_eq_true rfl) dX6_does_43 ⟨Nat.zero_le _, Nat.zero_le _⟩ ?_
      refine lv_if_ne (tgt := 64) hx hb dX6_does_46 (by decide) (fun c_46 => ?_) (fun c_46 => ?_)
      · rw [if_neg c_46] at hR
        refine lv_iconst (v := (0 : Int32)) hx hb dX6_does_64 (by decide) ?_
        subst hR
        exact fin _ _ _ _ dX6_does_65 (nar_b (Or.inl rfl)) hP hS
      · rw [if_pos c_46] at hR
        have hx1 := noCol_lt c_46
        refine lv_aload_n hx hb dX6_does_49 rfl (lv_at hl 3 rfl) ?_
        refine va_get (D := D) (ci := 5) (v := .ref (q 6)) (C := RX6) (T := TX6) (N := 30) hx hb hts tbX6 hown hK hP 0 MW_0 rfl 13 (by decide) (hts _ tm_3_14) (fun _ h9 => h9) rfl dX6_does_50 ?_
        refine lv_iload_n hx hb dX6_does_53 rfl (lv_at hl 1 rfl) ?_
        refine lv_rw (z := (nI (jr (a1 / (10 : Int32)) (10 : Int32)).toNatClampNeg)) (noCol_nI c_46) ?_
        refine va_iald hx hb hK hP 6 0 MW_6 rfl (vp_in_nI (show (jr (a1 / (10 : Int32)) (10 : Int32)).toNatClampNeg < 7 by omega) (by omega)) dX6_does_54 ?_
        refine lv_rw (z := (trial (jr (a1 / (10 : Int32)) (10 : Int32)).toNatClampNeg)) (congrArg trial (nI_clamp (show (jr (a1 / (10 : Int32)) (10 : Int32)).toNatClampNeg < 2 ^ 31 by omega))) ?_
        refine lv_iload hx hb dX6_does_55 (lv_at hl 0 rfl) ?_
        refine lv_icmp_lt (tgt := 64) hx hb dX6_does_57 (by decide) (fun c_57 => ?_) (fun c_57 => ?_)
        · rw [if_pos c_57] at hR
          refine lv_iconst (v := (0 : Int32)) hx hb dX6_does_64 (by decide) ?_
          subst hR
          exact fin _ _ _ _ dX6_does_65 (nar_b (Or.inl rfl)) hP hS
        · rw [if_neg c_57] at hR
          refine lv_iconst (v := (1 : Int32)) hx hb dX6_does_60 (by decide) ?_
          refine lv_goto (tgt := 65) hx hb dX6_does_61 (by decide) ?_
          subst hR
          exact fin _ _ _ _ dX6_does_65 (nar_b (Or.inr rfl)) hP hS
  · rw [if_pos c_23] at hR
    refine lv_aload_n hx hb dX6_does_26 rfl (lv_at hl 3 rfl) ?_
    refine lv_aload_n hx hb dX6_does_27 rfl (lv_at hl 3 rfl) ?_
    refine va_get (D := D) (ci := 5) (v := .ref (q 6)) (C := RX6) (T := TX6) (N := 30) hx hb hts tbX6 hown hK hP 0 MW_0 rfl 13 (by decide) (hts _ tm_3_14) (fun _ h9 => h9) rfl dX6_does_28 ?_
    refine vWrI (b := (q 0)) (As := [.ref (q 6)]) (rest := []) hF (c_X6_goRain_trial l D cI cZ q thrown textSize place stock n readStock readCells readParts acts tried soonMany soonWhich kindMany kindFirst restMany restFirst text lies kind readPart page trial book kept isKept triedAbout triedIs gains value seed hn7 cl hcl) (gdV tm_3_214 tm_3_216 tp_24 tm_1_6 tm_3_217) de_X6_goRain ⟨Nat.le_of_ble_eq_true rfl, Nat.le_of_ble_eq_true rfl⟩ hP hK (va_recv hK hP (ci := 5) (q0 := 0) rfl MW_0) hl.1 rfl (Nat.le_of_ble_eq_true rfl) dX6_does_31 ⟨Nat.zero_le _, Nat.zero_le _⟩ hD hS (fun H locs hP hS => ?_)
    have hP : va_P D vwCl (MW cI cZ q thrown textSize place stock (nI n) readStock readCells readParts acts tried soonMany soonWhich kindMany kindFirst restMany restFirst text lies kind readPart page (f_X6_goRain cl n lies kind trial).2 book kept isKept triedAbout triedIs gains value seed) H := hP
    have hD : va_D A (MW cI cZ q thrown textSize place stock (nI n) readStock readCells readParts acts tried soonMany soonWhich kindMany kindFirst restMany restFirst text lies kind readPart page (f_X6_goRain cl n lies kind trial).2 book kept isKept triedAbout triedIs gains value seed) := hD.same (MW_ad.trans MW_ad.symm)
    refine lv_pop hx hb dX6_does_34 rfl ?_
    refine lv_iconst (v := (1 : Int32)) hx hb dX6_does_35 (by decide) ?_
    subst hR
    exact fin _ _ _ _ dX6_does_36 (nar_b (Or.inr rfl)) hP hS
def f_X6_judge_l44 (cl : Nat → Nat) (n : Nat) (lies : Nat → Int32) (kind : Nat → Int32) (a1 : Int32) (a2 : Int64) : Nat → Nat → (Nat → Int32) → (Int32) × (Int32) × (Nat → Int32)
  | 0, i_44, tr44 => ((-9 : Int32), (0 : Int32), tr44)
  | d_44 + 1, i_44, tr44 => (if (f_X6_does cl n lies kind tr44 (jrl (a2 / (lN (1000 ^ (a1.toNatClampNeg - 1 - i_44)))) (1000 : Int64)).toInt32).1 = (0 : Int32) then ((nI i_44), (0 : Int32), (f_X6_does cl n lies kind tr44 (jrl (a2 / (lN (1000 ^ (a1.toNatClampNeg - 1 - i_44)))) (1000 : Int64)).toInt32).2) else (f_X6_judge_l44 cl n lies kind a1 a2 d_44 (i_44 + 1) (f_X6_does cl n lies kind tr44 (jrl (a2 / (lN (1000 ^ (a1.toNatClampNeg - 1 - i_44)))) (1000 : Int64)).toInt32).2))
theorem f_X6_judge_l44_z {cl : Nat → Nat} {n : Nat} {lies : Nat → Int32} {kind : Nat → Int32} {a1 : Int32} {a2 : Int64} {i_44 : Nat} {tr44 : Nat → Int32} : f_X6_judge_l44 cl n lies kind a1 a2 0 i_44 tr44 = ((-9 : Int32), (0 : Int32), tr44) := by rw [f_X6_judge_l44]
theorem f_X6_judge_l44_s {cl : Nat → Nat} {n : Nat} {lies : Nat → Int32} {kind : Nat → Int32} {a1 : Int32} {a2 : Int64} {d_44 : Nat} {i_44 : Nat} {tr44 : Nat → Int32} : f_X6_judge_l44 cl n lies kind a1 a2 (d_44 + 1) i_44 tr44 = (if (f_X6_does cl n lies kind tr44 (jrl (a2 / (lN (1000 ^ (a1.toNatClampNeg - 1 - i_44)))) (1000 : Int64)).toInt32).1 = (0 : Int32) then ((nI i_44), (0 : Int32), (f_X6_does cl n lies kind tr44 (jrl (a2 / (lN (1000 ^ (a1.toNatClampNeg - 1 - i_44)))) (1000 : Int64)).toInt32).2) else (f_X6_judge_l44 cl n lies kind a1 a2 d_44 (i_44 + 1) (f_X6_does cl n lies kind tr44 (jrl (a2 / (lN (1000 ^ (a1.toNatClampNeg - 1 - i_44)))) (1000 : Int64)).toInt32).2)) := by rw [f_X6_judge_l44]
def f_X6_judge (cl : Nat → Nat) (n : Nat) (lies : Nat → Int32) (kind : Nat → Int32) (page : Nat → Int32) (trial : Nat → Int32) (a1 : Int32) (a2 : Int64) : (Int32) × (Int32) × (Nat → Int32) := (if (f_X6_in a1.toInt64 (1 : Int64) (4 : Int64)) = (0 : Int32) then ((-2 : Int32), (0 : Int32), trial) else (if (f_X6_in a2 (0 : Int64) ((f_X6_longPower (1000 : Int64) a1) - (1 : Int64))) = (0 : Int32) then ((-2 : Int32), (0 : Int32), trial) else (f_X6_judge_l44 cl n lies kind a1 a2 a1.toNatClampNeg 0 (f_X6_begin page trial))))
set_option maxHeartbeats 4000000 in
set_option maxRecDepth 100000 in
theorem c_X6_judge (l : Launch) (D : va_G) (cI cZ : ClassId) (q : Nat → Nat) (thrown : Int32) (textSize : Int32) (place : Int32) (stock : Int32) (n : Nat) (readStock : Int32) (readCells : Int32) (readParts : Int32) (acts : Int32) (tried : Int32) (soonMany : Int32) (soonWhich : Int32) (kindMany : Int32) (kindFirst : Int32) (restMany : Int32) (restFirst : Int32) (text lies kind readPart page trial book kept isKept triedAbout triedIs gains value : Nat → Int32) (seed : Int64) (a1 : Int32) (a2 : Int64) (hn7 : n ≤ 7) (cl : Nat → Nat) (hcl : ∀ j, j < 7 → lies j = nI (cl j) ∧ cl j < 16) : WrI l yX6_judge cX6_judge 5 .int 9 210 D (tyL cI cZ) (MW cI cZ q thrown textSize place stock (nI n) readStock readCells readParts acts tried soonMany soonWhich kindMany kindFirst restMany restFirst text lies kind readPart page trial book kept isKept triedAbout triedIs gains value seed) [.ref (q 0), .int a1, .long a2] (f_X6_judge cl n lies kind page trial a1 a2).1 (MW cI cZ q (f_X6_judge cl n lies kind page trial a1 a2).2.1 textSize place stock (nI n) readStock readCells readParts acts tried soonMany soonWhich kindMany kindFirst restMany restFirst text lies kind readPart page (f_X6_judge cl n lies kind page trial a1 a2).2.2 book kept isKept triedAbout triedIs gains value seed) := by
  refine WrI.of (by decide) (Nat.le_of_ble_eq_true rfl) ?_
  intro p e s m args below meth c Q A hx hb hml hown hts hP hK hD hS fin ls hl
  have hown : s.vm.findClass RX6 = some m.cls := hown
  have hF : CallFix p m c cX6_judge 5 s args tb RX6 := ⟨hx, hb, hml, hown, hts⟩
  have hl : lv_has ls 5 [(0, .ref (q 0)), (1, .int a1), (2, .long a2)] := hl
  generalize hR : (f_X6_judge cl n lies kind page trial a1 a2) = R at fin
  unfold f_X6_judge at hR
  refine lv_aload_n hx hb dX6_judge_0 rfl (lv_at hl 0 rfl) ?_
  refine lv_iconst (v := (0 : Int32)) hx hb dX6_judge_1 (by decide) ?_
  refine va_put (D := D) (ci := 5) (v := .int (0 : Int32)) (ty := .int) (C := RX6) (T := TX6) (N := 30) hx hb hts tbX6 tyX6 tyX6_ok nmX6 hown hK hP hD hS 0 MW_0 rfl 0 (by decide) (hts _ tm_3_1) (fun _ h9 => h9) rfl (by decide +kernel) rfl rfl (Nat.le_of_ble_eq_true rfl) dX6_judge_2 (fun H locs hP _ hS => ?_)
  have hP : va_P D vwCl (MW cI cZ q (0 : Int32) textSize place stock (nI n) readStock readCells readParts acts tried soonMany soonWhich kindMany kindFirst restMany restFirst text lies kind readPart page trial book kept isKept triedAbout triedIs gains value seed) H := hP
  have hD : va_D A (MW cI cZ q (0 : Int32) textSize place stock (nI n) readStock readCells readParts acts tried soonMany soonWhich kindMany kindFirst restMany restFirst text lies kind readPart page trial book kept isKept triedAbout triedIs gains value seed) := hD.same (MW_ad.trans MW_ad.symm)
  refine lv_iload_n hx hb dX6_judge_5 rfl (lv_at hl 1 rfl) ?_
  refine lv_i2l (v := a1.toInt64) hx hb dX6_judge_6 rfl ?_
  refine lv_lconst (v := (1 : Int64)) hx hb dX6_judge_7 (by decide) ?_
  refine lv_ldc2 (v := (4 : Int64)) hx hb hown (hts _ tm_4_9) dX6_judge_8 ?_
  refine sRdI (As := [.long a1.toInt64, .long (1 : Int64), .long (4 : Int64)]) (rest := []) hF (c_X6_in l D cI cZ q a1.toInt64 (1 : Int64) (4 : Int64)) (gdS tm_3_97 tm_3_98 tm_1_6 tm_3_99) de_X6_in ⟨Nat.le_of_ble_eq_true rfl, Nat.le_of_ble_eq_true rfl⟩ va_P_nil hK hl.1 rfl (Nat.le_of_ble_eq_true rfl) dX6_judge_11 ⟨Nat.zero_le _, Nat.zero_le _⟩ ?_
  refine lv_if_eq (tgt := 34) hx hb dX6_judge_14 (by decide) (fun c_14 => ?_) (fun c_14 => ?_)
  · rw [if_pos c_14] at hR
    refine lv_bipush (v := (-2 : Int32)) hx hb dX6_judge_34 (by decide) ?_
    subst hR
    exact fin _ _ _ _ dX6_judge_36 (nar_i _) hP hS
  · rw [if_neg c_14] at hR
    have hna := in_nI c_14 (by decide)
    have hna4 := in_le (n := 4) c_14 (by decide)
    refine lv_lload_n hx hb dX6_judge_17 rfl (lv_at hl 2 rfl) ?_
    refine lv_lconst (v := (0 : Int64)) hx hb dX6_judge_18 (by decide) ?_
    refine lv_ldc2 (v := (1000 : Int64)) hx hb hown (hts _ tm_4_10) dX6_judge_19 ?_
    refine lv_iload_n hx hb dX6_judge_22 rfl (lv_at hl 1 rfl) ?_
    refine sRdL (As := [.long (1000 : Int64), .int a1]) (rest := [.long (0 : Int64), .long a2]) hF (c_X6_longPower l D cI cZ q (1000 : Int64) a1 (by rw [hna, nI_toInt (by omega)]; omega)) (gdS tm_4_11 tm_4_12 tm_1_6 tm_4_13) de_X6_longPower ⟨Nat.le_of_ble_eq_true rfl, Nat.le_of_ble_eq_true rfl⟩ va_P_nil hK hl.1 rfl (Nat.le_of_ble_eq_true rfl) dX6_judge_23 ⟨Nat.zero_le _, Nat.zero_le _⟩ ?_
    refine lv_lconst (v := (1 : Int64)) hx hb dX6_judge_26 (by decide) ?_
    refine lv_lsub hx hb dX6_judge_27 ?_
    refine sRdI (As := [.long a2, .long (0 : Int64), .long ((f_X6_longPower (1000 : Int64) a1) - (1 : Int64))]) (rest := []) hF (c_X6_in l D cI cZ q a2 (0 : Int64) ((f_X6_longPower (1000 : Int64) a1) - (1 : Int64))) (gdS tm_3_97 tm_3_98 tm_1_6 tm_3_99) de_X6_in ⟨Nat.le_of_ble_eq_true rfl, Nat.le_of_ble_eq_true rfl⟩ va_P_nil hK hl.1 rfl (Nat.le_of_ble_eq_true rfl) dX6_judge_28 ⟨Nat.zero_le _, Nat.zero_le _⟩ ?_
    refine lv_if_ne (tgt := 37) hx hb dX6_judge_31 (by decide) (fun c_31 => ?_) (fun c_31 => ?_)
    · rw [if_neg c_31] at hR
      refine lv_aload_n hx hb dX6_judge_37 rfl (lv_at hl 0 rfl) ?_
      refine vWrV (b := (q 0)) (As := []) (rest := []) hF (c_X6_begin l D cI cZ q (0 : Int32) textSize place stock (nI n) readStock readCells readParts acts tried soonMany soonWhich kindMany kindFirst restMany restFirst text lies kind readPart page trial book kept isKept triedAbout triedIs gains value seed) (gdV tm_3_137 tm_3_139 tp_13 tm_1_6 tm_3_140) de_X6_begin ⟨Nat.le_of_ble_eq_true rfl, Nat.le_of_ble_eq_true rfl⟩ hP hK (va_recv hK hP (ci := 5) (q0 := 0) rfl MW_0) hl.1 rfl (Nat.le_of_ble_eq_true rfl) dX6_judge_38 ⟨Nat.zero_le _, Nat.zero_le _⟩ hD hS (fun H locs hP hS => ?_)
      have hP : va_P D vwCl (MW cI cZ q (0 : Int32) textSize place stock (nI n) readStock readCells readParts acts tried soonMany soonWhich kindMany kindFirst restMany restFirst text lies kind readPart page (f_X6_begin page trial) book kept isKept triedAbout triedIs gains value seed) H := hP
      have hD : va_D A (MW cI cZ q (0 : Int32) textSize place stock (nI n) readStock readCells readParts acts tried soonMany soonWhich kindMany kindFirst restMany restFirst text lies kind readPart page (f_X6_begin page trial) book kept isKept triedAbout triedIs gains value seed) := hD.same (MW_ad.trans MW_ad.symm)
      refine lv_iconst (v := (0 : Int32)) hx hb dX6_judge_41 (by decide) ?_
      refine lv_istore (lv' := [(4, .int (0 : Int32)), (0, .ref (q 0)), (1, .int a1), (2, .long a2)]) hx hb dX6_judge_42 hl (by decide) rfl (fun ls hl => ?_)
      have key_44 : ∀ (d_44 i_44 : Nat) (tr44 : Nat → Int32) (ls : Array Slot) (H : Heap) (locs : List Loc), i_44 + d_44 = a1.toNatClampNeg → f_X6_judge_l44 cl n lies kind a1 a2 d_44 i_44 tr44 = R → lv_has ls 5 [(4, .int (nI i_44)), (0, .ref (q 0)), (1, .int a1), (2, .long a2)] → va_P D vwCl (MW cI cZ q (0 : Int32) textSize place stock (nI n) readStock readCells readParts acts tried soonMany soonWhich kindMany kindFirst restMany restFirst text lies kind readPart page tr44 book kept isKept triedAbout triedIs gains value seed) H → va_S A s.heap H locs → W p l e (rmO 9 210) s m args below meth c H locs 0 0 Q (F0 m 44 ls []) := by
        intro d_44
        induction d_44 with
        | zero =>
          intro i_44 tr44 ls H locs hi_44 hR hl hP hS
          have hD : va_D A (MW cI cZ q (0 : Int32) textSize place stock (nI n) readStock readCells readParts acts tried soonMany soonWhich kindMany kindFirst restMany restFirst text lies kind readPart page tr44 book kept isKept triedAbout triedIs gains value seed) := hD.same (MW_ad.trans MW_ad.symm)
          rw [f_X6_judge_l44_z] at hR
          refine lv_iload hx hb dX6_judge_44 (lv_at hl 0 rfl) ?_
          refine lv_iload_n hx hb dX6_judge_46 rfl (lv_at hl 2 rfl) ?_
          refine lv_icmp_ge (tgt := 85) hx hb dX6_judge_47 (by decide) (fun c_47 => ?_) (fun c_47 => absurd (by rw [hna]; exact nI_le  (by omega) (by omega)) c_47)
          refine lv_bipush (v := (-9 : Int32)) hx hb dX6_judge_85 (by decide) ?_
          subst hR
          exact fin _ _ _ _ dX6_judge_87 (nar_i _) hP hS
        | succ d_44 ih_44 =>
          intro i_44 tr44 ls H locs hi_44 hR hl hP hS
          have hD : va_D A (MW cI cZ q (0 : Int32) textSize place stock (nI n) readStock readCells readParts acts tried soonMany soonWhich kindMany kindFirst restMany restFirst text lies kind readPart page tr44 book kept isKept triedAbout triedIs gains value seed) := hD.same (MW_ad.trans MW_ad.symm)
          rw [f_X6_judge_l44_s] at hR
          refine lv_iload hx hb dX6_judge_44 (lv_at hl 0 rfl) ?_
          refine lv_iload_n hx hb dX6_judge_46 rfl (lv_at hl 2 rfl) ?_
          refine lv_icmp_ge (tgt := 85) hx hb dX6_judge_47 (by decide) (fun c_47 => absurd c_47 (by rw [hna]; exact nI_ge  (by omega) (by omega))) (fun c_47 => ?_)
          refine lv_aload_n hx hb dX6_judge_50 rfl (lv_at hl 1 rfl) ?_
          refine lv_lload_n hx hb dX6_judge_51 rfl (lv_at hl 3 rfl) ?_
          refine lv_ldc2 (v := (1000 : Int64)) hx hb hown (hts _ tm_4_10) dX6_judge_52 ?_
          refine lv_iload_n hx hb dX6_judge_55 rfl (lv_at hl 2 rfl) ?_
          refine lv_iconst (v := (1 : Int32)) hx hb dX6_judge_56 (by decide) ?_
          refine lv_isub hx hb dX6_judge_57 ?_
          refine lv_iload hx hb dX6_judge_58 (lv_at hl 0 rfl) ?_
          refine lv_isub hx hb dX6_judge_60 ?_
          refine lv_rw (z := (nI (a1.toNatClampNeg - 1 - i_44))) (by rw [show a1 - 1 = nI (a1.toNatClampNeg - 1) from (congrArg (· - 1) hna).trans (pk_sub (b := 1) (by omega)), pk_sub (by omega)]) ?_
          refine sRdL (As := [.long (1000 : Int64), .int (nI (a1.toNatClampNeg - 1 - i_44))]) (rest := [.long a2, .ref (q 0)]) hF (c_X6_longPower l D cI cZ q (1000 : Int64) (nI (a1.toNatClampNeg - 1 - i_44)) (by rw [nI_toInt (by omega)]; omega)) (gdS tm_4_11 tm_4_12 tm_1_6 tm_4_13) de_X6_longPower ⟨Nat.le_of_ble_eq_true rfl, Nat.le_of_ble_eq_true rfl⟩ va_P_nil hK hl.1 rfl (Nat.le_of_ble_eq_true rfl) dX6_judge_61 ⟨Nat.zero_le _, Nat.zero_le _⟩ ?_
          refine lv_rwl (z := (lN (1000 ^ (a1.toNatClampNeg - 1 - i_44)))) (lp1000 _ (by omega)) ?_
          refine lv_ldiv hx hb dX6_judge_64 (ne1000 _ (by omega)) ?_
          refine lv_ldc2 (v := (1000 : Int64)) hx hb hown (hts _ tm_4_10) dX6_judge_65 ?_
          refine lv_lrem hx hb dX6_judge_68 (by decide) ?_
          refine lv_rwl (z := (jrl (a2 / (lN (1000 ^ (a1.toNatClampNeg - 1 - i_44)))) (1000 : Int64))) rfl ?_
          refine lv_l2i (v := (jrl (a2 / (lN (1000 ^ (a1.toNatClampNeg - 1 - i_44)))) (1000 : Int64)).toInt32) hx hb dX6_judge_69 rfl ?_
          refine vWrI (b := (q 0)) (As := [.int (jrl (a2 / (lN (1000 ^ (a1.toNatClampNeg - 1 - i_44)))) (1000 : Int64)).toInt32]) (rest := []) hF (c_X6_does l D cI cZ q (0 : Int32) textSize place stock n readStock readCells readParts acts tried soonMany soonWhich kindMany kindFirst restMany restFirst text lies kind readPart page tr44 book kept isKept triedAbout triedIs gains value seed (jrl (a2 / (lN (1000 ^ (a1.toNatClampNeg - 1 - i_44)))) (1000 : Int64)).toInt32 hn7 cl hcl) (gdV tm_4_14 tm_4_16 tp_27 tm_1_6 tm_4_17) de_X6_does ⟨Nat.le_of_ble_eq_true rfl, Nat.le_of_ble_eq_true rfl⟩ hP hK (va_recv hK hP (ci := 5) (q0 := 0) rfl MW_0) hl.1 rfl (Nat.le_of_ble_eq_true rfl) dX6_judge_70 ⟨Nat.zero_le _, Nat.zero_le _⟩ hD hS (fun H locs hP hS => ?_)
          have hP : va_P D vwCl (MW cI cZ q (0 : Int32) textSize place stock (nI n) readStock readCells readParts acts tried soonMany soonWhich kindMany kindFirst restMany restFirst text lies kind readPart page (f_X6_does cl n lies kind tr44 (jrl (a2 / (lN (1000 ^ (a1.toNatClampNeg - 1 - i_44)))) (1000 : Int64)).toInt32).2 book kept isKept triedAbout triedIs gains value seed) H := hP
          have hD : va_D A (MW cI cZ q (0 : Int32) textSize place stock (nI n) readStock readCells readParts acts tried soonMany soonWhich kindMany kindFirst restMany restFirst text lies kind readPart page (f_X6_does cl n lies kind tr44 (jrl (a2 / (lN (1000 ^ (a1.toNatClampNeg - 1 - i_44)))) (1000 : Int64)).toInt32).2 book kept isKept triedAbout triedIs gains value seed) := hD.same (MW_ad.trans MW_ad.symm)
          refine lv_if_ne (tgt := 79) hx hb dX6_judge_73 (by decide) (fun c_73 => ?_) (fun c_73 => ?_)
          · rw [if_neg c_73] at hR
            refine lv_iinc (v := (nI (i_44 + 1))) (lv' := [(4, .int (nI (i_44 + 1))), (0, .ref (q 0)), (1, .int a1), (2, .long a2)]) hx hb dX6_judge_79 hl (k := 0) rfl (nI_up i_44) (by decide) rfl (fun ls hl => ?_)
            refine lv_goto (tgt := 44) hx hb dX6_judge_82 (by decide) ?_
            exact ih_44 (i_44 + 1) (f_X6_does cl n lies kind tr44 (jrl (a2 / (lN (1000 ^ (a1.toNatClampNeg - 1 - i_44)))) (1000 : Int64)).toInt32).2 ls _ _ (by omega) hR (lv_sub hl [0, 1, 2, 3] rfl) hP hS
          · rw [if_pos c_73] at hR
            refine lv_iload hx hb dX6_judge_76 (lv_at hl 0 rfl) ?_
            subst hR
            exact fin _ _ _ _ dX6_judge_78 (nar_i _) hP hS
      exact key_44 a1.toNatClampNeg 0 (f_X6_begin page trial) ls _ _ (by omega) hR (lv_sub hl [0, 1, 2, 3] rfl) hP hS
    · rw [if_pos c_31] at hR
      refine lv_bipush (v := (-2 : Int32)) hx hb dX6_judge_34 (by decide) ?_
      subst hR
      exact fin _ _ _ _ dX6_judge_36 (nar_i _) hP hS
