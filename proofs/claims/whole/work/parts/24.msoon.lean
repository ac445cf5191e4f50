theorem de_X6_actsBy : deOK yX6_actsBy 2 := by decide +kernel
theorem de_X6_findSoon : deOK yX6_findSoon 1 := by decide +kernel
theorem de_X6_soon : deOK yX6_soon 2 := by decide +kernel
def f_X6_actsBy_l11 (cl : Nat → Nat) (n : Nat) (nn : Nat) (num : Nat) (lies : Nat → Int32) (kind : Nat → Int32) : Nat → Nat → (Int32) → (Nat → Int32) → (Int32) × (Int32) × (Nat → Int32)
  | 0, i_11, sw11, tr11 => ((1 : Int32), sw11, tr11)
  | d_11 + 1, i_11, sw11, tr11 => (if (4 : Int32) ≤ (nI (num / 8 ^ (nn - 1 - i_11) % 8)) then (if (tr11 (num / 8 ^ (nn - 1 - i_11) % 8 % 4)) ≤ (0 : Int32) then ((0 : Int32), ((((10 : Int32) * sw11) + (nI (num / 8 ^ (nn - 1 - i_11) % 8))) + (1 : Int32)), tr11) else (f_X6_actsBy_l11 cl n nn num lies kind d_11 (i_11 + 1) ((((10 : Int32) * sw11) + (nI (num / 8 ^ (nn - 1 - i_11) % 8))) + (1 : Int32)) (f_X6_goStrike cl n (num / 8 ^ (nn - 1 - i_11) % 8 % 4) lies kind tr11).2)) else (if (f_X6_goPut cl n (num / 8 ^ (nn - 1 - i_11) % 8 % 4) lies kind tr11).1 = (0 : Int32) then ((0 : Int32), ((((10 : Int32) * sw11) + (nI (num / 8 ^ (nn - 1 - i_11) % 8))) + (1 : Int32)), (f_X6_goPut cl n (num / 8 ^ (nn - 1 - i_11) % 8 % 4) lies kind tr11).2) else (f_X6_actsBy_l11 cl n nn num lies kind d_11 (i_11 + 1) ((((10 : Int32) * sw11) + (nI (num / 8 ^ (nn - 1 - i_11) % 8))) + (1 : Int32)) (f_X6_goPut cl n (num / 8 ^ (nn - 1 - i_11) % 8 % 4) lies kind tr11).2)))
theorem f_X6_actsBy_l11_z {cl : Nat → Nat} {n : Nat} {nn : Nat} {num : Nat} {lies : Nat → Int32} {kind : Nat → Int32} {i_11 : Nat} {sw11 : Int32} {tr11 : Nat → Int32} : f_X6_actsBy_l11 cl n nn num lies kind 0 i_11 sw11 tr11 = ((1 : Int32), sw11, tr11) := by rw [f_X6_actsBy_l11]
theorem f_X6_actsBy_l11_s {cl : Nat → Nat} {n : Nat} {nn : Nat} {num : Nat} {lies : Nat → Int32} {kind : Nat → Int32} {d_11 : Nat} {i_11 : Nat} {sw11 : Int32} {tr11 : Nat → Int32} : f_X6_actsBy_l11 cl n nn num lies kind (d_11 + 1) i_11 sw11 tr11 = (if (4 : Int32) ≤ (nI (num / 8 ^ (nn - 1 - i_11) % 8)) then (if (tr11 (num / 8 ^ (nn - 1 - i_11) % 8 % 4)) ≤ (0 : Int32) then ((0 : Int32), ((((10 : Int32) * sw11) + (nI (num / 8 ^ (nn - 1 - i_11) % 8))) + (1 : Int32)), tr11) else (f_X6_actsBy_l11 cl n nn num lies kind d_11 (i_11 + 1) ((((10 : Int32) * sw11) + (nI (num / 8 ^ (nn - 1 - i_11) % 8))) + (1 : Int32)) (f_X6_goStrike cl n (num / 8 ^ (nn - 1 - i_11) % 8 % 4) lies kind tr11).2)) else (if (f_X6_goPut cl n (num / 8 ^ (nn - 1 - i_11) % 8 % 4) lies kind tr11).1 = (0 : Int32) then ((0 : Int32), ((((10 : Int32) * sw11) + (nI (num / 8 ^ (nn - 1 - i_11) % 8))) + (1 : Int32)), (f_X6_goPut cl n (num / 8 ^ (nn - 1 - i_11) % 8 % 4) lies kind tr11).2) else (f_X6_actsBy_l11 cl n nn num lies kind d_11 (i_11 + 1) ((((10 : Int32) * sw11) + (nI (num / 8 ^ (nn - 1 - i_11) % 8))) + (1 : Int32)) (f_X6_goPut cl n (num / 8 ^ (nn - 1 - i_11) % 8 % 4) lies kind tr11).2))) := by rw [f_X6_actsBy_l11]
def f_X6_actsBy (cl : Nat → Nat) (n : Nat) (nn : Nat) (num : Nat) (lies : Nat → Int32) (kind : Nat → Int32) (page : Nat → Int32) (trial : Nat → Int32) : (Int32) × (Int32) × (Nat → Int32) := (f_X6_actsBy_l11 cl n nn num lies kind nn 0 (0 : Int32) (f_X6_begin page trial))
set_option maxHeartbeats 4000000 in
set_option maxRecDepth 100000 in
theorem c_X6_actsBy (l : Launch) (D : va_G) (cI cZ : ClassId) (q : Nat → Nat) (thrown : Int32) (textSize : Int32) (place : Int32) (stock : Int32) (n : Nat) (readStock : Int32) (readCells : Int32) (readParts : Int32) (acts : Int32) (tried : Int32) (soonMany : Int32) (soonWhich : Int32) (kindMany : Int32) (kindFirst : Int32) (restMany : Int32) (restFirst : Int32) (text lies kind readPart page trial book kept isKept triedAbout triedIs gains value : Nat → Int32) (seed : Int64) (nn : Nat) (num : Nat) (hn7 : n ≤ 7) (cl : Nat → Nat) (hcl : ∀ j, j < 7 → lies j = nI (cl j) ∧ cl j < 16) (hnn : nn ≤ 4) (hnum : num < 4096) : WrI l yX6_actsBy cX6_actsBy 7 .boolean 7 165 D (tyL cI cZ) (MW cI cZ q thrown textSize place stock (nI n) readStock readCells readParts acts tried soonMany soonWhich kindMany kindFirst restMany restFirst text lies kind readPart page trial book kept isKept triedAbout triedIs gains value seed) [.ref (q 0), .int (nI nn), .int (nI num)] (f_X6_actsBy cl n nn num lies kind page trial).1 (MW cI cZ q thrown textSize place stock (nI n) readStock readCells readParts acts tried soonMany (f_X6_actsBy cl n nn num lies kind page trial).2.1 kindMany kindFirst restMany restFirst text lies kind readPart page (f_X6_actsBy cl n nn num lies kind page trial).2.2 book kept isKept triedAbout triedIs gains value seed) := by
  refine WrI.of (by decide) (Nat.le_of_ble_eq_true rfl) ?_
  intro p e s m args below meth c Q A hx hb hml hown hts hP hK hD hS fin ls hl
  have hown : s.vm.findClass RX6 = some m.cls := hown
  have hF : CallFix p m c cX6_actsBy 7 s args tb RX6 := ⟨hx, hb, hml, hown, hts⟩
  have hl : lv_has ls 7 [(0, .ref (q 0)), (1, .int (nI nn)), (2, .int (nI num))] := hl
  generalize hR : (f_X6_actsBy cl n nn num lies kind page trial) = R at fin
  unfold f_X6_actsBy at hR
  refine lv_aload_n hx hb dX6_actsBy_0 rfl (lv_at hl 0 rfl) ?_
  refine lv_iconst (v := (0 : Int32)) hx hb dX6_actsBy_1 (by decide) ?_
  refine va_put (D := D) (ci := 5) (v := .int (0 : Int32)) (ty := .int) (C := RX6) (T := TX6) (N := 30) hx hb hts tbX6 tyX6 tyX6_ok nmX6 hown hK hP hD hS 0 MW_0 rfl 23 (by decide) (hts _ tm_3_24) (fun _ h9 => h9) rfl (by decide +kernel) rfl rfl (Nat.le_of_ble_eq_true rfl) dX6_actsBy_2 (fun H locs hP _ hS => ?_)
  have hP : va_P D vwCl (MW cI cZ q thrown textSize place stock (nI n) readStock readCells readParts acts tried soonMany (0 : Int32) kindMany kindFirst restMany restFirst text lies kind readPart page trial book kept isKept triedAbout triedIs gains value seed) H := hP
  have hD : va_D A (MW cI cZ q thrown textSize place stock (nI n) readStock readCells readParts acts tried soonMany (0 : Int32) kindMany kindFirst restMany restFirst text lies kind readPart page trial book kept isKept triedAbout triedIs gains value seed) := hD.same (MW_ad.trans MW_ad.symm)
  refine lv_aload_n hx hb dX6_actsBy_5 rfl (lv_at hl 0 rfl) ?_
  refine vWrV (b := (q 0)) (As := []) (rest := []) hF (c_X6_begin l D cI cZ q thrown textSize place stock (nI n) readStock readCells readParts acts tried soonMany (0 : Int32) kindMany kindFirst restMany restFirst text lies kind readPart page trial book kept isKept triedAbout triedIs gains value seed) (gdV tm_3_137 tm_3_139 tp_13 tm_1_6 tm_3_140) de_X6_begin ⟨Nat.le_of_ble_eq_true rfl, Nat.le_of_ble_eq_true rfl⟩ hP hK (va_recv hK hP (ci := 5) (q0 := 0) rfl MW_0) hl.1 rfl (Nat.le_of_ble_eq_true rfl) dX6_actsBy_6 ⟨Nat.zero_le _, Nat.zero_le _⟩ hD hS (fun H locs hP hS => ?_)
  have hP : va_P D vwCl (MW cI cZ q thrown textSize place stock (nI n) readStock readCells readParts acts tried soonMany (0 : Int32) kindMany kindFirst restMany restFirst text lies kind readPart page (f_X6_begin page trial) book kept isKept triedAbout triedIs gains value seed) H := hP
  have hD : va_D A (MW cI cZ q thrown textSize place stock (nI n) readStock readCells readParts acts tried soonMany (0 : Int32) kindMany kindFirst restMany restFirst text lies kind readPart page (f_X6_begin page trial) book kept isKept triedAbout triedIs gains value seed) := hD.same (MW_ad.trans MW_ad.symm)
  refine lv_iconst (v := (0 : Int32)) hx hb dX6_actsBy_9 (by decide) ?_
  refine lv_istore_n (lv' := [(3, .int (0 : Int32)), (0, .ref (q 0)), (1, .int (nI nn)), (2, .int (nI num))]) hx hb dX6_actsBy_10 rfl hl (by decide) rfl (fun ls hl => ?_)
  have key_11 : ∀ (d_11 i_11 : Nat) (sw11 : Int32) (tr11 : Nat → Int32) (ls : Array Slot) (H : Heap) (locs : List Loc), i_11 + d_11 = nn → f_X6_actsBy_l11 cl n nn num lies kind d_11 i_11 sw11 tr11 = R → lv_has ls 7 [(3, .int (nI i_11)), (0, .ref (q 0)), (1, .int (nI nn)), (2, .int (nI num))] → va_P D vwCl (MW cI cZ q thrown textSize place stock (nI n) readStock readCells readParts acts tried soonMany sw11 kindMany kindFirst restMany restFirst text lies kind readPart page tr11 book kept isKept triedAbout triedIs gains value seed) H → va_S A s.heap H locs → W p l e (rmO 7 165) s m args below meth c H locs 0 0 Q (F0 m 11 ls []) := by
    intro d_11
    induction d_11 with
    | zero =>
      intro i_11 sw11 tr11 ls H locs hi_11 hR hl hP hS
      have hD : va_D A (MW cI cZ q thrown textSize place stock (nI n) readStock readCells readParts acts tried soonMany sw11 kindMany kindFirst restMany restFirst text lies kind readPart page tr11 book kept isKept triedAbout triedIs gains value seed) := hD.same (MW_ad.trans MW_ad.symm)
      rw [f_X6_actsBy_l11_z] at hR
      refine lv_iload_n hx hb dX6_actsBy_11 rfl (lv_at hl 0 rfl) ?_
      refine lv_iload_n hx hb dX6_actsBy_12 rfl (lv_at hl 2 rfl) ?_
      refine lv_icmp_ge (tgt := 121) hx hb dX6_actsBy_13 (by decide) (fun c_13 => ?_) (fun c_13 => absurd (nI_le  (by omega) (by omega)) c_13)
      refine lv_iconst (v := (1 : Int32)) hx hb dX6_actsBy_121 (by decide) ?_
      subst hR
      exact fin _ _ _ _ dX6_actsBy_122 (nar_b (Or.inr rfl)) hP hS
    | succ d_11 ih_11 =>
      intro i_11 sw11 tr11 ls H locs hi_11 hR hl hP hS
      have hD : va_D A (MW cI cZ q thrown textSize place stock (nI n) readStock readCells readParts acts tried soonMany sw11 kindMany kindFirst restMany restFirst text lies kind readPart page tr11 book kept isKept triedAbout triedIs gains value seed) := hD.same (MW_ad.trans MW_ad.symm)
      rw [f_X6_actsBy_l11_s] at hR
      refine lv_iload_n hx hb dX6_actsBy_11 rfl (lv_at hl 0 rfl) ?_
      refine lv_iload_n hx hb dX6_actsBy_12 rfl (lv_at hl 2 rfl) ?_
      refine lv_icmp_ge (tgt := 121) hx hb dX6_actsBy_13 (by decide) (fun c_13 => absurd c_13 (nI_ge  (by omega) (by omega))) (fun c_13 => ?_)
      refine lv_iload_n hx hb dX6_actsBy_16 rfl (lv_at hl 3 rfl) ?_
      refine lv_bipush (v := (8 : Int32)) hx hb dX6_actsBy_17 (by decide) ?_
      refine lv_iload_n hx hb dX6_actsBy_19 rfl (lv_at hl 2 rfl) ?_
      refine lv_iconst (v := (1 : Int32)) hx hb dX6_actsBy_20 (by decide) ?_
      refine lv_isub hx hb dX6_actsBy_21 ?_
      refine lv_rw (z := (nI (nn - 1))) (pk_sub (b := 1) (by omega)) ?_
      refine lv_iload_n hx hb dX6_actsBy_22 rfl (lv_at hl 0 rfl) ?_
      refine lv_isub hx hb dX6_actsBy_23 ?_
      refine lv_rw (z := (nI (nn - 1 - i_11))) (pk_sub (by omega)) ?_
      refine sRdI (As := [.int (8 : Int32), .int (nI (nn - 1 - i_11))]) (rest := [.int (nI num)]) hF (c_X6_power l D cI cZ q (8 : Int32) (nI (nn - 1 - i_11)) (by rw [nI_toInt (by omega)]; omega)) (gdS tm_3_238 tm_3_239 tm_1_6 tm_4_0) de_X6_power ⟨Nat.le_of_ble_eq_true rfl, Nat.le_of_ble_eq_true rfl⟩ va_P_nil hK hl.1 rfl (Nat.le_of_ble_eq_true rfl) dX6_actsBy_24 ⟨Nat.zero_le _, Nat.zero_le _⟩ ?_
      refine lv_rw (z := (nI (8 ^ (nn - 1 - i_11)))) (power8 _ (by omega)) ?_
      refine lv_idiv hx hb dX6_actsBy_27 (ne8 _ (by omega)) ?_
      refine lv_rw (z := (nI (num / 8 ^ (nn - 1 - i_11)))) (pk_div (by omega) (Nat.pow_pos (by omega)) (by have := pow8 (nn - 1 - i_11) (by omega); omega)) ?_
      refine lv_bipush (v := (8 : Int32)) hx hb dX6_actsBy_28 (by decide) ?_
      refine lv_irem hx hb dX6_actsBy_30 (by decide) ?_
      refine lv_rw (z := (jr (nI (num / 8 ^ (nn - 1 - i_11))) (8 : Int32))) rfl ?_
      refine lv_rw (z := (nI (num / 8 ^ (nn - 1 - i_11) % 8))) (jr_nI (d := 8) (by have := Nat.div_le_self num (8 ^ (nn - 1 - i_11)); omega) (by omega) (by omega)) ?_
      refine lv_istore (lv' := [(4, .int (nI (num / 8 ^ (nn - 1 - i_11) % 8))), (3, .int (nI i_11)), (0, .ref (q 0)), (1, .int (nI nn)), (2, .int (nI num))]) hx hb dX6_actsBy_31 hl (by decide) rfl (fun ls hl => ?_)
      refine lv_aload_n hx hb dX6_actsBy_33 rfl (lv_at hl 2 rfl) ?_
      refine lv_bipush (v := (10 : Int32)) hx hb dX6_actsBy_34 (by decide) ?_
      refine lv_aload_n hx hb dX6_actsBy_36 rfl (lv_at hl 2 rfl) ?_
      refine va_get (D := D) (ci := 5) (v := .int sw11) (C := RX6) (T := TX6) (N := 30) hx hb hts tbX6 hown hK hP 0 MW_0 rfl 23 (by decide) (hts _ tm_3_24) (fun _ h9 => h9) rfl dX6_actsBy_37 ?_
      refine lv_imul hx hb dX6_actsBy_40 ?_
      refine lv_iload hx hb dX6_actsBy_41 (lv_at hl 0 rfl) ?_
      refine lv_iadd hx hb dX6_actsBy_43 ?_
      refine lv_iconst (v := (1 : Int32)) hx hb dX6_actsBy_44 (by decide) ?_
      refine lv_iadd hx hb dX6_actsBy_45 ?_
      refine va_put (D := D) (ci := 5) (v := .int ((((10 : Int32) * sw11) + (nI (num / 8 ^ (nn - 1 - i_11) % 8))) + (1 : Int32))) (ty := .int) (C := RX6) (T := TX6) (N := 30) hx hb hts tbX6 tyX6 tyX6_ok nmX6 hown hK hP hD hS 0 MW_0 rfl 23 (by decide) (hts _ tm_3_24) (fun _ h9 => h9) rfl (by decide +kernel) rfl rfl (Nat.le_of_ble_eq_true rfl) dX6_actsBy_46 (fun H locs hP _ hS => ?_)
      have hP : va_P D vwCl (MW cI cZ q thrown textSize place stock (nI n) readStock readCells readParts acts tried soonMany ((((10 : Int32) * sw11) + (nI (num / 8 ^ (nn - 1 - i_11) % 8))) + (1 : Int32)) kindMany kindFirst restMany restFirst text lies kind readPart page tr11 book kept isKept triedAbout triedIs gains value seed) H := hP
      have hD : va_D A (MW cI cZ q thrown textSize place stock (nI n) readStock readCells readParts acts tried soonMany ((((10 : Int32) * sw11) + (nI (num / 8 ^ (nn - 1 - i_11) % 8))) + (1 : Int32)) kindMany kindFirst restMany restFirst text lies kind readPart page tr11 book kept isKept triedAbout triedIs gains value seed) := hD.same (MW_ad.trans MW_ad.symm)
      refine lv_iload hx hb dX6_actsBy_49 (lv_at hl 0 rfl) ?_
      refine lv_iconst (v := (4 : Int32)) hx hb dX6_actsBy_51 (by decide) ?_
      refine lv_irem hx hb dX6_actsBy_52 (by decide) ?_
      refine lv_rw (z := (jr (nI (num / 8 ^ (nn - 1 - i_11) % 8)) (4 : Int32))) rfl ?_
      refine lv_rw (z := (nI (num / 8 ^ (nn - 1 - i_11) % 8 % 4))) (jr_nI (d := 4) (by omega) (by omega) (by omega)) ?_
      refine lv_istore (lv' := [(5, .int (nI (num / 8 ^ (nn - 1 - i_11) % 8 % 4))), (4, .int (nI (num / 8 ^ (nn - 1 - i_11) % 8))), (3, .int (nI i_11)), (0, .ref (q 0)), (1, .int (nI nn)), (2, .int (nI num))]) hx hb dX6_actsBy_53 hl (by decide) rfl (fun ls hl => ?_)
      refine lv_iload hx hb dX6_actsBy_55 (lv_at hl 1 rfl) ?_
      refine lv_iconst (v := (4 : Int32)) hx hb dX6_actsBy_57 (by decide) ?_
      refine lv_icmp_ge (tgt := 74) hx hb dX6_actsBy_58 (by decide) (fun c_58 => ?_) (fun c_58 => ?_)
      · rw [if_pos c_58] at hR
        refine lv_aload_n hx hb dX6_actsBy_74 rfl (lv_at hl 3 rfl) ?_
        refine va_get (D := D) (ci := 5) (v := .ref (q 6)) (C := RX6) (T := TX6) (N := 30) hx hb hts tbX6 hown hK hP 0 MW_0 rfl 13 (by decide) (hts _ tm_3_14) (fun _ h9 => h9) rfl dX6_actsBy_75 ?_
        refine lv_iload hx hb dX6_actsBy_78 (lv_at hl 0 rfl) ?_
        refine va_iald hx hb hK hP 6 0 MW_6 rfl (vp_in_nI (show (num / 8 ^ (nn - 1 - i_11) % 8 % 4) < 7 by omega) (by omega)) dX6_actsBy_80 ?_
        refine lv_rw (z := (tr11 (num / 8 ^ (nn - 1 - i_11) % 8 % 4))) (congrArg tr11 (nI_clamp (show (num / 8 ^ (nn - 1 - i_11) % 8 % 4) < 2 ^ 31 by omega))) ?_
        refine lv_if_le (tgt := 88) hx hb dX6_actsBy_81 (by decide) (fun c_81 => ?_) (fun c_81 => ?_)
        · rw [if_pos c_81] at hR
          refine lv_iconst (v := (0 : Int32)) hx hb dX6_actsBy_88 (by decide) ?_
          refine lv_istore (lv' := [(6, .int (0 : Int32)), (5, .int (nI (num / 8 ^ (nn - 1 - i_11) % 8 % 4))), (4, .int (nI (num / 8 ^ (nn - 1 - i_11) % 8))), (3, .int (nI i_11)), (0, .ref (q 0)), (1, .int (nI nn)), (2, .int (nI num))]) hx hb dX6_actsBy_89 hl (by decide) rfl (fun ls hl => ?_)
          refine lv_iload hx hb dX6_actsBy_91 (lv_at hl 0 rfl) ?_
          refine lv_if_ne (tgt := 98) hx hb dX6_actsBy_93 (by decide) (fun c_93 => absurd c_93 (by decide)) (fun c_93 => ?_)
          refine lv_iconst (v := (0 : Int32)) hx hb dX6_actsBy_96 (by decide) ?_
          subst hR
          exact fin _ _ _ _ dX6_actsBy_97 (nar_b (Or.inl rfl)) hP hS
        · rw [if_neg c_81] at hR
          refine lv_iconst (v := (1 : Int32)) hx hb dX6_actsBy_84 (by decide) ?_
          refine lv_goto (tgt := 89) hx hb dX6_actsBy_85 (by decide) ?_
          refine lv_istore (lv' := [(6, .int (1 : Int32)), (5, .int (nI (num / 8 ^ (nn - 1 - i_11) % 8 % 4))), (4, .int (nI (num / 8 ^ (nn - 1 - i_11) % 8))), (3, .int (nI i_11)), (0, .ref (q 0)), (1, .int (nI nn)), (2, .int (nI num))]) hx hb dX6_actsBy_89 hl (by decide) rfl (fun ls hl => ?_)
          refine lv_iload hx hb dX6_actsBy_91 (lv_at hl 0 rfl) ?_
          refine lv_if_ne (tgt := 98) hx hb dX6_actsBy_93 (by decide) (fun c_93 => ?_) (fun c_93 => absurd c_93 (by decide))
          refine lv_iload hx hb dX6_actsBy_98 (lv_at hl 2 rfl) ?_
          refine lv_iconst (v := (4 : Int32)) hx hb dX6_actsBy_100 (by decide) ?_
          refine lv_icmp_lt (tgt := 115) hx hb dX6_actsBy_101 (by decide) (fun c_101 => absurd c_101 (Int32.not_lt.mpr c_58)) (fun c_101 => ?_)
          refine lv_aload_n hx hb dX6_actsBy_104 rfl (lv_at hl 4 rfl) ?_
          refine lv_aload_n hx hb dX6_actsBy_105 rfl (lv_at hl 4 rfl) ?_
          refine va_get (D := D) (ci := 5) (v := .ref (q 6)) (C := RX6) (T := TX6) (N := 30) hx hb hts tbX6 hown hK hP 0 MW_0 rfl 13 (by decide) (hts _ tm_3_14) (fun _ h9 => h9) rfl dX6_actsBy_106 ?_
          refine lv_iload hx hb dX6_actsBy_109 (lv_at hl 1 rfl) ?_
          refine vWrI (b := (q 0)) (As := [.ref (q 6), .int (nI (num / 8 ^ (nn - 1 - i_11) % 8 % 4))]) (rest := []) hF (c_X6_goStrike_trial l D cI cZ q thrown textSize place stock n readStock readCells readParts acts tried soonMany ((((10 : Int32) * sw11) + (nI (num / 8 ^ (nn - 1 - i_11) % 8))) + (1 : Int32)) kindMany kindFirst restMany restFirst text lies kind readPart page tr11 book kept isKept triedAbout triedIs gains value seed (num / 8 ^ (nn - 1 - i_11) % 8 % 4) hn7 (Nat.mod_lt _ (by omega)) cl hcl) (gdV tm_3_206 tm_3_208 tp_23 tm_1_6 tm_3_209) de_X6_goStrike ⟨Nat.le_of_ble_eq_true rfl, Nat.le_of_ble_eq_true rfl⟩ hP hK (va_recv hK hP (ci := 5) (q0 := 0) rfl MW_0) hl.1 rfl (Nat.le_of_ble_eq_true rfl) dX6_actsBy_111 ⟨Nat.zero_le _, Nat.zero_le _⟩ hD hS (fun H locs hP hS => ?_)
          have hP : va_P D vwCl (MW cI cZ q thrown textSize place stock (nI n) readStock readCells readParts acts tried soonMany ((((10 : Int32) * sw11) + (nI (num / 8 ^ (nn - 1 - i_11) % 8))) + (1 : Int32)) kindMany kindFirst restMany restFirst text lies kind readPart page (f_X6_goStrike cl n (num / 8 ^ (nn - 1 - i_11) % 8 % 4) lies kind tr11).2 book kept isKept triedAbout triedIs gains value seed) H := hP
          have hD : va_D A (MW cI cZ q thrown textSize place stock (nI n) readStock readCells readParts acts tried soonMany ((((10 : Int32) * sw11) + (nI (num / 8 ^ (nn - 1 - i_11) % 8))) + (1 : Int32)) kindMany kindFirst restMany restFirst text lies kind readPart page (f_X6_goStrike cl n (num / 8 ^ (nn - 1 - i_11) % 8 % 4) lies kind tr11).2 book kept isKept triedAbout triedIs gains value seed) := hD.same (MW_ad.trans MW_ad.symm)
          refine lv_pop hx hb dX6_actsBy_114 rfl ?_
          refine lv_iinc (v := (nI (i_11 + 1))) (lv' := [(3, .int (nI (i_11 + 1))), (6, .int (1 : Int32)), (5, .int (nI (num / 8 ^ (nn - 1 - i_11) % 8 % 4))), (4, .int (nI (num / 8 ^ (nn - 1 - i_11) % 8))), (0, .ref (q 0)), (1, .int (nI nn)), (2, .int (nI num))]) hx hb dX6_actsBy_115 hl (k := 3) rfl (nI_up i_11) (by decide) rfl (fun ls hl => ?_)
          refine lv_goto (tgt := 11) hx hb dX6_actsBy_118 (by decide) ?_
          exact ih_11 (i_11 + 1) ((((10 : Int32) * sw11) + (nI (num / 8 ^ (nn - 1 - i_11) % 8))) + (1 : Int32)) (f_X6_goStrike cl n (num / 8 ^ (nn - 1 - i_11) % 8 % 4) lies kind tr11).2 ls _ _ (by omega) hR (lv_sub hl [0, 4, 5, 6] rfl) hP hS
      · rw [if_neg c_58] at hR
        refine lv_aload_n hx hb dX6_actsBy_61 rfl (lv_at hl 3 rfl) ?_
        refine lv_aload_n hx hb dX6_actsBy_62 rfl (lv_at hl 3 rfl) ?_
        refine va_get (D := D) (ci := 5) (v := .ref (q 6)) (C := RX6) (T := TX6) (N := 30) hx hb hts tbX6 hown hK hP 0 MW_0 rfl 13 (by decide) (hts _ tm_3_14) (fun _ h9 => h9) rfl dX6_actsBy_63 ?_
        refine lv_iload hx hb dX6_actsBy_66 (lv_at hl 0 rfl) ?_
        refine vWrI (b := (q 0)) (As := [.ref (q 6), .int (nI (num / 8 ^ (nn - 1 - i_11) % 8 % 4))]) (rest := []) hF (c_X6_goPut_trial l D cI cZ q thrown textSize place stock n readStock readCells readParts acts tried soonMany ((((10 : Int32) * sw11) + (nI (num / 8 ^ (nn - 1 - i_11) % 8))) + (1 : Int32)) kindMany kindFirst restMany restFirst text lies kind readPart page tr11 book kept isKept triedAbout triedIs gains value seed (num / 8 ^ (nn - 1 - i_11) % 8 % 4) hn7 (Nat.mod_lt _ (by omega)) cl hcl) (gdV tm_3_198 tm_3_200 tp_22 tm_1_6 tm_3_201) de_X6_goPut ⟨Nat.le_of_ble_eq_true rfl, Nat.le_of_ble_eq_true rfl⟩ hP hK (va_recv hK hP (ci := 5) (q0 := 0) rfl MW_0) hl.1 rfl (Nat.le_of_ble_eq_true rfl) dX6_actsBy_68 ⟨Nat.zero_le _, Nat.zero_le _⟩ hD hS (fun H locs hP hS => ?_)
        have hP : va_P D vwCl (MW cI cZ q thrown textSize place stock (nI n) readStock readCells readParts acts tried soonMany ((((10 : Int32) * sw11) + (nI (num / 8 ^ (nn - 1 - i_11) % 8))) + (1 : Int32)) kindMany kindFirst restMany restFirst text lies kind readPart page (f_X6_goPut cl n (num / 8 ^ (nn - 1 - i_11) % 8 % 4) lies kind tr11).2 book kept isKept triedAbout triedIs gains value seed) H := hP
        have hD : va_D A (MW cI cZ q thrown textSize place stock (nI n) readStock readCells readParts acts tried soonMany ((((10 : Int32) * sw11) + (nI (num / 8 ^ (nn - 1 - i_11) % 8))) + (1 : Int32)) kindMany kindFirst restMany restFirst text lies kind readPart page (f_X6_goPut cl n (num / 8 ^ (nn - 1 - i_11) % 8 % 4) lies kind tr11).2 book kept isKept triedAbout triedIs gains value seed) := hD.same (MW_ad.trans MW_ad.symm)
        refine lv_goto (tgt := 89) hx hb dX6_actsBy_71 (by decide) ?_
        refine lv_istore (lv' := [(6, .int (f_X6_goPut cl n (num / 8 ^ (nn - 1 - i_11) % 8 % 4) lies kind tr11).1), (5, .int (nI (num / 8 ^ (nn - 1 - i_11) % 8 % 4))), (4, .int (nI (num / 8 ^ (nn - 1 - i_11) % 8))), (3, .int (nI i_11)), (0, .ref (q 0)), (1, .int (nI nn)), (2, .int (nI num))]) hx hb dX6_actsBy_89 hl (by decide) rfl (fun ls hl => ?_)
        refine lv_iload hx hb dX6_actsBy_91 (lv_at hl 0 rfl) ?_
        refine lv_if_ne (tgt := 98) hx hb dX6_actsBy_93 (by decide) (fun c_93 => ?_) (fun c_93 => ?_)
        · rw [if_neg c_93] at hR
          refine lv_iload hx hb dX6_actsBy_98 (lv_at hl 2 rfl) ?_
          refine lv_iconst (v := (4 : Int32)) hx hb dX6_actsBy_100 (by decide) ?_
          refine lv_icmp_lt (tgt := 115) hx hb dX6_actsBy_101 (by decide) (fun c_101 => ?_) (fun c_101 => absurd (Int32.not_le.mp c_58) c_101)
          refine lv_iinc (v := (nI (i_11 + 1))) (lv' := [(3, .int (nI (i_11 + 1))), (6, .int (f_X6_goPut cl n (num / 8 ^ (nn - 1 - i_11) % 8 % 4) lies kind tr11).1), (5, .int (nI (num / 8 ^ (nn - 1 - i_11) % 8 % 4))), (4, .int (nI (num / 8 ^ (nn - 1 - i_11) % 8))), (0, .ref (q 0)), (1, .int (nI nn)), (2, .int (nI num))]) hx hb dX6_actsBy_115 hl (k := 3) rfl (nI_up i_11) (by decide) rfl (fun ls hl => ?_)
          refine lv_goto (tgt := 11) hx hb dX6_actsBy_118 (by decide) ?_
          exact ih_11 (i_11 + 1) ((((10 : Int32) * sw11) + (nI (num / 8 ^ (nn - 1 - i_11) % 8))) + (1 : Int32)) (f_X6_goPut cl n (num / 8 ^ (nn - 1 - i_11) % 8 % 4) lies kind tr11).2 ls _ _ (by omega) hR (lv_sub hl [0, 4, 5, 6] rfl) hP hS
        · rw [if_pos c_93] at hR
          refine lv_iconst (v := (0 : Int32)) hx hb dX6_actsBy_96 (by decide) ?_
          subst hR
          exact fin _ _ _ _ dX6_actsBy_97 (nar_b (Or.inl rfl)) hP hS
  exact key_11 nn 0 (0 : Int32) (f_X6_begin page trial) ls _ _ (by omega) hR (lv_sub hl [0, 1, 2, 3] rfl) hP hS
def f_X6_findSoon_l9 (k_9 : (Int32) → (Nat → Int32) → (Int32) × (Int32) × (Nat → Int32)) (cl : Nat → Nat) (n : Nat) (lies : Nat → Int32) (kind : Nat → Int32) (page : Nat → Int32) (a1 : Int32) (i_2 : Nat) : Nat → Nat → (Int32) → (Nat → Int32) → (Int32) × (Int32) × (Nat → Int32)
  | 0, i_9, sw9, tr9 => (k_9 sw9 tr9)
  | d_9 + 1, i_9, sw9, tr9 => (if (f_X6_actsBy cl n i_2 i_9 lies kind page tr9).1 = (0 : Int32) then (f_X6_findSoon_l9 k_9 cl n lies kind page a1 i_2 d_9 (i_9 + 1) (f_X6_actsBy cl n i_2 i_9 lies kind page tr9).2.1 (f_X6_actsBy cl n i_2 i_9 lies kind page tr9).2.2) else (if (a1 &&& (((f_X6_actsBy cl n i_2 i_9 lies kind page tr9).2.2 5) ^^^ (-1 : Int32))) = (0 : Int32) then ((nI i_2), (f_X6_actsBy cl n i_2 i_9 lies kind page tr9).2.1, (f_X6_actsBy cl n i_2 i_9 lies kind page tr9).2.2) else (f_X6_findSoon_l9 k_9 cl n lies kind page a1 i_2 d_9 (i_9 + 1) (f_X6_actsBy cl n i_2 i_9 lies kind page tr9).2.1 (f_X6_actsBy cl n i_2 i_9 lies kind page tr9).2.2)))
theorem f_X6_findSoon_l9_z {k_9 : (Int32) → (Nat → Int32) → (Int32) × (Int32) × (Nat → Int32)} {cl : Nat → Nat} {n : Nat} {lies : Nat → Int32} {kind : Nat → Int32} {page : Nat → Int32} {a1 : Int32} {i_2 : Nat} {i_9 : Nat} {sw9 : Int32} {tr9 : Nat → Int32} : f_X6_findSoon_l9 k_9 cl n lies kind page a1 i_2 0 i_9 sw9 tr9 = (k_9 sw9 tr9) := by rw [f_X6_findSoon_l9]
theorem f_X6_findSoon_l9_s {k_9 : (Int32) → (Nat → Int32) → (Int32) × (Int32) × (Nat → Int32)} {cl : Nat → Nat} {n : Nat} {lies : Nat → Int32} {kind : Nat → Int32} {page : Nat → Int32} {a1 : Int32} {i_2 : Nat} {d_9 : Nat} {i_9 : Nat} {sw9 : Int32} {tr9 : Nat → Int32} : f_X6_findSoon_l9 k_9 cl n lies kind page a1 i_2 (d_9 + 1) i_9 sw9 tr9 = (if (f_X6_actsBy cl n i_2 i_9 lies kind page tr9).1 = (0 : Int32) then (f_X6_findSoon_l9 k_9 cl n lies kind page a1 i_2 d_9 (i_9 + 1) (f_X6_actsBy cl n i_2 i_9 lies kind page tr9).2.1 (f_X6_actsBy cl n i_2 i_9 lies kind page tr9).2.2) else (if (a1 &&& (((f_X6_actsBy cl n i_2 i_9 lies kind page tr9).2.2 5) ^^^ (-1 : Int32))) = (0 : Int32) then ((nI i_2), (f_X6_actsBy cl n i_2 i_9 lies kind page tr9).2.1, (f_X6_actsBy cl n i_2 i_9 lies kind page tr9).2.2) else (f_X6_findSoon_l9 k_9 cl n lies kind page a1 i_2 d_9 (i_9 + 1) (f_X6_actsBy cl n i_2 i_9 lies kind page tr9).2.1 (f_X6_actsBy cl n i_2 i_9 lies kind page tr9).2.2))) := by rw [f_X6_findSoon_l9]
def f_X6_findSoon_l2 (cl : Nat → Nat) (n : Nat) (lies : Nat → Int32) (kind : Nat → Int32) (page : Nat → Int32) (a1 : Int32) : Nat → Nat → (Int32) → (Nat → Int32) → (Int32) × (Int32) × (Nat → Int32)
  | 0, i_2, sw2, tr2 => ((-9 : Int32), (-9 : Int32), tr2)
  | d_2 + 1, i_2, sw2, tr2 => (f_X6_findSoon_l9 (fun (zsw9 : Int32) (ztr9 : Nat → Int32) => (f_X6_findSoon_l2 cl n lies kind page a1 d_2 (i_2 + 1) zsw9 ztr9)) cl n lies kind page a1 i_2 (8 ^ i_2) 0 sw2 tr2)
theorem f_X6_findSoon_l2_z {cl : Nat → Nat} {n : Nat} {lies : Nat → Int32} {kind : Nat → Int32} {page : Nat → Int32} {a1 : Int32} {i_2 : Nat} {sw2 : Int32} {tr2 : Nat → Int32} : f_X6_findSoon_l2 cl n lies kind page a1 0 i_2 sw2 tr2 = ((-9 : Int32), (-9 : Int32), tr2) := by rw [f_X6_findSoon_l2]
theorem f_X6_findSoon_l2_s {cl : Nat → Nat} {n : Nat} {lies : Nat → Int32} {kind : Nat → Int32} {page : Nat → Int32} {a1 : Int32} {d_2 : Nat} {i_2 : Nat} {sw2 : Int32} {tr2 : Nat → Int32} : f_X6_findSoon_l2 cl n lies kind page a1 (d_2 + 1) i_2 sw2 tr2 = (f_X6_findSoon_l9 (fun (zsw9 : Int32) (ztr9 : Nat → Int32) => (f_X6_findSoon_l2 cl n lies kind page a1 d_2 (i_2 + 1) zsw9 ztr9)) cl n lies kind page a1 i_2 (8 ^ i_2) 0 sw2 tr2) := by rw [f_X6_findSoon_l2]
def f_X6_findSoon (cl : Nat → Nat) (n : Nat) (soonWhich : Int32) (lies : Nat → Int32) (kind : Nat → Int32) (page : Nat → Int32) (trial : Nat → Int32) (a1 : Int32) : (Int32) × (Int32) × (Nat → Int32) := (f_X6_findSoon_l2 cl n lies kind page a1 5 0 soonWhich trial)
set_option maxHeartbeats 4000000 in
set_option maxRecDepth 100000 in
theorem c_X6_findSoon (l : Launch) (D : va_G) (cI cZ : ClassId) (q : Nat → Nat) (thrown : Int32) (textSize : Int32) (place : Int32) (stock : Int32) (n : Nat) (readStock : Int32) (readCells : Int32) (readParts : Int32) (acts : Int32) (tried : Int32) (soonMany : Int32) (soonWhich : Int32) (kindMany : Int32) (kindFirst : Int32) (restMany : Int32) (restFirst : Int32) (text lies kind readPart page trial book kept isKept triedAbout triedIs gains value : Nat → Int32) (seed : Int64) (a1 : Int32) (hn7 : n ≤ 7) (cl : Nat → Nat) (hcl : ∀ j, j < 7 → lies j = nI (cl j) ∧ cl j < 16) : WrV l yX6_findSoon cX6_findSoon 4 8 191 D (tyL cI cZ) (MW cI cZ q thrown textSize place stock (nI n) readStock readCells readParts acts tried soonMany soonWhich kindMany kindFirst restMany restFirst text lies kind readPart page trial book kept isKept triedAbout triedIs gains value seed) [.ref (q 0), .int a1] (MW cI cZ q thrown textSize place stock (nI n) readStock readCells readParts acts tried (f_X6_findSoon cl n soonWhich lies kind page trial a1).1 (f_X6_findSoon cl n soonWhich lies kind page trial a1).2.1 kindMany kindFirst restMany restFirst text lies kind readPart page (f_X6_findSoon cl n soonWhich lies kind page trial a1).2.2 book kept isKept triedAbout triedIs gains value seed) := by
  refine WrV.of (by decide) (Nat.le_of_ble_eq_true rfl) ?_
  intro p e s m args below meth c Q A hx hb hml hown hts hP hK hD hS fin ls hl
  have hown : s.vm.findClass RX6 = some m.cls := hown
  have hF : CallFix p m c cX6_findSoon 4 s args tb RX6 := ⟨hx, hb, hml, hown, hts⟩
  have hl : lv_has ls 4 [(0, .ref (q 0)), (1, .int a1)] := hl
  generalize hR : (f_X6_findSoon cl n soonWhich lies kind page trial a1) = R at fin
  unfold f_X6_findSoon at hR
  refine lv_iconst (v := (0 : Int32)) hx hb dX6_findSoon_0 (by decide) ?_
  refine lv_istore_n (lv' := [(2, .int (0 : Int32)), (0, .ref (q 0)), (1, .int a1)]) hx hb dX6_findSoon_1 rfl hl (by decide) rfl (fun ls hl => ?_)
  have key_2 : ∀ (d_2 i_2 : Nat) (sw2 : Int32) (tr2 : Nat → Int32) (ls : Array Slot) (H : Heap) (locs : List Loc), i_2 + d_2 = 5 → f_X6_findSoon_l2 cl n lies kind page a1 d_2 i_2 sw2 tr2 = R → lv_has ls 4 [(2, .int (nI i_2)), (0, .ref (q 0)), (1, .int a1)] → va_P D vwCl (MW cI cZ q thrown textSize place stock (nI n) readStock readCells readParts acts tried soonMany sw2 kindMany kindFirst restMany restFirst text lies kind readPart page tr2 book kept isKept triedAbout triedIs gains value seed) H → va_S A s.heap H locs → W p l e (rmO 8 191) s m args below meth c H locs 0 0 Q (F0 m 2 ls []) := by
    intro d_2
    induction d_2 with
    | zero =>
      intro i_2 sw2 tr2 ls H locs hi_2 hR hl hP hS
      have hD : va_D A (MW cI cZ q thrown textSize place stock (nI n) readStock readCells readParts acts tried soonMany sw2 kindMany kindFirst restMany restFirst text lies kind readPart page tr2 book kept isKept triedAbout triedIs gains value seed) := hD.same (MW_ad.trans MW_ad.symm)
      rw [f_X6_findSoon_l2_z] at hR
      refine lv_iload_n hx hb dX6_findSoon_2 rfl (lv_at hl 0 rfl) ?_
      refine lv_iconst (v := (4 : Int32)) hx hb dX6_findSoon_3 (by decide) ?_
      refine lv_icmp_gt (tgt := 59) hx hb dX6_findSoon_4 (by decide) (fun c_4 => ?_) (fun c_4 => absurd (nI_lt (a := 4) (by omega) (by omega)) c_4)
      refine lv_aload_n hx hb dX6_findSoon_59 rfl (lv_at hl 1 rfl) ?_
      refine lv_bipush (v := (-9 : Int32)) hx hb dX6_findSoon_60 (by decide) ?_
      refine va_put (D := D) (ci := 5) (v := .int (-9 : Int32)) (ty := .int) (C := RX6) (T := TX6) (N := 30) hx hb hts tbX6 tyX6 tyX6_ok nmX6 hown hK hP hD hS 0 MW_0 rfl 22 (by decide) (hts _ tm_3_23) (fun _ h9 => h9) rfl (by decide +kernel) rfl rfl (Nat.le_of_ble_eq_true rfl) dX6_findSoon_62 (fun H locs hP _ hS => ?_)
      have hP : va_P D vwCl (MW cI cZ q thrown textSize place stock (nI n) readStock readCells readParts acts tried (-9 : Int32) sw2 kindMany kindFirst restMany restFirst text lies kind readPart page tr2 book kept isKept triedAbout triedIs gains value seed) H := hP
      have hD : va_D A (MW cI cZ q thrown textSize place stock (nI n) readStock readCells readParts acts tried (-9 : Int32) sw2 kindMany kindFirst restMany restFirst text lies kind readPart page tr2 book kept isKept triedAbout triedIs gains value seed) := hD.same (MW_ad.trans MW_ad.symm)
      refine lv_aload_n hx hb dX6_findSoon_65 rfl (lv_at hl 1 rfl) ?_
      refine lv_bipush (v := (-9 : Int32)) hx hb dX6_findSoon_66 (by decide) ?_
      refine va_put (D := D) (ci := 5) (v := .int (-9 : Int32)) (ty := .int) (C := RX6) (T := TX6) (N := 30) hx hb hts tbX6 tyX6 tyX6_ok nmX6 hown hK hP hD hS 0 MW_0 rfl 23 (by decide) (hts _ tm_3_24) (fun _ h9 => h9) rfl (by decide +kernel) rfl rfl (Nat.le_of_ble_eq_true rfl) dX6_findSoon_68 (fun H locs hP _ hS => ?_)
      have hP : va_P D vwCl (MW cI cZ q thrown textSize place stock (nI n) readStock readCells readParts acts tried (-9 : Int32) (-9 : Int32) kindMany kindFirst restMany restFirst text lies kind readPart page tr2 book kept isKept triedAbout triedIs gains value seed) H := hP
      have hD : va_D A (MW cI cZ q thrown textSize place stock (nI n) readStock readCells readParts acts tried (-9 : Int32) (-9 : Int32) kindMany kindFirst restMany restFirst text lies kind readPart page tr2 book kept isKept triedAbout triedIs gains value seed) := hD.same (MW_ad.trans MW_ad.symm)
      subst hR
      exact fin _ _ _ _ dX6_findSoon_71 hP hS
    | succ d_2 ih_2 =>
      intro i_2 sw2 tr2 ls H locs hi_2 hR hl hP hS
      have hD : va_D A (MW cI cZ q thrown textSize place stock (nI n) readStock readCells readParts acts tried soonMany sw2 kindMany kindFirst restMany restFirst text lies kind readPart page tr2 book kept isKept triedAbout triedIs gains value seed) := hD.same (MW_ad.trans MW_ad.symm)
      rw [f_X6_findSoon_l2_s] at hR
      refine lv_iload_n hx hb dX6_findSoon_2 rfl (lv_at hl 0 rfl) ?_
      refine lv_iconst (v := (4 : Int32)) hx hb dX6_findSoon_3 (by decide) ?_
      refine lv_icmp_gt (tgt := 59) hx hb dX6_findSoon_4 (by decide) (fun c_4 => absurd c_4 (nI_nlt (a := 4) (by omega) (by omega))) (fun c_4 => ?_)
      have h8 := pow8 i_2 (by omega)
      refine lv_iconst (v := (0 : Int32)) hx hb dX6_findSoon_7 (by decide) ?_
      refine lv_istore_n (lv' := [(3, .int (0 : Int32)), (2, .int (nI i_2)), (0, .ref (q 0)), (1, .int a1)]) hx hb dX6_findSoon_8 rfl hl (by decide) rfl (fun ls hl => ?_)
      have key_9 : ∀ (d_9 i_9 : Nat) (sw9 : Int32) (tr9 : Nat → Int32) (ls : Array Slot) (H : Heap) (locs : List Loc), i_9 + d_9 = (8 ^ i_2) → f_X6_findSoon_l9 (fun (zsw9 : Int32) (ztr9 : Nat → Int32) => (f_X6_findSoon_l2 cl n lies kind page a1 d_2 (i_2 + 1) zsw9 ztr9)) cl n lies kind page a1 i_2 d_9 i_9 sw9 tr9 = R → lv_has ls 4 [(3, .int (nI i_9)), (2, .int (nI i_2)), (0, .ref (q 0)), (1, .int a1)] → va_P D vwCl (MW cI cZ q thrown textSize place stock (nI n) readStock readCells readParts acts tried soonMany sw9 kindMany kindFirst restMany restFirst text lies kind readPart page tr9 book kept isKept triedAbout triedIs gains value seed) H → va_S A s.heap H locs → W p l e (rmO 8 191) s m args below meth c H locs 0 0 Q (F0 m 9 ls []) := by
        intro d_9
        induction d_9 with
        | zero =>
          intro i_9 sw9 tr9 ls H locs hi_9 hR hl hP hS
          have hD : va_D A (MW cI cZ q thrown textSize place stock (nI n) readStock readCells readParts acts tried soonMany sw9 kindMany kindFirst restMany restFirst text lies kind readPart page tr9 book kept isKept triedAbout triedIs gains value seed) := hD.same (MW_ad.trans MW_ad.symm)
          rw [f_X6_findSoon_l9_z] at hR
          refine lv_iload_n hx hb dX6_findSoon_9 rfl (lv_at hl 0 rfl) ?_
          refine lv_bipush (v := (8 : Int32)) hx hb dX6_findSoon_10 (by decide) ?_
          refine lv_iload_n hx hb dX6_findSoon_12 rfl (lv_at hl 1 rfl) ?_
          refine sRdI (As := [.int (8 : Int32), .int (nI i_2)]) (rest := [.int (nI i_9)]) hF (c_X6_power l D cI cZ q (8 : Int32) (nI i_2) (by rw [nI_toInt (by omega)]; omega)) (gdS tm_3_238 tm_3_239 tm_1_6 tm_4_0) de_X6_power ⟨Nat.le_of_ble_eq_true rfl, Nat.le_of_ble_eq_true rfl⟩ va_P_nil hK hl.1 rfl (Nat.le_of_ble_eq_true rfl) dX6_findSoon_13 ⟨Nat.zero_le _, Nat.zero_le _⟩ ?_
          refine lv_rw (z := (nI (8 ^ i_2))) (power8 _ (by omega)) ?_
          refine lv_icmp_ge (tgt := 53) hx hb dX6_findSoon_16 (by decide) (fun c_16 => ?_) (fun c_16 => absurd (nI_le  (by omega) (by omega)) c_16)
          try dsimp only at hR
          refine lv_iinc (v := (nI (i_2 + 1))) (lv' := [(2, .int (nI (i_2 + 1))), (3, .int (nI i_9)), (0, .ref (q 0)), (1, .int a1)]) hx hb dX6_findSoon_53 hl (k := 1) rfl (nI_up i_2) (by decide) rfl (fun ls hl => ?_)
          refine lv_goto (tgt := 2) hx hb dX6_findSoon_56 (by decide) ?_
          exact ih_2 (i_2 + 1) sw9 tr9 ls _ _ (by omega) hR (lv_sub hl [0, 2, 3] rfl) hP hS
        | succ d_9 ih_9 =>
          intro i_9 sw9 tr9 ls H locs hi_9 hR hl hP hS
          have hD : va_D A (MW cI cZ q thrown textSize place stock (nI n) readStock readCells readParts acts tried soonMany sw9 kindMany kindFirst restMany restFirst text lies kind readPart page tr9 book kept isKept triedAbout triedIs gains value seed) := hD.same (MW_ad.trans MW_ad.symm)
          rw [f_X6_findSoon_l9_s] at hR
          refine lv_iload_n hx hb dX6_findSoon_9 rfl (lv_at hl 0 rfl) ?_
          refine lv_bipush (v := (8 : Int32)) hx hb dX6_findSoon_10 (by decide) ?_
          refine lv_iload_n hx hb dX6_findSoon_12 rfl (lv_at hl 1 rfl) ?_
          refine sRdI (As := [.int (8 : Int32), .int (nI i_2)]) (rest := [.int (nI i_9)]) hF (c_X6_power l D cI cZ q (8 : Int32) (nI i_2) (by rw [nI_toInt (by omega)]; omega)) (gdS tm_3_238 tm_3_239 tm_1_6 tm_4_0) de_X6_power ⟨Nat.le_of_ble_eq_true rfl, Nat.le_of_ble_eq_true rfl⟩ va_P_nil hK hl.1 rfl (Nat.le_of_ble_eq_true rfl) dX6_findSoon_13 ⟨Nat.zero_le _, Nat.zero_le _⟩ ?_
          refine lv_rw (z := (nI (8 ^ i_2))) (power8 _ (by omega)) ?_
          refine lv_icmp_ge (tgt := 53) hx hb dX6_findSoon_16 (by decide) (fun c_16 => absurd c_16 (nI_ge  (by omega) (by omega))) (fun c_16 => ?_)
          refine lv_aload_n hx hb dX6_findSoon_19 rfl (lv_at hl 2 rfl) ?_
          refine lv_iload_n hx hb dX6_findSoon_20 rfl (lv_at hl 1 rfl) ?_
          refine lv_iload_n hx hb dX6_findSoon_21 rfl (lv_at hl 0 rfl) ?_
          refine vWrI (b := (q 0)) (As := [.int (nI i_2), .int (nI i_9)]) (rest := []) hF (c_X6_actsBy l D cI cZ q thrown textSize place stock n readStock readCells readParts acts tried soonMany sw9 kindMany kindFirst restMany restFirst text lies kind readPart page tr9 book kept isKept triedAbout triedIs gains value seed i_2 i_9 hn7 cl hcl (by omega) (by omega)) (gdV tm_4_1 tm_4_3 tp_26 tm_1_6 tm_4_4) de_X6_actsBy ⟨Nat.le_of_ble_eq_true rfl, Nat.le_of_ble_eq_true rfl⟩ hP hK (va_recv hK hP (ci := 5) (q0 := 0) rfl MW_0) hl.1 rfl (Nat.le_of_ble_eq_true rfl) dX6_findSoon_22 ⟨Nat.zero_le _, Nat.zero_le _⟩ hD hS (fun H locs hP hS => ?_)
          have hP : va_P D vwCl (MW cI cZ q thrown textSize place stock (nI n) readStock readCells readParts acts tried soonMany (f_X6_actsBy cl n i_2 i_9 lies kind page tr9).2.1 kindMany kindFirst restMany restFirst text lies kind readPart page (f_X6_actsBy cl n i_2 i_9 lies kind page tr9).2.2 book kept isKept triedAbout triedIs gains value seed) H := hP
          have hD : va_D A (MW cI cZ q thrown textSize place stock (nI n) readStock readCells readParts acts tried soonMany (f_X6_actsBy cl n i_2 i_9 lies kind page tr9).2.1 kindMany kindFirst restMany restFirst text lies kind readPart page (f_X6_actsBy cl n i_2 i_9 lies kind page tr9).2.2 book kept isKept triedAbout triedIs gains value seed) := hD.same (MW_ad.trans MW_ad.symm)
          refine lv_if_eq (tgt := 47) hx hb dX6_findSoon_25 (by decide) (fun c_25 => ?_) (fun c_25 => ?_)
          · rw [if_pos c_25] at hR
            refine lv_iinc (v := (nI (i_9 + 1))) (lv' := [(3, .int (nI (i_9 + 1))), (2, .int (nI i_2)), (0, .ref (q 0)), (1, .int a1)]) hx hb dX6_findSoon_47 hl (k := 0) rfl (nI_up i_9) (by decide) rfl (fun ls hl => ?_)
            refine lv_goto (tgt := 9) hx hb dX6_findSoon_50 (by decide) ?_
            exact ih_9 (i_9 + 1) (f_X6_actsBy cl n i_2 i_9 lies kind page tr9).2.1 (f_X6_actsBy cl n i_2 i_9 lies kind page tr9).2.2 ls _ _ (by omega) hR (lv_sub hl [0, 1, 2, 3] rfl) hP hS
          · rw [if_neg c_25] at hR
            refine lv_iload_n hx hb dX6_findSoon_28 rfl (lv_at hl 3 rfl) ?_
            refine lv_aload_n hx hb dX6_findSoon_29 rfl (lv_at hl 2 rfl) ?_
            refine va_get (D := D) (ci := 5) (v := .ref (q 6)) (C := RX6) (T := TX6) (N := 30) hx hb hts tbX6 hown hK hP 0 MW_0 rfl 13 (by decide) (hts _ tm_3_14) (fun _ h9 => h9) rfl dX6_findSoon_30 ?_
            refine lv_iconst (v := (5 : Int32)) hx hb dX6_findSoon_33 (by decide) ?_
            refine va_iald hx hb hK hP 6 0 MW_6 rfl (vp_in_nI (n := 5) (by decide) (by decide)) dX6_findSoon_34 ?_
            refine lv_rw (z := ((f_X6_actsBy cl n i_2 i_9 lies kind page tr9).2.2 5)) (congrArg (f_X6_actsBy cl n i_2 i_9 lies kind page tr9).2.2 cl_5) ?_
            refine lv_iconst (v := (-1 : Int32)) hx hb dX6_findSoon_35 (by decide) ?_
            refine lv_ixor hx hb dX6_findSoon_36 ?_
            refine lv_iand hx hb dX6_findSoon_37 ?_
            refine lv_if_ne (tgt := 47) hx hb dX6_findSoon_38 (by decide) (fun c_38 => ?_) (fun c_38 => ?_)
            · rw [if_neg c_38] at hR
              refine lv_iinc (v := (nI (i_9 + 1))) (lv' := [(3, .int (nI (i_9 + 1))), (2, .int (nI i_2)), (0, .ref (q 0)), (1, .int a1)]) hx hb dX6_findSoon_47 hl (k := 0) rfl (nI_up i_9) (by decide) rfl (fun ls hl => ?_)
              refine lv_goto (tgt := 9) hx hb dX6_findSoon_50 (by decide) ?_
              exact ih_9 (i_9 + 1) (f_X6_actsBy cl n i_2 i_9 lies kind page tr9).2.1 (f_X6_actsBy cl n i_2 i_9 lies kind page tr9).2.2 ls _ _ (by omega) hR (lv_sub hl [0, 1, 2, 3] rfl) hP hS
            · rw [if_pos c_38] at hR
              refine lv_aload_n hx hb dX6_findSoon_41 rfl (lv_at hl 2 rfl) ?_
              refine lv_iload_n hx hb dX6_findSoon_42 rfl (lv_at hl 1 rfl) ?_
              refine va_put (D := D) (ci := 5) (v := .int (nI i_2)) (ty := .int) (C := RX6) (T := TX6) (N := 30) hx hb hts tbX6 tyX6 tyX6_ok nmX6 hown hK hP hD hS 0 MW_0 rfl 22 (by decide) (hts _ tm_3_23) (fun _ h9 => h9) rfl (by decide +kernel) rfl rfl (Nat.le_of_ble_eq_true rfl) dX6_findSoon_43 (fun H locs hP _ hS => ?_)
              have hP : va_P D vwCl (MW cI cZ q thrown textSize place stock (nI n) readStock readCells readParts acts tried (nI i_2) (f_X6_actsBy cl n i_2 i_9 lies kind page tr9).2.1 kindMany kindFirst restMany restFirst text lies kind readPart page (f_X6_actsBy cl n i_2 i_9 lies kind page tr9).2.2 book kept isKept triedAbout triedIs gains value seed) H := hP
              have hD : va_D A (MW cI cZ q thrown textSize place stock (nI n) readStock readCells readParts acts tried (nI i_2) (f_X6_actsBy cl n i_2 i_9 lies kind page tr9).2.1 kindMany kindFirst restMany restFirst text lies kind readPart page (f_X6_actsBy cl n i_2 i_9 lies kind page tr9).2.2 book kept isKept triedAbout triedIs gains value seed) := hD.same (MW_ad.trans MW_ad.symm)
              subst hR
              exact fin _ _ _ _ dX6_findSoon_46 hP hS
      exact key_9 (8 ^ i_2) 0 sw2 tr2 ls _ _ (by omega) hR (lv_sub hl [0, 1, 2, 3] rfl) hP hS
  exact key_2 5 0 soonWhich trial ls _ _ (by omega) hR (lv_sub hl [0, 1, 2] rfl) hP hS
def f_X6_soon (cl : Nat → Nat) (n : Nat) (soonMany : Int32) (soonWhich : Int32) (lies : Nat → Int32) (kind : Nat → Int32) (page : Nat → Int32) (trial : Nat → Int32) (a1 : Int32) (a2 : Int32) : (Int32) × (Int32) × (Int32) × (Int32) × (Nat → Int32) := (if (f_X6_in a1.toInt64 (0 : Int64) ((shl (1 : Int32) (nI n)) - (1 : Int32)).toInt64) = (0 : Int32) then ((-2 : Int32), (0 : Int32), soonMany, soonWhich, trial) else (if (f_X6_in a2.toInt64 (0 : Int64) (1 : Int64)) = (0 : Int32) then ((-2 : Int32), (0 : Int32), soonMany, soonWhich, trial) else (if a2 = (0 : Int32) then ((f_X6_findSoon cl n soonWhich lies kind page trial a1).1, (0 : Int32), (f_X6_findSoon cl n soonWhich lies kind page trial a1).1, (f_X6_findSoon cl n soonWhich lies kind page trial a1).2.1, (f_X6_findSoon cl n soonWhich lies kind page trial a1).2.2) else ((f_X6_findSoon cl n soonWhich lies kind page trial a1).2.1, (0 : Int32), (f_X6_findSoon cl n soonWhich lies kind page trial a1).1, (f_X6_findSoon cl n soonWhich lies kind page trial a1).2.1, (f_X6_findSoon cl n soonWhich lies kind page trial a1).2.2))))
set_option maxHeartbeats 4000000 in
set_option maxRecDepth 100000 in
theorem c_X6_soon (l : Launch) (D : va_G) (cI cZ : ClassId) (q : Nat → Nat) (thrown : Int32) (textSize : Int32) (place : Int32) (stock : Int32) (n : Nat) (readStock : Int32) (readCells : Int32) (readParts : Int32) (acts : Int32) (tried : Int32) (soonMany : Int32) (soonWhich : Int32) (kindMany : Int32) (kindFirst : Int32) (restMany : Int32) (restFirst : Int32) (text lies kind readPart page trial book kept isKept triedAbout triedIs gains value : Nat → Int32) (seed : Int64) (a1 : Int32) (a2 : Int32) (hn7 : n ≤ 7) (cl : Nat → Nat) (hcl : ∀ j, j < 7 → lies j = nI (cl j) ∧ cl j < 16) : WrI l yX6_soon cX6_soon 3 .int 9 214 D (tyL cI cZ) (MW cI cZ q thrown textSize place stock (nI n) readStock readCells readParts acts tried soonMany soonWhich kindMany kindFirst restMany restFirst text lies kind readPart page trial book kept isKept triedAbout triedIs gains value seed) [.ref (q 0), .int a1, .int a2] (f_X6_soon cl n soonMany soonWhich lies kind page trial a1 a2).1 (MW cI cZ q (f_X6_soon cl n soonMany soonWhich lies kind page trial a1 a2).2.1 textSize place stock (nI n) readStock readCells readParts acts tried (f_X6_soon cl n soonMany soonWhich lies kind page trial a1 a2).2.2.1 (f_X6_soon cl n soonMany soonWhich lies kind page trial a1 a2).2.2.2.1 kindMany kindFirst restMany restFirst text lies kind readPart page (f_X6_soon cl n soonMany soonWhich lies kind page trial a1 a2).2.2.2.2 book kept isKept triedAbout triedIs gains value seed) := by
  refine WrI.of (by decide) (Nat.le_of_ble_eq_true rfl) ?_
  intro p e s m args below meth c Q A hx hb hml hown hts hP hK hD hS fin ls hl
  have hown : s.vm.findClass RX6 = some m.cls := hown
  have hF : CallFix p m c cX6_soon 3 s args tb RX6 := ⟨hx, hb, hml, hown, hts⟩
  have hl : lv_has ls 3 [(0, .ref (q 0)), (1, .int a1), (2, .int a2)] := hl
  generalize hR : (f_X6_soon cl n soonMany soonWhich lies kind page trial a1 a2) = R at fin
  unfold f_X6_soon at hR
  refine lv_aload_n hx hb dX6_soon_0 rfl (lv_at hl 0 rfl) ?_
  refine lv_iconst (v := (0 : Int32)) hx hb dX6_soon_1 (by decide) ?_
  refine va_put (D := D) (ci := 5) (v := .int (0 : Int32)) (ty := .int) (C := RX6) (T := TX6) (N := 30) hx hb hts tbX6 tyX6 tyX6_ok nmX6 hown hK hP hD hS 0 MW_0 rfl 0 (by decide) (hts _ tm_3_1) (fun _ h9 => h9) rfl (by decide +kernel) rfl rfl (Nat.le_of_ble_eq_true rfl) dX6_soon_2 (fun H locs hP _ hS => ?_)
  have hP : va_P D vwCl (MW cI cZ q (0 : Int32) textSize place stock (nI n) readStock readCells readParts acts tried soonMany soonWhich kindMany kindFirst restMany restFirst text lies kind readPart page trial book kept isKept triedAbout triedIs gains value seed) H := hP
  have hD : va_D A (MW cI cZ q (0 : Int32) textSize place stock (nI n) readStock readCells readParts acts tried soonMany soonWhich kindMany kindFirst restMany restFirst text lies kind readPart page trial book kept isKept triedAbout triedIs gains value seed) := hD.same (MW_ad.trans MW_ad.symm)
  refine lv_iload_n hx hb dX6_soon_5 rfl (lv_at hl 1 rfl) ?_
  refine lv_i2l (v := a1.toInt64) hx hb dX6_soon_6 rfl ?_
  refine lv_lconst (v := (0 : Int64)) hx hb dX6_soon_7 (by decide) ?_
  refine lv_iconst (v := (1 : Int32)) hx hb dX6_soon_8 (by decide) ?_
  refine lv_aload_n hx hb dX6_soon_9 rfl (lv_at hl 0 rfl) ?_
  refine va_get (D := D) (ci := 5) (v := .int (nI n)) (C := RX6) (T := TX6) (N := 30) hx hb hts tbX6 hown hK hP 0 MW_0 rfl 5 (by decide) (hts _ tm_3_6) (fun _ h9 => h9) rfl dX6_soon_10 ?_
  refine lv_ishl hx hb dX6_soon_13 ?_
  refine lv_rw (z := (shl (1 : Int32) (nI n))) rfl ?_
  refine lv_iconst (v := (1 : Int32)) hx hb dX6_soon_14 (by decide) ?_
  refine lv_isub hx hb dX6_soon_15 ?_
  refine lv_i2l (v := ((shl (1 : Int32) (nI n)) - (1 : Int32)).toInt64) hx hb dX6_soon_16 rfl ?_
  refine sRdI (As := [.long a1.toInt64, .long (0 : Int64), .long ((shl (1 : Int32) (nI n)) - (1 : Int32)).toInt64]) (rest := []) hF (c_X6_in l D cI cZ q a1.toInt64 (0 : Int64) ((shl (1 : Int32) (nI n)) - (1 : Int32)).toInt64) (gdS tm_3_97 tm_3_98 tm_1_6 tm_3_99) de_X6_in ⟨Nat.le_of_ble_eq_true rfl, Nat.le_of_ble_eq_true rfl⟩ va_P_nil hK hl.1 rfl (Nat.le_of_ble_eq_true rfl) dX6_soon_17 ⟨Nat.zero_le _, Nat.zero_le _⟩ ?_
  refine lv_if_eq (tgt := 33) hx hb dX6_soon_20 (by decide) (fun c_20 => ?_) (fun c_20 => ?_)
  · rw [if_pos c_20] at hR
    refine lv_bipush (v := (-2 : Int32)) hx hb dX6_soon_33 (by decide) ?_
    subst hR
    exact fin _ _ _ _ dX6_soon_35 (nar_i _) hP hS
  · rw [if_neg c_20] at hR
    refine lv_iload_n hx hb dX6_soon_23 rfl (lv_at hl 2 rfl) ?_
    refine lv_i2l (v := a2.toInt64) hx hb dX6_soon_24 rfl ?_
    refine lv_lconst (v := (0 : Int64)) hx hb dX6_soon_25 (by decide) ?_
    refine lv_lconst (v := (1 : Int64)) hx hb dX6_soon_26 (by decide) ?_
    refine sRdI (As := [.long a2.toInt64, .long (0 : Int64), .long (1 : Int64)]) (rest := []) hF (c_X6_in l D cI cZ q a2.toInt64 (0 : Int64) (1 : Int64)) (gdS tm_3_97 tm_3_98 tm_1_6 tm_3_99) de_X6_in ⟨Nat.le_of_ble_eq_true rfl, Nat.le_of_ble_eq_true rfl⟩ va_P_nil hK hl.1 rfl (Nat.le_of_ble_eq_true rfl) dX6_soon_27 ⟨Nat.zero_le _, Nat.zero_le _⟩ ?_
    refine lv_if_ne (tgt := 36) hx hb dX6_soon_30 (by decide) (fun c_30 => ?_) (fun c_30 => ?_)
    · rw [if_neg c_30] at hR
      refine lv_aload_n hx hb dX6_soon_36 rfl (lv_at hl 0 rfl) ?_
      refine lv_iload_n hx hb dX6_soon_37 rfl (lv_at hl 1 rfl) ?_
      refine vWrV (b := (q 0)) (As := [.int a1]) (rest := []) hF (c_X6_findSoon l D cI cZ q (0 : Int32) textSize place stock n readStock readCells readParts acts tried soonMany soonWhich kindMany kindFirst restMany restFirst text lies kind readPart page trial book kept isKept triedAbout triedIs gains value seed a1 hn7 cl hcl) (gdV tm_3_234 tm_3_236 tp_25 tm_1_6 tm_3_237) de_X6_findSoon ⟨Nat.le_of_ble_eq_true rfl, Nat.le_of_ble_eq_true rfl⟩ hP hK (va_recv hK hP (ci := 5) (q0 := 0) rfl MW_0) hl.1 rfl (Nat.le_of_ble_eq_true rfl) dX6_soon_38 ⟨Nat.zero_le _, Nat.zero_le _⟩ hD hS (fun H locs hP hS => ?_)
      have hP : va_P D vwCl (MW cI cZ q (0 : Int32) textSize place stock (nI n) readStock readCells readParts acts tried (f_X6_findSoon cl n soonWhich lies kind page trial a1).1 (f_X6_findSoon cl n soonWhich lies kind page trial a1).2.1 kindMany kindFirst restMany restFirst text lies kind readPart page (f_X6_findSoon cl n soonWhich lies kind page trial a1).2.2 book kept isKept triedAbout triedIs gains value seed) H := hP
      have hD : va_D A (MW cI cZ q (0 : Int32) textSize place stock (nI n) readStock readCells readParts acts tried (f_X6_findSoon cl n soonWhich lies kind page trial a1).1 (f_X6_findSoon cl n soonWhich lies kind page trial a1).2.1 kindMany kindFirst restMany restFirst text lies kind readPart page (f_X6_findSoon cl n soonWhich lies kind page trial a1).2.2 book kept isKept triedAbout triedIs gains value seed) := hD.same (MW_ad.trans MW_ad.symm)
      refine lv_iload_n hx hb dX6_soon_41 rfl (lv_at hl 2 rfl) ?_
      refine lv_if_ne (tgt := 52) hx hb dX6_soon_42 (by decide) (fun c_42 => ?_) (fun c_42 => ?_)
      · rw [if_neg c_42] at hR
        refine lv_aload_n hx hb dX6_soon_52 rfl (lv_at hl 0 rfl) ?_
        refine va_get (D := D) (ci := 5) (v := .int (f_X6_findSoon cl n soonWhich lies kind page trial a1).2.1) (C := RX6) (T := TX6) (N := 30) hx hb hts tbX6 hown hK hP 0 MW_0 rfl 23 (by decide) (hts _ tm_3_24) (fun _ h9 => h9) rfl dX6_soon_53 ?_
        subst hR
        exact fin _ _ _ _ dX6_soon_56 (nar_i _) hP hS
      · rw [if_pos c_42] at hR
        refine lv_aload_n hx hb dX6_soon_45 rfl (lv_at hl 0 rfl) ?_
        refine va_get (D := D) (ci := 5) (v := .int (f_X6_findSoon cl n soonWhich lies kind page trial a1).1) (C := RX6) (T := TX6) (N := 30) hx hb hts tbX6 hown hK hP 0 MW_0 rfl 22 (by decide) (hts _ tm_3_23) (fun _ h9 => h9) rfl dX6_soon_46 ?_
        refine lv_goto (tgt := 56) hx hb dX6_soon_49 (by decide) ?_
        subst hR
        exact fin _ _ _ _ dX6_soon_56 (nar_i _) hP hS
    · rw [if_pos c_30] at hR
      refine lv_bipush (v := (-2 : Int32)) hx hb dX6_soon_33 (by decide) ?_
      subst hR
      exact fin _ _ _ _ dX6_soon_35 (nar_i _) hP hS
