theorem de_X3_letterAt : deOK yX3_letterAt 1 := by decide +kernel
theorem de_X3_fits : deOK yX3_fits 3 := by decide +kernel
theorem de_X3_firstFault : deOK yX3_firstFault 0 := by decide +kernel
theorem de_X3_parts : deOK yX3_parts 0 := by decide +kernel
theorem de_X3_cellOfPart : deOK yX3_cellOfPart 1 := by decide +kernel
theorem de_X3_kindOfPart : deOK yX3_kindOfPart 1 := by decide +kernel
theorem de_X3_append : deOK yX3_append 1 := by decide +kernel
def f_X3_letterAt (length : Int32) (letters : Nat → Int32) (a1 : Int32) : Int32 := (if a1 < (0 : Int32) then (0 : Int32) else (if length ≤ a1 then (0 : Int32) else (if (32 : Int32) ≤ a1 then (0 : Int32) else (letters a1.toNatClampNeg))))
set_option maxHeartbeats 4000000 in
set_option maxRecDepth 100000 in
theorem c_X3_letterAt (l : Launch) (D : va_G) (cI cZ : ClassId) (q : Nat → Nat) (length : Int32) (letters : Nat → Int32) (a1 : Int32) : RdI l yX3_letterAt cX3_letterAt 2 .int 0 0 D (tyL cI cZ) (TW cI cZ q length letters) [.ref (q 1), .int a1] (f_X3_letterAt length letters a1) := by
  refine RdI.of (by decide) (Nat.le_of_ble_eq_true rfl) ?_
  intro p e s m args below meth c Q hx hb hml hown hts hP hK fin ls hl
  have hown : s.vm.findClass RX3 = some m.cls := hown
  have hF : CallFix p m c cX3_letterAt 2 s args tb RX3 := ⟨hx, hb, hml, hown, hts⟩
  have hl : lv_has ls 2 [(0, .ref (q 1)), (1, .int a1)] := hl
  generalize hR : (f_X3_letterAt length letters a1) = R at fin
  unfold f_X3_letterAt at hR
  refine lv_iload_n hx hb dX3_letterAt_0 rfl (lv_at hl 1 rfl) ?_
  refine lv_if_lt (tgt := 30) hx hb dX3_letterAt_1 (by decide) (fun c_1 => ?_) (fun c_1 => ?_)
  · rw [if_pos c_1] at hR
    refine lv_iconst (v := (0 : Int32)) hx hb dX3_letterAt_30 (by decide) ?_
    subst hR
    exact fin _ _ dX3_letterAt_31 (nar_i _)
  · rw [if_neg c_1] at hR
    refine lv_iload_n hx hb dX3_letterAt_4 rfl (lv_at hl 1 rfl) ?_
    refine lv_aload_n hx hb dX3_letterAt_5 rfl (lv_at hl 0 rfl) ?_
    refine va_get (D := D) (ci := 2) (v := .int length) (C := RX3) (T := TX3) (N := 2) hx hb hts tbX3 hown hK hP 0 TW_0 rfl 1 (by decide) (hts _ tm_1_25) (fun _ h9 => h9) rfl dX3_letterAt_6 ?_
    refine lv_icmp_ge (tgt := 30) hx hb dX3_letterAt_9 (by decide) (fun c_9 => ?_) (fun c_9 => ?_)
    · rw [if_pos c_9] at hR
      refine lv_iconst (v := (0 : Int32)) hx hb dX3_letterAt_30 (by decide) ?_
      subst hR
      exact fin _ _ dX3_letterAt_31 (nar_i _)
    · rw [if_neg c_9] at hR
      refine lv_iload_n hx hb dX3_letterAt_12 rfl (lv_at hl 1 rfl) ?_
      refine lv_aload_n hx hb dX3_letterAt_13 rfl (lv_at hl 0 rfl) ?_
      refine va_get (D := D) (ci := 2) (v := .ref (q 5)) (C := RX3) (T := TX3) (N := 2) hx hb hts tbX3 hown hK hP 0 TW_0 rfl 0 (by decide) (hts _ tm_1_24) (fun _ h9 => h9) rfl dX3_letterAt_14 ?_
      refine va_alen (v := (32 : Int32)) hx hb hK hP 1 0 TW_1 rfl rfl dX3_letterAt_17 ?_
      refine lv_icmp_ge (tgt := 30) hx hb dX3_letterAt_18 (by decide) (fun c_18 => ?_) (fun c_18 => ?_)
      · rw [if_pos c_18] at hR
        refine lv_iconst (v := (0 : Int32)) hx hb dX3_letterAt_30 (by decide) ?_
        subst hR
        exact fin _ _ dX3_letterAt_31 (nar_i _)
      · rw [if_neg c_18] at hR
        refine lv_aload_n hx hb dX3_letterAt_21 rfl (lv_at hl 0 rfl) ?_
        refine va_get (D := D) (ci := 2) (v := .ref (q 5)) (C := RX3) (T := TX3) (N := 2) hx hb hts tbX3 hown hK hP 0 TW_0 rfl 0 (by decide) (hts _ tm_1_24) (fun _ h9 => h9) rfl dX3_letterAt_22 ?_
        refine lv_iload_n hx hb dX3_letterAt_25 rfl (lv_at hl 1 rfl) ?_
        refine va_iald hx hb hK hP 1 0 TW_1 rfl (vi_b (b := 32) (by decide) c_1 c_18) dX3_letterAt_26 ?_
        refine lv_goto (tgt := 31) hx hb dX3_letterAt_27 (by decide) ?_
        subst hR
        exact fin _ _ dX3_letterAt_31 (nar_i _)
def f_X3_fits (a1 : Int32) (a2 : Int32) (a3 : Int32) : Int32 := (if a1 = (0 : Int32) then (if a2 = (73 : Int32) then (1 : Int32) else (0 : Int32)) else (if a1 = (1 : Int32) then (if a2 < (48 : Int32) then (0 : Int32) else (if (57 : Int32) < a2 then (0 : Int32) else (1 : Int32))) else (if a1 < (23 : Int32) then (if (jr (a1 - (2 : Int32)) (3 : Int32)) = (0 : Int32) then (if a2 = (80 : Int32) then (1 : Int32) else (0 : Int32)) else (if (jr (a1 - (2 : Int32)) (3 : Int32)) = (1 : Int32) then (if a2 < (97 : Int32) then (0 : Int32) else (if (112 : Int32) < a2 then (0 : Int32) else (if ((shr a3 (a2 - (97 : Int32))) &&& (1 : Int32)) = (0 : Int32) then (1 : Int32) else (0 : Int32)))) else (if a2 < (48 : Int32) then (0 : Int32) else (if (51 : Int32) < a2 then (0 : Int32) else (1 : Int32))))) else (0 : Int32))))
set_option maxHeartbeats 4000000 in
set_option maxRecDepth 100000 in
theorem c_X3_fits (l : Launch) (D : va_G) (cI cZ : ClassId) (q : Nat → Nat) (a1 : Int32) (a2 : Int32) (a3 : Int32) : RdI l yX3_fits cX3_fits 3 .boolean 0 0 D (tyL cI cZ) [] [.int a1, .int a2, .int a3] (f_X3_fits a1 a2 a3) := by
  refine RdI.of (by decide) (Nat.le_of_ble_eq_true rfl) ?_
  intro p e s m args below meth c Q hx hb hml hown hts hP hK fin ls hl
  have hown : s.vm.findClass RX3 = some m.cls := hown
  have hF : CallFix p m c cX3_fits 3 s args tb RX3 := ⟨hx, hb, hml, hown, hts⟩
  have hl : lv_has ls 3 [(0, .int a1), (1, .int a2), (2, .int a3)] := hl
  generalize hR : (f_X3_fits a1 a2 a3) = R at fin
  unfold f_X3_fits at hR
  refine lv_iload_n hx hb dX3_fits_0 rfl (lv_at hl 0 rfl) ?_
  refine lv_if_ne (tgt := 16) hx hb dX3_fits_1 (by decide) (fun c_1 => ?_) (fun c_1 => ?_)
  · rw [if_neg c_1] at hR
    refine lv_iload_n hx hb dX3_fits_16 rfl (lv_at hl 0 rfl) ?_
    refine lv_iconst (v := (1 : Int32)) hx hb dX3_fits_17 (by decide) ?_
    refine lv_icmp_ne (tgt := 39) hx hb dX3_fits_18 (by decide) (fun c_18 => ?_) (fun c_18 => ?_)
    · rw [if_neg c_18] at hR
      refine lv_iload_n hx hb dX3_fits_39 rfl (lv_at hl 0 rfl) ?_
      refine lv_bipush (v := (23 : Int32)) hx hb dX3_fits_40 (by decide) ?_
      refine lv_icmp_lt (tgt := 47) hx hb dX3_fits_42 (by decide) (fun c_42 => ?_) (fun c_42 => ?_)
      · rw [if_pos c_42] at hR
        refine lv_iload_n hx hb dX3_fits_47 rfl (lv_at hl 0 rfl) ?_
        refine lv_iconst (v := (2 : Int32)) hx hb dX3_fits_48 (by decide) ?_
        refine lv_isub hx hb dX3_fits_49 ?_
        refine lv_iconst (v := (3 : Int32)) hx hb dX3_fits_50 (by decide) ?_
        refine lv_irem hx hb dX3_fits_51 (by decide) ?_
        refine lv_rw (z := (jr (a1 - (2 : Int32)) (3 : Int32))) rfl ?_
        refine Decidable.byCases (p := (jr (a1 - (2 : Int32)) (3 : Int32)) = (0 : Int32)) (fun c_52_0 => ?_) (fun c_52_0 => ?_)
        · rw [if_pos c_52_0] at hR
          refine lv_lookup (off := 28) (tgt := 80) hx hb dX3_fits_52 (by decide) (by rw [c_52_0]; decide) (by decide) ?_
          refine lv_iload_n hx hb dX3_fits_80 rfl (lv_at hl 1 rfl) ?_
          refine lv_bipush (v := (80 : Int32)) hx hb dX3_fits_81 (by decide) ?_
          refine lv_icmp_ne (tgt := 90) hx hb dX3_fits_83 (by decide) (fun c_83 => ?_) (fun c_83 => ?_)
          · rw [if_neg c_83] at hR
            refine lv_iconst (v := (0 : Int32)) hx hb dX3_fits_90 (by decide) ?_
            subst hR
            exact fin _ _ dX3_fits_91 (nar_b (Or.inl rfl))
          · rw [if_pos c_83] at hR
            refine lv_iconst (v := (1 : Int32)) hx hb dX3_fits_86 (by decide) ?_
            refine lv_goto (tgt := 91) hx hb dX3_fits_87 (by decide) ?_
            subst hR
            exact fin _ _ dX3_fits_91 (nar_b (Or.inr rfl))
        · rw [if_neg c_52_0] at hR
          refine Decidable.byCases (p := (jr (a1 - (2 : Int32)) (3 : Int32)) = (1 : Int32)) (fun c_52_1 => ?_) (fun c_52_1 => ?_)
          · rw [if_pos c_52_1] at hR
            refine lv_lookup (off := 40) (tgt := 92) hx hb dX3_fits_52 (by decide) (by rw [c_52_1]; decide) (by decide) ?_
            refine lv_iload_n hx hb dX3_fits_92 rfl (lv_at hl 1 rfl) ?_
            refine lv_bipush (v := (97 : Int32)) hx hb dX3_fits_93 (by decide) ?_
            refine lv_icmp_lt (tgt := 119) hx hb dX3_fits_95 (by decide) (fun c_95 => ?_) (fun c_95 => ?_)
            · rw [if_pos c_95] at hR
              refine lv_iconst (v := (0 : Int32)) hx hb dX3_fits_119 (by decide) ?_
              subst hR
              exact fin _ _ dX3_fits_120 (nar_b (Or.inl rfl))
            · rw [if_neg c_95] at hR
              refine lv_iload_n hx hb dX3_fits_98 rfl (lv_at hl 1 rfl) ?_
              refine lv_bipush (v := (112 : Int32)) hx hb dX3_fits_99 (by decide) ?_
              refine lv_icmp_gt (tgt := 119) hx hb dX3_fits_101 (by decide) (fun c_101 => ?_) (fun c_101 => ?_)
              · rw [if_pos c_101] at hR
                refine lv_iconst (v := (0 : Int32)) hx hb dX3_fits_119 (by decide) ?_
                subst hR
                exact fin _ _ dX3_fits_120 (nar_b (Or.inl rfl))
              · rw [if_neg c_101] at hR
                refine lv_iload_n hx hb dX3_fits_104 rfl (lv_at hl 2 rfl) ?_
                refine lv_iload_n hx hb dX3_fits_105 rfl (lv_at hl 1 rfl) ?_
                refine lv_bipush (v := (97 : Int32)) hx hb dX3_fits_106 (by decide) ?_
                refine lv_isub hx hb dX3_fits_108 ?_
                refine lv_ishr hx hb dX3_fits_109 ?_
                refine lv_rw (z := (shr a3 (a2 - (97 : Int32)))) rfl ?_
                refine lv_iconst (v := (1 : Int32)) hx hb dX3_fits_110 (by decide) ?_
                refine lv_iand hx hb dX3_fits_111 ?_
                refine lv_if_ne (tgt := 119) hx hb dX3_fits_112 (by decide) (fun c_112 => ?_) (fun c_112 => ?_)
                · rw [if_neg c_112] at hR
                  refine lv_iconst (v := (0 : Int32)) hx hb dX3_fits_119 (by decide) ?_
                  subst hR
                  exact fin _ _ dX3_fits_120 (nar_b (Or.inl rfl))
                · rw [if_pos c_112] at hR
                  refine lv_iconst (v := (1 : Int32)) hx hb dX3_fits_115 (by decide) ?_
                  refine lv_goto (tgt := 120) hx hb dX3_fits_116 (by decide) ?_
                  subst hR
                  exact fin _ _ dX3_fits_120 (nar_b (Or.inr rfl))
          · rw [if_neg c_52_1] at hR
            refine lv_lookup (off := 69) (tgt := 121) hx hb dX3_fits_52 (by decide) (by refine (lv_osw c_52_0 (by decide)).trans ?_; refine (lv_osw c_52_1 (by decide)).trans ?_; rfl) (by decide) ?_
            refine lv_iload_n hx hb dX3_fits_121 rfl (lv_at hl 1 rfl) ?_
            refine lv_bipush (v := (48 : Int32)) hx hb dX3_fits_122 (by decide) ?_
            refine lv_icmp_lt (tgt := 137) hx hb dX3_fits_124 (by decide) (fun c_124 => ?_) (fun c_124 => ?_)
            · rw [if_pos c_124] at hR
              refine lv_iconst (v := (0 : Int32)) hx hb dX3_fits_137 (by decide) ?_
              subst hR
              exact fin _ _ dX3_fits_138 (nar_b (Or.inl rfl))
            · rw [if_neg c_124] at hR
              refine lv_iload_n hx hb dX3_fits_127 rfl (lv_at hl 1 rfl) ?_
              refine lv_bipush (v := (51 : Int32)) hx hb dX3_fits_128 (by decide) ?_
              refine lv_icmp_gt (tgt := 137) hx hb dX3_fits_130 (by decide) (fun c_130 => ?_) (fun c_130 => ?_)
              · rw [if_pos c_130] at hR
                refine lv_iconst (v := (0 : Int32)) hx hb dX3_fits_137 (by decide) ?_
                subst hR
                exact fin _ _ dX3_fits_138 (nar_b (Or.inl rfl))
              · rw [if_neg c_130] at hR
                refine lv_iconst (v := (1 : Int32)) hx hb dX3_fits_133 (by decide) ?_
                refine lv_goto (tgt := 138) hx hb dX3_fits_134 (by decide) ?_
                subst hR
                exact fin _ _ dX3_fits_138 (nar_b (Or.inr rfl))
      · rw [if_neg c_42] at hR
        refine lv_iconst (v := (0 : Int32)) hx hb dX3_fits_45 (by decide) ?_
        subst hR
        exact fin _ _ dX3_fits_46 (nar_b (Or.inl rfl))
    · rw [if_pos c_18] at hR
      refine lv_iload_n hx hb dX3_fits_21 rfl (lv_at hl 1 rfl) ?_
      refine lv_bipush (v := (48 : Int32)) hx hb dX3_fits_22 (by decide) ?_
      refine lv_icmp_lt (tgt := 37) hx hb dX3_fits_24 (by decide) (fun c_24 => ?_) (fun c_24 => ?_)
      · rw [if_pos c_24] at hR
        refine lv_iconst (v := (0 : Int32)) hx hb dX3_fits_37 (by decide) ?_
        subst hR
        exact fin _ _ dX3_fits_38 (nar_b (Or.inl rfl))
      · rw [if_neg c_24] at hR
        refine lv_iload_n hx hb dX3_fits_27 rfl (lv_at hl 1 rfl) ?_
        refine lv_bipush (v := (57 : Int32)) hx hb dX3_fits_28 (by decide) ?_
        refine lv_icmp_gt (tgt := 37) hx hb dX3_fits_30 (by decide) (fun c_30 => ?_) (fun c_30 => ?_)
        · rw [if_pos c_30] at hR
          refine lv_iconst (v := (0 : Int32)) hx hb dX3_fits_37 (by decide) ?_
          subst hR
          exact fin _ _ dX3_fits_38 (nar_b (Or.inl rfl))
        · rw [if_neg c_30] at hR
          refine lv_iconst (v := (1 : Int32)) hx hb dX3_fits_33 (by decide) ?_
          refine lv_goto (tgt := 38) hx hb dX3_fits_34 (by decide) ?_
          subst hR
          exact fin _ _ dX3_fits_38 (nar_b (Or.inr rfl))
  · rw [if_pos c_1] at hR
    refine lv_iload_n hx hb dX3_fits_4 rfl (lv_at hl 1 rfl) ?_
    refine lv_bipush (v := (73 : Int32)) hx hb dX3_fits_5 (by decide) ?_
    refine lv_icmp_ne (tgt := 14) hx hb dX3_fits_7 (by decide) (fun c_7 => ?_) (fun c_7 => ?_)
    · rw [if_neg c_7] at hR
      refine lv_iconst (v := (0 : Int32)) hx hb dX3_fits_14 (by decide) ?_
      subst hR
      exact fin _ _ dX3_fits_15 (nar_b (Or.inl rfl))
    · rw [if_pos c_7] at hR
      refine lv_iconst (v := (1 : Int32)) hx hb dX3_fits_10 (by decide) ?_
      refine lv_goto (tgt := 15) hx hb dX3_fits_11 (by decide) ?_
      subst hR
      exact fin _ _ dX3_fits_15 (nar_b (Or.inr rfl))
def f_X3_firstFault_l4 (length : Int32) (letters : Nat → Int32) : Nat → Nat → (Int32) → Int32
  | 0, i_4, told => (if length < (2 : Int32) then length else (if (jr (length - (2 : Int32)) (3 : Int32)) = (0 : Int32) then (-9 : Int32) else length))
  | d_4 + 1, i_4, told => (if (f_X3_fits (nI i_4) (f_X3_letterAt length letters (nI i_4)) told) = (0 : Int32) then (nI i_4) else (if (nI i_4) < (2 : Int32) then (f_X3_firstFault_l4 length letters d_4 (i_4 + 1) told) else (if (jr ((nI i_4) - (2 : Int32)) (3 : Int32)) = (1 : Int32) then (f_X3_firstFault_l4 length letters d_4 (i_4 + 1) (told ||| (shl (1 : Int32) ((f_X3_letterAt length letters (nI i_4)) - (97 : Int32))))) else (f_X3_firstFault_l4 length letters d_4 (i_4 + 1) told))))
theorem f_X3_firstFault_l4_z {length : Int32} {letters : Nat → Int32} {i_4 : Nat} {told : Int32} : f_X3_firstFault_l4 length letters 0 i_4 told = (if length < (2 : Int32) then length else (if (jr (length - (2 : Int32)) (3 : Int32)) = (0 : Int32) then (-9 : Int32) else length)) := by rw [f_X3_firstFault_l4]
theorem f_X3_firstFault_l4_s {length : Int32} {letters : Nat → Int32} {d_4 : Nat} {i_4 : Nat} {told : Int32} : f_X3_firstFault_l4 length letters (d_4 + 1) i_4 told = (if (f_X3_fits (nI i_4) (f_X3_letterAt length letters (nI i_4)) told) = (0 : Int32) then (nI i_4) else (if (nI i_4) < (2 : Int32) then (f_X3_firstFault_l4 length letters d_4 (i_4 + 1) told) else (if (jr ((nI i_4) - (2 : Int32)) (3 : Int32)) = (1 : Int32) then (f_X3_firstFault_l4 length letters d_4 (i_4 + 1) (told ||| (shl (1 : Int32) ((f_X3_letterAt length letters (nI i_4)) - (97 : Int32))))) else (f_X3_firstFault_l4 length letters d_4 (i_4 + 1) told)))) := by rw [f_X3_firstFault_l4]
def f_X3_firstFault (L : Nat) (length : Int32) (letters : Nat → Int32) : Int32 := (f_X3_firstFault_l4 length letters L 0 (0 : Int32))
set_option maxHeartbeats 4000000 in
set_option maxRecDepth 100000 in
theorem c_X3_firstFault (l : Launch) (D : va_G) (cI cZ : ClassId) (q : Nat → Nat) (length : Int32) (letters : Nat → Int32) (L : Nat) (hL : length = nI L) (hL32 : L ≤ 32) : RdI l yX3_firstFault cX3_firstFault 4 .int 1 22 D (tyL cI cZ) (TW cI cZ q length letters) [.ref (q 1)] (f_X3_firstFault L length letters) := by
  refine RdI.of (by decide) (Nat.le_of_ble_eq_true rfl) ?_
  intro p e s m args below meth c Q hx hb hml hown hts hP hK fin ls hl
  have hown : s.vm.findClass RX3 = some m.cls := hown
  have hF : CallFix p m c cX3_firstFault 4 s args tb RX3 := ⟨hx, hb, hml, hown, hts⟩
  have hl : lv_has ls 4 [(0, .ref (q 1))] := hl
  generalize hR : (f_X3_firstFault L length letters) = R at fin
  unfold f_X3_firstFault at hR
  refine lv_iconst (v := (0 : Int32)) hx hb dX3_firstFault_0 (by decide) ?_
  refine lv_istore_n (lv' := [(1, .int (0 : Int32)), (0, .ref (q 1))]) hx hb dX3_firstFault_1 rfl hl (by decide) rfl (fun ls hl => ?_)
  refine lv_iconst (v := (0 : Int32)) hx hb dX3_firstFault_2 (by decide) ?_
  refine lv_istore_n (lv' := [(2, .int (0 : Int32)), (1, .int (0 : Int32)), (0, .ref (q 1))]) hx hb dX3_firstFault_3 rfl hl (by decide) rfl (fun ls hl => ?_)
  have key_4 : ∀ (d_4 i_4 : Nat) (told : Int32) (ls : Array Slot), i_4 + d_4 = L → f_X3_firstFault_l4 length letters d_4 i_4 told = R → lv_has ls 4 [(2, .int (nI i_4)), (1, .int told), (0, .ref (q 1))] → W p l e (rmO 1 22) s m args below meth c s.heap [] 0 0 Q (F0 m 4 ls []) := by
    intro d_4
    induction d_4 with
    | zero =>
      intro i_4 told ls hi_4 hR hl
      rw [f_X3_firstFault_l4_z] at hR
      refine lv_iload_n hx hb dX3_firstFault_4 rfl (lv_at hl 0 rfl) ?_
      refine lv_aload_n hx hb dX3_firstFault_5 rfl (lv_at hl 2 rfl) ?_
      refine va_get (D := D) (ci := 2) (v := .int length) (C := RX3) (T := TX3) (N := 2) hx hb hts tbX3 hown hK hP 0 TW_0 rfl 1 (by decide) (hts _ tm_1_25) (fun _ h9 => h9) rfl dX3_firstFault_6 ?_
      refine lv_icmp_ge (tgt := 58) hx hb dX3_firstFault_9 (by decide) (fun c_9 => ?_) (fun c_9 => absurd (by rw [hL]; exact nI_le  (by omega) (by omega)) c_9)
      refine lv_aload_n hx hb dX3_firstFault_58 rfl (lv_at hl 2 rfl) ?_
      refine va_get (D := D) (ci := 2) (v := .int length) (C := RX3) (T := TX3) (N := 2) hx hb hts tbX3 hown hK hP 0 TW_0 rfl 1 (by decide) (hts _ tm_1_25) (fun _ h9 => h9) rfl dX3_firstFault_59 ?_
      refine lv_iconst (v := (2 : Int32)) hx hb dX3_firstFault_62 (by decide) ?_
      refine lv_icmp_lt (tgt := 82) hx hb dX3_firstFault_63 (by decide) (fun c_63 => ?_) (fun c_63 => ?_)
      · rw [if_pos c_63] at hR
        refine lv_aload_n hx hb dX3_firstFault_82 rfl (lv_at hl 2 rfl) ?_
        refine va_get (D := D) (ci := 2) (v := .int length) (C := RX3) (T := TX3) (N := 2) hx hb hts tbX3 hown hK hP 0 TW_0 rfl 1 (by decide) (hts _ tm_1_25) (fun _ h9 => h9) rfl dX3_firstFault_83 ?_
        subst hR
        exact fin _ _ dX3_firstFault_86 (nar_i _)
      · rw [if_neg c_63] at hR
        refine lv_aload_n hx hb dX3_firstFault_66 rfl (lv_at hl 2 rfl) ?_
        refine va_get (D := D) (ci := 2) (v := .int length) (C := RX3) (T := TX3) (N := 2) hx hb hts tbX3 hown hK hP 0 TW_0 rfl 1 (by decide) (hts _ tm_1_25) (fun _ h9 => h9) rfl dX3_firstFault_67 ?_
        refine lv_iconst (v := (2 : Int32)) hx hb dX3_firstFault_70 (by decide) ?_
        refine lv_isub hx hb dX3_firstFault_71 ?_
        refine lv_iconst (v := (3 : Int32)) hx hb dX3_firstFault_72 (by decide) ?_
        refine lv_irem hx hb dX3_firstFault_73 (by decide) ?_
        refine lv_rw (z := (jr (length - (2 : Int32)) (3 : Int32))) rfl ?_
        refine lv_if_ne (tgt := 82) hx hb dX3_firstFault_74 (by decide) (fun c_74 => ?_) (fun c_74 => ?_)
        · rw [if_neg c_74] at hR
          refine lv_aload_n hx hb dX3_firstFault_82 rfl (lv_at hl 2 rfl) ?_
          refine va_get (D := D) (ci := 2) (v := .int length) (C := RX3) (T := TX3) (N := 2) hx hb hts tbX3 hown hK hP 0 TW_0 rfl 1 (by decide) (hts _ tm_1_25) (fun _ h9 => h9) rfl dX3_firstFault_83 ?_
          subst hR
          exact fin _ _ dX3_firstFault_86 (nar_i _)
        · rw [if_pos c_74] at hR
          refine lv_bipush (v := (-9 : Int32)) hx hb dX3_firstFault_77 (by decide) ?_
          refine lv_goto (tgt := 86) hx hb dX3_firstFault_79 (by decide) ?_
          subst hR
          exact fin _ _ dX3_firstFault_86 (nar_i _)
    | succ d_4 ih_4 =>
      intro i_4 told ls hi_4 hR hl
      rw [f_X3_firstFault_l4_s] at hR
      refine lv_iload_n hx hb dX3_firstFault_4 rfl (lv_at hl 0 rfl) ?_
      refine lv_aload_n hx hb dX3_firstFault_5 rfl (lv_at hl 2 rfl) ?_
      refine va_get (D := D) (ci := 2) (v := .int length) (C := RX3) (T := TX3) (N := 2) hx hb hts tbX3 hown hK hP 0 TW_0 rfl 1 (by decide) (hts _ tm_1_25) (fun _ h9 => h9) rfl dX3_firstFault_6 ?_
      refine lv_icmp_ge (tgt := 58) hx hb dX3_firstFault_9 (by decide) (fun c_9 => absurd c_9 (by rw [hL]; exact nI_ge  (by omega) (by omega))) (fun c_9 => ?_)
      refine lv_aload_n hx hb dX3_firstFault_12 rfl (lv_at hl 2 rfl) ?_
      refine lv_iload_n hx hb dX3_firstFault_13 rfl (lv_at hl 0 rfl) ?_
      refine vRdI (b := (q 1)) (As := [.int (nI i_4)]) (rest := []) hF (c_X3_letterAt l D cI cZ q length letters (nI i_4)) (gdV tm_1_152 tm_1_153 tm_1_154 tm_1_2 tm_1_155) de_X3_letterAt ⟨Nat.le_of_ble_eq_true rfl, Nat.le_of_ble_eq_true rfl⟩ hP hK (va_recv hK hP (ci := 2) (q0 := 0) rfl TW_0) hl.1 rfl (Nat.le_of_ble_eq_true rfl) dX3_firstFault_14 ⟨Nat.zero_le _, Nat.zero_le _⟩ ?_
      refine lv_istore_n (lv' := [(3, .int (f_X3_letterAt length letters (nI i_4))), (2, .int (nI i_4)), (1, .int told), (0, .ref (q 1))]) hx hb dX3_firstFault_17 rfl hl (by decide) rfl (fun ls hl => ?_)
      refine lv_iload_n hx hb dX3_firstFault_18 rfl (lv_at hl 1 rfl) ?_
      refine lv_iload_n hx hb dX3_firstFault_19 rfl (lv_at hl 0 rfl) ?_
      refine lv_iload_n hx hb dX3_firstFault_20 rfl (lv_at hl 2 rfl) ?_
      refine sRdI (As := [.int (nI i_4), .int (f_X3_letterAt length letters (nI i_4)), .int told]) (rest := []) hF (c_X3_fits l D cI cZ q (nI i_4) (f_X3_letterAt length letters (nI i_4)) told) (gdS tm_1_156 tm_1_157 tm_1_2 tm_1_158) de_X3_fits ⟨Nat.le_of_ble_eq_true rfl, Nat.le_of_ble_eq_true rfl⟩ va_P_nil hK hl.1 rfl (Nat.le_of_ble_eq_true rfl) dX3_firstFault_21 ⟨Nat.zero_le _, Nat.zero_le _⟩ ?_
      refine lv_if_ne (tgt := 29) hx hb dX3_firstFault_24 (by decide) (fun c_24 => ?_) (fun c_24 => ?_)
      · rw [if_neg c_24] at hR
        refine lv_iload_n hx hb dX3_firstFault_29 rfl (lv_at hl 1 rfl) ?_
        refine lv_iconst (v := (2 : Int32)) hx hb dX3_firstFault_30 (by decide) ?_
        refine lv_icmp_lt (tgt := 52) hx hb dX3_firstFault_31 (by decide) (fun c_31 => ?_) (fun c_31 => ?_)
        · rw [if_pos c_31] at hR
          refine lv_iinc (v := (nI (i_4 + 1))) (lv' := [(2, .int (nI (i_4 + 1))), (3, .int (f_X3_letterAt length letters (nI i_4))), (1, .int told), (0, .ref (q 1))]) hx hb dX3_firstFault_52 hl (k := 1) rfl (nI_up i_4) (by decide) rfl (fun ls hl => ?_)
          refine lv_goto (tgt := 4) hx hb dX3_firstFault_55 (by decide) ?_
          exact ih_4 (i_4 + 1) told ls (by omega) hR (lv_sub hl [0, 2, 3] rfl)
        · rw [if_neg c_31] at hR
          refine lv_iload_n hx hb dX3_firstFault_34 rfl (lv_at hl 1 rfl) ?_
          refine lv_iconst (v := (2 : Int32)) hx hb dX3_firstFault_35 (by decide) ?_
          refine lv_isub hx hb dX3_firstFault_36 ?_
          refine lv_iconst (v := (3 : Int32)) hx hb dX3_firstFault_37 (by decide) ?_
          refine lv_irem hx hb dX3_firstFault_38 (by decide) ?_
          refine lv_rw (z := (jr ((nI i_4) - (2 : Int32)) (3 : Int32))) rfl ?_
          refine lv_iconst (v := (1 : Int32)) hx hb dX3_firstFault_39 (by decide) ?_
          refine lv_icmp_ne (tgt := 52) hx hb dX3_firstFault_40 (by decide) (fun c_40 => ?_) (fun c_40 => ?_)
          · rw [if_neg c_40] at hR
            refine lv_iinc (v := (nI (i_4 + 1))) (lv' := [(2, .int (nI (i_4 + 1))), (3, .int (f_X3_letterAt length letters (nI i_4))), (1, .int told), (0, .ref (q 1))]) hx hb dX3_firstFault_52 hl (k := 1) rfl (nI_up i_4) (by decide) rfl (fun ls hl => ?_)
            refine lv_goto (tgt := 4) hx hb dX3_firstFault_55 (by decide) ?_
            exact ih_4 (i_4 + 1) told ls (by omega) hR (lv_sub hl [0, 2, 3] rfl)
          · rw [if_pos c_40] at hR
            refine lv_iload_n hx hb dX3_firstFault_43 rfl (lv_at hl 2 rfl) ?_
            refine lv_iconst (v := (1 : Int32)) hx hb dX3_firstFault_44 (by decide) ?_
            refine lv_iload_n hx hb dX3_firstFault_45 rfl (lv_at hl 0 rfl) ?_
            refine lv_bipush (v := (97 : Int32)) hx hb dX3_firstFault_46 (by decide) ?_
            refine lv_isub hx hb dX3_firstFault_48 ?_
            refine lv_ishl hx hb dX3_firstFault_49 ?_
            refine lv_rw (z := (shl (1 : Int32) ((f_X3_letterAt length letters (nI i_4)) - (97 : Int32)))) rfl ?_
            refine lv_ior hx hb dX3_firstFault_50 ?_
            refine lv_istore_n (lv' := [(1, .int (told ||| (shl (1 : Int32) ((f_X3_letterAt length letters (nI i_4)) - (97 : Int32))))), (3, .int (f_X3_letterAt length letters (nI i_4))), (2, .int (nI i_4)), (0, .ref (q 1))]) hx hb dX3_firstFault_51 rfl hl (by decide) rfl (fun ls hl => ?_)
            refine lv_iinc (v := (nI (i_4 + 1))) (lv' := [(2, .int (nI (i_4 + 1))), (1, .int (told ||| (shl (1 : Int32) ((f_X3_letterAt length letters (nI i_4)) - (97 : Int32))))), (3, .int (f_X3_letterAt length letters (nI i_4))), (0, .ref (q 1))]) hx hb dX3_firstFault_52 hl (k := 2) rfl (nI_up i_4) (by decide) rfl (fun ls hl => ?_)
            refine lv_goto (tgt := 4) hx hb dX3_firstFault_55 (by decide) ?_
            exact ih_4 (i_4 + 1) (told ||| (shl (1 : Int32) ((f_X3_letterAt length letters (nI i_4)) - (97 : Int32)))) ls (by omega) hR (lv_sub hl [0, 1, 3] rfl)
      · rw [if_pos c_24] at hR
        refine lv_iload_n hx hb dX3_firstFault_27 rfl (lv_at hl 1 rfl) ?_
        subst hR
        exact fin _ _ dX3_firstFault_28 (nar_i _)
  exact key_4 L 0 (0 : Int32) ls (by omega) hR (lv_sub hl [0, 1, 2] rfl)
def f_X3_parts (length : Int32) : Int32 := (if (2 : Int32) ≤ length then ((length - (2 : Int32)) / (3 : Int32)) else (0 : Int32))
set_option maxHeartbeats 4000000 in
set_option maxRecDepth 100000 in
theorem c_X3_parts (l : Launch) (D : va_G) (cI cZ : ClassId) (q : Nat → Nat) (length : Int32) (letters : Nat → Int32) : RdI l yX3_parts cX3_parts 1 .int 0 0 D (tyL cI cZ) (TW cI cZ q length letters) [.ref (q 1)] (f_X3_parts length) := by
  refine RdI.of (by decide) (Nat.le_of_ble_eq_true rfl) ?_
  intro p e s m args below meth c Q hx hb hml hown hts hP hK fin ls hl
  have hown : s.vm.findClass RX3 = some m.cls := hown
  have hF : CallFix p m c cX3_parts 1 s args tb RX3 := ⟨hx, hb, hml, hown, hts⟩
  have hl : lv_has ls 1 [(0, .ref (q 1))] := hl
  generalize hR : (f_X3_parts length) = R at fin
  unfold f_X3_parts at hR
  refine lv_aload_n hx hb dX3_parts_0 rfl (lv_at hl 0 rfl) ?_
  refine va_get (D := D) (ci := 2) (v := .int length) (C := RX3) (T := TX3) (N := 2) hx hb hts tbX3 hown hK hP 0 TW_0 rfl 1 (by decide) (hts _ tm_1_25) (fun _ h9 => h9) rfl dX3_parts_1 ?_
  refine lv_iconst (v := (2 : Int32)) hx hb dX3_parts_4 (by decide) ?_
  refine lv_icmp_ge (tgt := 12) hx hb dX3_parts_5 (by decide) (fun c_5 => ?_) (fun c_5 => ?_)
  · rw [if_pos c_5] at hR
    refine lv_aload_n hx hb dX3_parts_12 rfl (lv_at hl 0 rfl) ?_
    refine va_get (D := D) (ci := 2) (v := .int length) (C := RX3) (T := TX3) (N := 2) hx hb hts tbX3 hown hK hP 0 TW_0 rfl 1 (by decide) (hts _ tm_1_25) (fun _ h9 => h9) rfl dX3_parts_13 ?_
    refine lv_iconst (v := (2 : Int32)) hx hb dX3_parts_16 (by decide) ?_
    refine lv_isub hx hb dX3_parts_17 ?_
    refine lv_iconst (v := (3 : Int32)) hx hb dX3_parts_18 (by decide) ?_
    refine lv_idiv hx hb dX3_parts_19 (by decide) ?_
    subst hR
    exact fin _ _ dX3_parts_20 (nar_i _)
  · rw [if_neg c_5] at hR
    refine lv_iconst (v := (0 : Int32)) hx hb dX3_parts_8 (by decide) ?_
    refine lv_goto (tgt := 20) hx hb dX3_parts_9 (by decide) ?_
    subst hR
    exact fin _ _ dX3_parts_20 (nar_i _)
def f_X3_cellOfPart (length : Int32) (letters : Nat → Int32) (a1 : Int32) : Int32 := ((f_X3_letterAt length letters (((2 : Int32) + ((3 : Int32) * a1)) + (1 : Int32))) - (97 : Int32))
set_option maxHeartbeats 4000000 in
set_option maxRecDepth 100000 in
theorem c_X3_cellOfPart (l : Launch) (D : va_G) (cI cZ : ClassId) (q : Nat → Nat) (length : Int32) (letters : Nat → Int32) (a1 : Int32) : RdI l yX3_cellOfPart cX3_cellOfPart 2 .int 1 21 D (tyL cI cZ) (TW cI cZ q length letters) [.ref (q 1), .int a1] (f_X3_cellOfPart length letters a1) := by
  refine RdI.of (by decide) (Nat.le_of_ble_eq_true rfl) ?_
  intro p e s m args below meth c Q hx hb hml hown hts hP hK fin ls hl
  have hown : s.vm.findClass RX3 = some m.cls := hown
  have hF : CallFix p m c cX3_cellOfPart 2 s args tb RX3 := ⟨hx, hb, hml, hown, hts⟩
  have hl : lv_has ls 2 [(0, .ref (q 1)), (1, .int a1)] := hl
  generalize hR : (f_X3_cellOfPart length letters a1) = R at fin
  unfold f_X3_cellOfPart at hR
  refine lv_aload_n hx hb dX3_cellOfPart_0 rfl (lv_at hl 0 rfl) ?_
  refine lv_iconst (v := (2 : Int32)) hx hb dX3_cellOfPart_1 (by decide) ?_
  refine lv_iconst (v := (3 : Int32)) hx hb dX3_cellOfPart_2 (by decide) ?_
  refine lv_iload_n hx hb dX3_cellOfPart_3 rfl (lv_at hl 1 rfl) ?_
  refine lv_imul hx hb dX3_cellOfPart_4 ?_
  refine lv_iadd hx hb dX3_cellOfPart_5 ?_
  refine lv_iconst (v := (1 : Int32)) hx hb dX3_cellOfPart_6 (by decide) ?_
  refine lv_iadd hx hb dX3_cellOfPart_7 ?_
  refine vRdI (b := (q 1)) (As := [.int (((2 : Int32) + ((3 : Int32) * a1)) + (1 : Int32))]) (rest := []) hF (c_X3_letterAt l D cI cZ q length letters (((2 : Int32) + ((3 : Int32) * a1)) + (1 : Int32))) (gdV tm_1_152 tm_1_153 tm_1_154 tm_1_2 tm_1_155) de_X3_letterAt ⟨Nat.le_of_ble_eq_true rfl, Nat.le_of_ble_eq_true rfl⟩ hP hK (va_recv hK hP (ci := 2) (q0 := 0) rfl TW_0) hl.1 rfl (Nat.le_of_ble_eq_true rfl) dX3_cellOfPart_8 ⟨Nat.zero_le _, Nat.zero_le _⟩ ?_
  refine lv_bipush (v := (97 : Int32)) hx hb dX3_cellOfPart_11 (by decide) ?_
  refine lv_isub hx hb dX3_cellOfPart_13 ?_
  subst hR
  exact fin _ _ dX3_cellOfPart_14 (nar_i _)
def f_X3_kindOfPart (length : Int32) (letters : Nat → Int32) (a1 : Int32) : Int32 := ((f_X3_letterAt length letters (((2 : Int32) + ((3 : Int32) * a1)) + (2 : Int32))) - (48 : Int32))
set_option maxHeartbeats 4000000 in
set_option maxRecDepth 100000 in
theorem c_X3_kindOfPart (l : Launch) (D : va_G) (cI cZ : ClassId) (q : Nat → Nat) (length : Int32) (letters : Nat → Int32) (a1 : Int32) : RdI l yX3_kindOfPart cX3_kindOfPart 2 .int 1 21 D (tyL cI cZ) (TW cI cZ q length letters) [.ref (q 1), .int a1] (f_X3_kindOfPart length letters a1) := by
  refine RdI.of (by decide) (Nat.le_of_ble_eq_true rfl) ?_
  intro p e s m args below meth c Q hx hb hml hown hts hP hK fin ls hl
  have hown : s.vm.findClass RX3 = some m.cls := hown
  have hF : CallFix p m c cX3_kindOfPart 2 s args tb RX3 := ⟨hx, hb, hml, hown, hts⟩
  have hl : lv_has ls 2 [(0, .ref (q 1)), (1, .int a1)] := hl
  generalize hR : (f_X3_kindOfPart length letters a1) = R at fin
  unfold f_X3_kindOfPart at hR
  refine lv_aload_n hx hb dX3_kindOfPart_0 rfl (lv_at hl 0 rfl) ?_
  refine lv_iconst (v := (2 : Int32)) hx hb dX3_kindOfPart_1 (by decide) ?_
  refine lv_iconst (v := (3 : Int32)) hx hb dX3_kindOfPart_2 (by decide) ?_
  refine lv_iload_n hx hb dX3_kindOfPart_3 rfl (lv_at hl 1 rfl) ?_
  refine lv_imul hx hb dX3_kindOfPart_4 ?_
  refine lv_iadd hx hb dX3_kindOfPart_5 ?_
  refine lv_iconst (v := (2 : Int32)) hx hb dX3_kindOfPart_6 (by decide) ?_
  refine lv_iadd hx hb dX3_kindOfPart_7 ?_
  refine vRdI (b := (q 1)) (As := [.int (((2 : Int32) + ((3 : Int32) * a1)) + (2 : Int32))]) (rest := []) hF (c_X3_letterAt l D cI cZ q length letters (((2 : Int32) + ((3 : Int32) * a1)) + (2 : Int32))) (gdV tm_1_152 tm_1_153 tm_1_154 tm_1_2 tm_1_155) de_X3_letterAt ⟨Nat.le_of_ble_eq_true rfl, Nat.le_of_ble_eq_true rfl⟩ hP hK (va_recv hK hP (ci := 2) (q0 := 0) rfl TW_0) hl.1 rfl (Nat.le_of_ble_eq_true rfl) dX3_kindOfPart_8 ⟨Nat.zero_le _, Nat.zero_le _⟩ ?_
  refine lv_bipush (v := (48 : Int32)) hx hb dX3_kindOfPart_11 (by decide) ?_
  refine lv_isub hx hb dX3_kindOfPart_13 ?_
  subst hR
  exact fin _ _ dX3_kindOfPart_14 (nar_i _)
def f_X3_append (length : Int32) (letters : Nat → Int32) (a1 : Int32) : (Int32) × (Int32) × (Nat → Int32) := (if length < (0 : Int32) then ((0 : Int32), length, letters) else (if length < (32 : Int32) then ((1 : Int32), (length + (1 : Int32)), (upd letters length.toNatClampNeg a1)) else ((0 : Int32), length, letters)))
set_option maxHeartbeats 4000000 in
set_option maxRecDepth 100000 in
theorem c_X3_append (l : Launch) (D : va_G) (cI cZ : ClassId) (q : Nat → Nat) (now rains length poles parts plain key stair air acnt tcnt : Int32) (letters cells kinds frames rainsB abouts stoods kept keptF keptR : Nat → Int32) (seed : Int64) (a1 : Int32) : WrI l yX3_append cX3_append 2 .boolean 0 0 D (tyL cI cZ) (XW cI cZ q now rains length poles parts plain key stair air acnt tcnt letters cells kinds frames rainsB abouts stoods kept keptF keptR seed) [.ref (q 1), .int a1] (f_X3_append length letters a1).1 (XW cI cZ q now rains (f_X3_append length letters a1).2.1 poles parts plain key stair air acnt tcnt (f_X3_append length letters a1).2.2 cells kinds frames rainsB abouts stoods kept keptF keptR seed) := by
  refine WrI.of (by decide) (Nat.le_of_ble_eq_true rfl) ?_
  intro p e s m args below meth c Q A hx hb hml hown hts hP hK hD hS fin ls hl
  have hown : s.vm.findClass RX3 = some m.cls := hown
  have hF : CallFix p m c cX3_append 2 s args tb RX3 := ⟨hx, hb, hml, hown, hts⟩
  have hl : lv_has ls 2 [(0, .ref (q 1)), (1, .int a1)] := hl
  generalize hR : (f_X3_append length letters a1) = R at fin
  unfold f_X3_append at hR
  refine lv_aload_n hx hb dX3_append_0 rfl (lv_at hl 0 rfl) ?_
  refine va_get (D := D) (ci := 2) (v := .int length) (C := RX3) (T := TX3) (N := 2) hx hb hts tbX3 hown hK hP 1 XW_1 rfl 1 (by decide) (hts _ tm_1_25) (fun _ h9 => h9) rfl dX3_append_1 ?_
  refine lv_if_lt (tgt := 19) hx hb dX3_append_4 (by decide) (fun c_4 => ?_) (fun c_4 => ?_)
  · rw [if_pos c_4] at hR
    refine lv_iconst (v := (0 : Int32)) hx hb dX3_append_19 (by decide) ?_
    subst hR
    exact fin _ _ _ _ dX3_append_20 (nar_b (Or.inl rfl)) hP hS
  · rw [if_neg c_4] at hR
    refine lv_aload_n hx hb dX3_append_7 rfl (lv_at hl 0 rfl) ?_
    refine va_get (D := D) (ci := 2) (v := .int length) (C := RX3) (T := TX3) (N := 2) hx hb hts tbX3 hown hK hP 1 XW_1 rfl 1 (by decide) (hts _ tm_1_25) (fun _ h9 => h9) rfl dX3_append_8 ?_
    refine lv_aload_n hx hb dX3_append_11 rfl (lv_at hl 0 rfl) ?_
    refine va_get (D := D) (ci := 2) (v := .ref (q 5)) (C := RX3) (T := TX3) (N := 2) hx hb hts tbX3 hown hK hP 1 XW_1 rfl 0 (by decide) (hts _ tm_1_24) (fun _ h9 => h9) rfl dX3_append_12 ?_
    refine va_alen (v := (32 : Int32)) hx hb hK hP 5 0 XW_5 rfl rfl dX3_append_15 ?_
    refine lv_icmp_lt (tgt := 21) hx hb dX3_append_16 (by decide) (fun c_16 => ?_) (fun c_16 => ?_)
    · rw [if_pos c_16] at hR
      refine lv_aload_n hx hb dX3_append_21 rfl (lv_at hl 0 rfl) ?_
      refine va_get (D := D) (ci := 2) (v := .ref (q 5)) (C := RX3) (T := TX3) (N := 2) hx hb hts tbX3 hown hK hP 1 XW_1 rfl 0 (by decide) (hts _ tm_1_24) (fun _ h9 => h9) rfl dX3_append_22 ?_
      refine lv_aload_n hx hb dX3_append_25 rfl (lv_at hl 0 rfl) ?_
      refine va_get (D := D) (ci := 2) (v := .int length) (C := RX3) (T := TX3) (N := 2) hx hb hts tbX3 hown hK hP 1 XW_1 rfl 1 (by decide) (hts _ tm_1_25) (fun _ h9 => h9) rfl dX3_append_26 ?_
      refine lv_iload_n hx hb dX3_append_29 rfl (lv_at hl 1 rfl) ?_
      refine va_iast hx hb hK hP hD hS 5 0 XW_5 rfl (vi_a (b := 32) (by decide) c_4 c_16) dX3_append_30 (fun H locs hP hD hS => ?_)
      have hP : va_P D vwCl (XW cI cZ q now rains length poles parts plain key stair air acnt tcnt (upd letters length.toNatClampNeg a1) cells kinds frames rainsB abouts stoods kept keptF keptR seed) H := hP
      have hD : va_D A (XW cI cZ q now rains length poles parts plain key stair air acnt tcnt (upd letters length.toNatClampNeg a1) cells kinds frames rainsB abouts stoods kept keptF keptR seed) := hD.same rfl
      refine lv_aload_n hx hb dX3_append_31 rfl (lv_at hl 0 rfl) ?_
      refine lv_dup hx hb dX3_append_32 rfl ?_
      refine va_get (D := D) (ci := 2) (v := .int length) (C := RX3) (T := TX3) (N := 2) hx hb hts tbX3 hown hK hP 1 XW_1 rfl 1 (by decide) (hts _ tm_1_25) (fun _ h9 => h9) rfl dX3_append_33 ?_
      refine lv_iconst (v := (1 : Int32)) hx hb dX3_append_36 (by decide) ?_
      refine lv_iadd hx hb dX3_append_37 ?_
      refine va_put (D := D) (ci := 2) (v := .int (length + (1 : Int32))) (ty := .int) (C := RX3) (T := TX3) (N := 2) hx hb hts tbX3 tyX3 tyX3_ok nmX3 hown hK hP hD hS 1 XW_1 rfl 1 (by decide) (hts _ tm_1_25) (fun _ h9 => h9) rfl (by decide +kernel) rfl rfl (Nat.le_of_ble_eq_true rfl) dX3_append_38 (fun H locs hP hD hS => ?_)
      have hP : va_P D vwCl (XW cI cZ q now rains (length + (1 : Int32)) poles parts plain key stair air acnt tcnt (upd letters length.toNatClampNeg a1) cells kinds frames rainsB abouts stoods kept keptF keptR seed) H := hP
      have hD : va_D A (XW cI cZ q now rains (length + (1 : Int32)) poles parts plain key stair air acnt tcnt (upd letters length.toNatClampNeg a1) cells kinds frames rainsB abouts stoods kept keptF keptR seed) := hD.same rfl
      refine lv_iconst (v := (1 : Int32)) hx hb dX3_append_41 (by decide) ?_
      subst hR
      exact fin _ _ _ _ dX3_append_42 (nar_b (Or.inr rfl)) hP hS
    · rw [if_neg c_16] at hR
      refine lv_iconst (v := (0 : Int32)) hx hb dX3_append_19 (by decide) ?_
      subst hR
      exact fin _ _ _ _ dX3_append_20 (nar_b (Or.inl rfl)) hP hS
