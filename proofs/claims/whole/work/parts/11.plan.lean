theorem de_X2_isPart : deOK yX2_isPart 1 := by decide +kernel
theorem de_X2_cellOf : deOK yX2_cellOf 1 := by decide +kernel
theorem de_X2_kindOf : deOK yX2_kindOf 1 := by decide +kernel
theorem de_X2_cellsOfKind : deOK yX2_cellsOfKind 1 := by decide +kernel
theorem de_X2_partIn : deOK yX2_partIn 1 := by decide +kernel
theorem de_X2_partsAt : deOK yX2_partsAt 1 := by decide +kernel
theorem de_X2_cellsOf : deOK yX2_cellsOf 1 := by decide +kernel
theorem de_X2_store : deOK yX2_store 1 := by decide +kernel
theorem de_X2_canPut : deOK yX2_canPut 2 := by decide +kernel
theorem de_X2_canStrike : deOK yX2_canStrike 2 := by decide +kernel
theorem de_X2_withPut : deOK yX2_withPut 2 := by decide +kernel
theorem de_X2_carriedBy : deOK yX2_carriedBy 1 := by decide +kernel
theorem de_X2_standing : deOK yX2_standing 2 := by decide +kernel
theorem de_X2_withStruck : deOK yX2_withStruck 2 := by decide +kernel
theorem de_X2_withRain : deOK yX2_withRain 1 := by decide +kernel
theorem de_X2_countStanding : deOK yX2_countStanding 1 := by decide +kernel
def f_X2_isPart (parts : Int32) (a1 : Int32) : Int32 := (if a1 < (0 : Int32) then (0 : Int32) else (if parts ≤ a1 then (0 : Int32) else (if (7 : Int32) ≤ a1 then (0 : Int32) else (1 : Int32))))
set_option maxHeartbeats 4000000 in
set_option maxRecDepth 100000 in
theorem c_X2_isPart (l : Launch) (D : va_G) (cI cZ : ClassId) (q : Nat → Nat) (poles parts plain key stair air : Int32) (cells kinds : Nat → Int32) (a1 : Int32) : RdI l yX2_isPart cX2_isPart 2 .boolean 0 0 D (tyL cI cZ) (PW cI cZ q poles parts plain key stair air cells kinds) [.ref (q 2), .int a1] (f_X2_isPart parts a1) := by
  refine RdI.of (by decide) (Nat.le_of_ble_eq_true rfl) ?_
  intro p e s m args below meth c Q hx hb hml hown hts hP hK fin ls hl
  have hown : s.vm.findClass RX2 = some m.cls := hown
  have hF : CallFix p m c cX2_isPart 2 s args tb RX2 := ⟨hx, hb, hml, hown, hts⟩
  have hl : lv_has ls 2 [(0, .ref (q 2)), (1, .int a1)] := hl
  generalize hR : (f_X2_isPart parts a1) = R at fin
  unfold f_X2_isPart at hR
  refine lv_iload_n hx hb dX2_isPart_0 rfl (lv_at hl 1 rfl) ?_
  refine lv_if_lt (tgt := 22) hx hb dX2_isPart_1 (by decide) (fun c_1 => ?_) (fun c_1 => ?_)
  · rw [if_pos c_1] at hR
    refine lv_iconst (v := (0 : Int32)) hx hb dX2_isPart_22 (by decide) ?_
    subst hR
    exact fin _ _ dX2_isPart_23 (nar_b (Or.inl rfl))
  · rw [if_neg c_1] at hR
    refine lv_iload_n hx hb dX2_isPart_4 rfl (lv_at hl 1 rfl) ?_
    refine lv_aload_n hx hb dX2_isPart_5 rfl (lv_at hl 0 rfl) ?_
    refine va_get (D := D) (ci := 1) (v := .int parts) (C := RX2) (T := TX2) (N := 8) hx hb hts tbX2 hown hK hP 0 PW_0 rfl 3 (by decide) (hts _ tm_1_43) (fun _ h9 => h9) rfl dX2_isPart_6 ?_
    refine lv_icmp_ge (tgt := 22) hx hb dX2_isPart_9 (by decide) (fun c_9 => ?_) (fun c_9 => ?_)
    · rw [if_pos c_9] at hR
      refine lv_iconst (v := (0 : Int32)) hx hb dX2_isPart_22 (by decide) ?_
      subst hR
      exact fin _ _ dX2_isPart_23 (nar_b (Or.inl rfl))
    · rw [if_neg c_9] at hR
      refine lv_iload_n hx hb dX2_isPart_12 rfl (lv_at hl 1 rfl) ?_
      refine lv_bipush (v := (7 : Int32)) hx hb dX2_isPart_13 (by decide) ?_
      refine lv_icmp_ge (tgt := 22) hx hb dX2_isPart_15 (by decide) (fun c_15 => ?_) (fun c_15 => ?_)
      · rw [if_pos c_15] at hR
        refine lv_iconst (v := (0 : Int32)) hx hb dX2_isPart_22 (by decide) ?_
        subst hR
        exact fin _ _ dX2_isPart_23 (nar_b (Or.inl rfl))
      · rw [if_neg c_15] at hR
        refine lv_iconst (v := (1 : Int32)) hx hb dX2_isPart_18 (by decide) ?_
        refine lv_goto (tgt := 23) hx hb dX2_isPart_19 (by decide) ?_
        subst hR
        exact fin _ _ dX2_isPart_23 (nar_b (Or.inr rfl))
theorem isPart_in {parts a1 : Int32} (h : ¬ f_X2_isPart parts a1 = 0) : vp_in a1 7 := by
  unfold f_X2_isPart at h
  by_cases h1 : a1 < 0
  · rw [if_pos h1] at h; exact absurd rfl h
  rw [if_neg h1] at h
  by_cases h2 : parts ≤ a1
  · rw [if_pos h2] at h; exact absurd rfl h
  rw [if_neg h2] at h
  by_cases h3 : 7 ≤ a1
  · rw [if_pos h3] at h; exact absurd rfl h
  exact vi_b (b := 7) (by decide) h1 h3
def f_X2_cellOf (parts : Int32) (cells : Nat → Int32) (a1 : Int32) : Int32 := (if (f_X2_isPart parts a1) = (0 : Int32) then (-9 : Int32) else (cells a1.toNatClampNeg))
set_option maxHeartbeats 4000000 in
set_option maxRecDepth 100000 in
theorem c_X2_cellOf (l : Launch) (D : va_G) (cI cZ : ClassId) (q : Nat → Nat) (poles parts plain key stair air : Int32) (cells kinds : Nat → Int32) (a1 : Int32) : RdI l yX2_cellOf cX2_cellOf 2 .int 1 21 D (tyL cI cZ) (PW cI cZ q poles parts plain key stair air cells kinds) [.ref (q 2), .int a1] (f_X2_cellOf parts cells a1) := by
  refine RdI.of (by decide) (Nat.le_of_ble_eq_true rfl) ?_
  intro p e s m args below meth c Q hx hb hml hown hts hP hK fin ls hl
  have hown : s.vm.findClass RX2 = some m.cls := hown
  have hF : CallFix p m c cX2_cellOf 2 s args tb RX2 := ⟨hx, hb, hml, hown, hts⟩
  have hl : lv_has ls 2 [(0, .ref (q 2)), (1, .int a1)] := hl
  generalize hR : (f_X2_cellOf parts cells a1) = R at fin
  unfold f_X2_cellOf at hR
  refine lv_aload_n hx hb dX2_cellOf_0 rfl (lv_at hl 0 rfl) ?_
  refine lv_iload_n hx hb dX2_cellOf_1 rfl (lv_at hl 1 rfl) ?_
  refine vRdI (b := (q 2)) (As := [.int a1]) (rest := []) hF (c_X2_isPart l D cI cZ q poles parts plain key stair air cells kinds a1) (gdV tm_1_239 tm_1_232 tm_1_233 tm_1_3 tm_1_234) de_X2_isPart ⟨Nat.le_of_ble_eq_true rfl, Nat.le_of_ble_eq_true rfl⟩ hP hK (va_recv hK hP (ci := 1) (q0 := 0) rfl PW_0) hl.1 rfl (Nat.le_of_ble_eq_true rfl) dX2_cellOf_2 ⟨Nat.zero_le _, Nat.zero_le _⟩ ?_
  refine lv_if_eq (tgt := 17) hx hb dX2_cellOf_5 (by decide) (fun c_5 => ?_) (fun c_5 => ?_)
  · rw [if_pos c_5] at hR
    refine lv_bipush (v := (-9 : Int32)) hx hb dX2_cellOf_17 (by decide) ?_
    subst hR
    exact fin _ _ dX2_cellOf_19 (nar_i _)
  · rw [if_neg c_5] at hR
    refine lv_aload_n hx hb dX2_cellOf_8 rfl (lv_at hl 0 rfl) ?_
    refine va_get (D := D) (ci := 1) (v := .ref (q 6)) (C := RX2) (T := TX2) (N := 8) hx hb hts tbX2 hown hK hP 0 PW_0 rfl 0 (by decide) (hts _ tm_1_39) (fun _ h9 => h9) rfl dX2_cellOf_9 ?_
    refine lv_iload_n hx hb dX2_cellOf_12 rfl (lv_at hl 1 rfl) ?_
    refine va_iald hx hb hK hP 1 0 PW_1 rfl (isPart_in c_5) dX2_cellOf_13 ?_
    refine lv_goto (tgt := 19) hx hb dX2_cellOf_14 (by decide) ?_
    subst hR
    exact fin _ _ dX2_cellOf_19 (nar_i _)
def f_X2_kindOf (parts : Int32) (kinds : Nat → Int32) (a1 : Int32) : Int32 := (if (f_X2_isPart parts a1) = (0 : Int32) then (-9 : Int32) else (kinds a1.toNatClampNeg))
set_option maxHeartbeats 4000000 in
set_option maxRecDepth 100000 in
theorem c_X2_kindOf (l : Launch) (D : va_G) (cI cZ : ClassId) (q : Nat → Nat) (poles parts plain key stair air : Int32) (cells kinds : Nat → Int32) (a1 : Int32) : RdI l yX2_kindOf cX2_kindOf 2 .int 1 21 D (tyL cI cZ) (PW cI cZ q poles parts plain key stair air cells kinds) [.ref (q 2), .int a1] (f_X2_kindOf parts kinds a1) := by
  refine RdI.of (by decide) (Nat.le_of_ble_eq_true rfl) ?_
  intro p e s m args below meth c Q hx hb hml hown hts hP hK fin ls hl
  have hown : s.vm.findClass RX2 = some m.cls := hown
  have hF : CallFix p m c cX2_kindOf 2 s args tb RX2 := ⟨hx, hb, hml, hown, hts⟩
  have hl : lv_has ls 2 [(0, .ref (q 2)), (1, .int a1)] := hl
  generalize hR : (f_X2_kindOf parts kinds a1) = R at fin
  unfold f_X2_kindOf at hR
  refine lv_aload_n hx hb dX2_kindOf_0 rfl (lv_at hl 0 rfl) ?_
  refine lv_iload_n hx hb dX2_kindOf_1 rfl (lv_at hl 1 rfl) ?_
  refine vRdI (b := (q 2)) (As := [.int a1]) (rest := []) hF (c_X2_isPart l D cI cZ q poles parts plain key stair air cells kinds a1) (gdV tm_1_239 tm_1_232 tm_1_233 tm_1_3 tm_1_234) de_X2_isPart ⟨Nat.le_of_ble_eq_true rfl, Nat.le_of_ble_eq_true rfl⟩ hP hK (va_recv hK hP (ci := 1) (q0 := 0) rfl PW_0) hl.1 rfl (Nat.le_of_ble_eq_true rfl) dX2_kindOf_2 ⟨Nat.zero_le _, Nat.zero_le _⟩ ?_
  refine lv_if_eq (tgt := 17) hx hb dX2_kindOf_5 (by decide) (fun c_5 => ?_) (fun c_5 => ?_)
  · rw [if_pos c_5] at hR
    refine lv_bipush (v := (-9 : Int32)) hx hb dX2_kindOf_17 (by decide) ?_
    subst hR
    exact fin _ _ dX2_kindOf_19 (nar_i _)
  · rw [if_neg c_5] at hR
    refine lv_aload_n hx hb dX2_kindOf_8 rfl (lv_at hl 0 rfl) ?_
    refine va_get (D := D) (ci := 1) (v := .ref (q 7)) (C := RX2) (T := TX2) (N := 8) hx hb hts tbX2 hown hK hP 0 PW_0 rfl 1 (by decide) (hts _ tm_1_40) (fun _ h9 => h9) rfl dX2_kindOf_9 ?_
    refine lv_iload_n hx hb dX2_kindOf_12 rfl (lv_at hl 1 rfl) ?_
    refine va_iald hx hb hK hP 2 0 PW_2 rfl (isPart_in c_5) dX2_kindOf_13 ?_
    refine lv_goto (tgt := 19) hx hb dX2_kindOf_14 (by decide) ?_
    subst hR
    exact fin _ _ dX2_kindOf_19 (nar_i _)
def f_X2_cellsOfKind_l4 (cells : Nat → Int32) (kinds : Nat → Int32) (a1 : Int32) : Nat → Nat → (Int32) → Int32
  | 0, i_4, fnd => fnd
  | d_4 + 1, i_4, fnd => (if (kinds i_4) = a1 then (if (cells i_4) = (-9 : Int32) then (f_X2_cellsOfKind_l4 cells kinds a1 d_4 (i_4 + 1) fnd) else (f_X2_cellsOfKind_l4 cells kinds a1 d_4 (i_4 + 1) (fnd ||| (shl (1 : Int32) (cells i_4))))) else (f_X2_cellsOfKind_l4 cells kinds a1 d_4 (i_4 + 1) fnd))
theorem f_X2_cellsOfKind_l4_z {cells : Nat → Int32} {kinds : Nat → Int32} {a1 : Int32} {i_4 : Nat} {fnd : Int32} : f_X2_cellsOfKind_l4 cells kinds a1 0 i_4 fnd = fnd := by rw [f_X2_cellsOfKind_l4]
theorem f_X2_cellsOfKind_l4_s {cells : Nat → Int32} {kinds : Nat → Int32} {a1 : Int32} {d_4 : Nat} {i_4 : Nat} {fnd : Int32} : f_X2_cellsOfKind_l4 cells kinds a1 (d_4 + 1) i_4 fnd = (if (kinds i_4) = a1 then (if (cells i_4) = (-9 : Int32) then (f_X2_cellsOfKind_l4 cells kinds a1 d_4 (i_4 + 1) fnd) else (f_X2_cellsOfKind_l4 cells kinds a1 d_4 (i_4 + 1) (fnd ||| (shl (1 : Int32) (cells i_4))))) else (f_X2_cellsOfKind_l4 cells kinds a1 d_4 (i_4 + 1) fnd)) := by rw [f_X2_cellsOfKind_l4]
def f_X2_cellsOfKind (cells : Nat → Int32) (kinds : Nat → Int32) (a1 : Int32) : Int32 := (f_X2_cellsOfKind_l4 cells kinds a1 7 0 (0 : Int32))
set_option maxHeartbeats 4000000 in
set_option maxRecDepth 100000 in
theorem c_X2_cellsOfKind (l : Launch) (D : va_G) (cI cZ : ClassId) (q : Nat → Nat) (poles parts plain key stair air : Int32) (cells kinds : Nat → Int32) (a1 : Int32) : RdI l yX2_cellsOfKind cX2_cellsOfKind 4 .int 0 0 D (tyL cI cZ) (PW cI cZ q poles parts plain key stair air cells kinds) [.ref (q 2), .int a1] (f_X2_cellsOfKind cells kinds a1) := by
  refine RdI.of (by decide) (Nat.le_of_ble_eq_true rfl) ?_
  intro p e s m args below meth c Q hx hb hml hown hts hP hK fin ls hl
  have hown : s.vm.findClass RX2 = some m.cls := hown
  have hF : CallFix p m c cX2_cellsOfKind 4 s args tb RX2 := ⟨hx, hb, hml, hown, hts⟩
  have hl : lv_has ls 4 [(0, .ref (q 2)), (1, .int a1)] := hl
  generalize hR : (f_X2_cellsOfKind cells kinds a1) = R at fin
  unfold f_X2_cellsOfKind at hR
  refine lv_iconst (v := (0 : Int32)) hx hb dX2_cellsOfKind_0 (by decide) ?_
  refine lv_istore_n (lv' := [(2, .int (0 : Int32)), (0, .ref (q 2)), (1, .int a1)]) hx hb dX2_cellsOfKind_1 rfl hl (by decide) rfl (fun ls hl => ?_)
  refine lv_iconst (v := (0 : Int32)) hx hb dX2_cellsOfKind_2 (by decide) ?_
  refine lv_istore_n (lv' := [(3, .int (0 : Int32)), (2, .int (0 : Int32)), (0, .ref (q 2)), (1, .int a1)]) hx hb dX2_cellsOfKind_3 rfl hl (by decide) rfl (fun ls hl => ?_)
  obtain ⟨T_4, hT_4⟩ : ∃ z, f_X2_cellsOfKind_l4 cells kinds a1 7 0 (0 : Int32) = z := ⟨_, rfl⟩
  rw [hT_4] at hR
  have key_4 : ∀ (d_4 i_4 : Nat) (fnd : Int32) (ls : Array Slot), i_4 + d_4 = 7 → f_X2_cellsOfKind_l4 cells kinds a1 d_4 i_4 fnd = T_4 → lv_has ls 4 [(3, .int (nI i_4)), (2, .int fnd), (0, .ref (q 2)), (1, .int a1)] → W p l e (rmO 0 0) s m args below meth c s.heap [] 0 0 Q (F0 m 4 ls []) := by
    intro d_4
    induction d_4 with
    | zero =>
      intro i_4 fnd ls hi_4 hT_4 hl
      rw [f_X2_cellsOfKind_l4_z] at hT_4
      refine lv_iload_n hx hb dX2_cellsOfKind_4 rfl (lv_at hl 0 rfl) ?_
      refine lv_bipush (v := (7 : Int32)) hx hb dX2_cellsOfKind_5 (by decide) ?_
      refine lv_icmp_ge (tgt := 48) hx hb dX2_cellsOfKind_7 (by decide) (fun c_7 => ?_) (fun c_7 => absurd (nI_le (a := 7) (by omega) (by omega)) c_7)
      subst hT_4
      try dsimp only at hR
      refine lv_iload_n hx hb dX2_cellsOfKind_48 rfl (lv_at hl 1 rfl) ?_
      subst hR
      exact fin _ _ dX2_cellsOfKind_49 (nar_i _)
    | succ d_4 ih_4 =>
      intro i_4 fnd ls hi_4 hT_4 hl
      rw [f_X2_cellsOfKind_l4_s] at hT_4
      refine lv_iload_n hx hb dX2_cellsOfKind_4 rfl (lv_at hl 0 rfl) ?_
      refine lv_bipush (v := (7 : Int32)) hx hb dX2_cellsOfKind_5 (by decide) ?_
      refine lv_icmp_ge (tgt := 48) hx hb dX2_cellsOfKind_7 (by decide) (fun c_7 => absurd c_7 (nI_ge (b := 7) (by omega) (by omega))) (fun c_7 => ?_)
      refine lv_aload_n hx hb dX2_cellsOfKind_10 rfl (lv_at hl 2 rfl) ?_
      refine va_get (D := D) (ci := 1) (v := .ref (q 7)) (C := RX2) (T := TX2) (N := 8) hx hb hts tbX2 hown hK hP 0 PW_0 rfl 1 (by decide) (hts _ tm_1_40) (fun _ h9 => h9) rfl dX2_cellsOfKind_11 ?_
      refine lv_iload_n hx hb dX2_cellsOfKind_14 rfl (lv_at hl 0 rfl) ?_
      refine va_iald hx hb hK hP 2 0 PW_2 rfl (vp_in_nI (show i_4 < 7 by omega) (by omega)) dX2_cellsOfKind_15 ?_
      refine lv_rw (z := (kinds i_4)) (congrArg kinds (nI_clamp (show i_4 < 2 ^ 31 by omega))) ?_
      refine lv_iload_n hx hb dX2_cellsOfKind_16 rfl (lv_at hl 3 rfl) ?_
      refine lv_icmp_ne (tgt := 42) hx hb dX2_cellsOfKind_17 (by decide) (fun c_17 => ?_) (fun c_17 => ?_)
      · rw [if_neg c_17] at hT_4
        refine lv_iinc (v := (nI (i_4 + 1))) (lv' := [(3, .int (nI (i_4 + 1))), (2, .int fnd), (0, .ref (q 2)), (1, .int a1)]) hx hb dX2_cellsOfKind_42 hl (k := 0) rfl (nI_up i_4) (by decide) rfl (fun ls hl => ?_)
        refine lv_goto (tgt := 4) hx hb dX2_cellsOfKind_45 (by decide) ?_
        exact ih_4 (i_4 + 1) fnd ls (by omega) hT_4 (lv_sub hl [0, 1, 2, 3] rfl)
      · rw [if_pos c_17] at hT_4
        refine lv_aload_n hx hb dX2_cellsOfKind_20 rfl (lv_at hl 2 rfl) ?_
        refine va_get (D := D) (ci := 1) (v := .ref (q 6)) (C := RX2) (T := TX2) (N := 8) hx hb hts tbX2 hown hK hP 0 PW_0 rfl 0 (by decide) (hts _ tm_1_39) (fun _ h9 => h9) rfl dX2_cellsOfKind_21 ?_
        refine lv_iload_n hx hb dX2_cellsOfKind_24 rfl (lv_at hl 0 rfl) ?_
        refine va_iald hx hb hK hP 1 0 PW_1 rfl (vp_in_nI (show i_4 < 7 by omega) (by omega)) dX2_cellsOfKind_25 ?_
        refine lv_rw (z := (cells i_4)) (congrArg cells (nI_clamp (show i_4 < 2 ^ 31 by omega))) ?_
        refine lv_bipush (v := (-9 : Int32)) hx hb dX2_cellsOfKind_26 (by decide) ?_
        refine lv_icmp_eq (tgt := 42) hx hb dX2_cellsOfKind_28 (by decide) (fun c_28 => ?_) (fun c_28 => ?_)
        · rw [if_pos c_28] at hT_4
          refine lv_iinc (v := (nI (i_4 + 1))) (lv' := [(3, .int (nI (i_4 + 1))), (2, .int fnd), (0, .ref (q 2)), (1, .int a1)]) hx hb dX2_cellsOfKind_42 hl (k := 0) rfl (nI_up i_4) (by decide) rfl (fun ls hl => ?_)
          refine lv_goto (tgt := 4) hx hb dX2_cellsOfKind_45 (by decide) ?_
          exact ih_4 (i_4 + 1) fnd ls (by omega) hT_4 (lv_sub hl [0, 1, 2, 3] rfl)
        · rw [if_neg c_28] at hT_4
          refine lv_iload_n hx hb dX2_cellsOfKind_31 rfl (lv_at hl 1 rfl) ?_
          refine lv_iconst (v := (1 : Int32)) hx hb dX2_cellsOfKind_32 (by decide) ?_
          refine lv_aload_n hx hb dX2_cellsOfKind_33 rfl (lv_at hl 2 rfl) ?_
          refine va_get (D := D) (ci := 1) (v := .ref (q 6)) (C := RX2) (T := TX2) (N := 8) hx hb hts tbX2 hown hK hP 0 PW_0 rfl 0 (by decide) (hts _ tm_1_39) (fun _ h9 => h9) rfl dX2_cellsOfKind_34 ?_
          refine lv_iload_n hx hb dX2_cellsOfKind_37 rfl (lv_at hl 0 rfl) ?_
          refine va_iald hx hb hK hP 1 0 PW_1 rfl (vp_in_nI (show i_4 < 7 by omega) (by omega)) dX2_cellsOfKind_38 ?_
          refine lv_rw (z := (cells i_4)) (congrArg cells (nI_clamp (show i_4 < 2 ^ 31 by omega))) ?_
          refine lv_ishl hx hb dX2_cellsOfKind_39 ?_
          refine lv_rw (z := (shl (1 : Int32) (cells i_4))) rfl ?_
          refine lv_ior hx hb dX2_cellsOfKind_40 ?_
          refine lv_istore_n (lv' := [(2, .int (fnd ||| (shl (1 : Int32) (cells i_4)))), (3, .int (nI i_4)), (0, .ref (q 2)), (1, .int a1)]) hx hb dX2_cellsOfKind_41 rfl hl (by decide) rfl (fun ls hl => ?_)
          refine lv_iinc (v := (nI (i_4 + 1))) (lv' := [(3, .int (nI (i_4 + 1))), (2, .int (fnd ||| (shl (1 : Int32) (cells i_4)))), (0, .ref (q 2)), (1, .int a1)]) hx hb dX2_cellsOfKind_42 hl (k := 1) rfl (nI_up i_4) (by decide) rfl (fun ls hl => ?_)
          refine lv_goto (tgt := 4) hx hb dX2_cellsOfKind_45 (by decide) ?_
          exact ih_4 (i_4 + 1) (fnd ||| (shl (1 : Int32) (cells i_4))) ls (by omega) hT_4 (lv_sub hl [0, 1, 2, 3] rfl)
  exact key_4 7 0 (0 : Int32) ls (by omega) hT_4 (lv_sub hl [0, 1, 2, 3] rfl)
def f_X2_partIn_l2 (cells : Nat → Int32) (a1 : Int32) : Nat → Nat → Int32
  | 0, i_2 => (-9 : Int32)
  | d_2 + 1, i_2 => (if (cells i_2) = a1 then (nI i_2) else (f_X2_partIn_l2 cells a1 d_2 (i_2 + 1) ))
theorem f_X2_partIn_l2_z {cells : Nat → Int32} {a1 : Int32} {i_2 : Nat}  : f_X2_partIn_l2 cells a1 0 i_2  = (-9 : Int32) := by rw [f_X2_partIn_l2]
theorem f_X2_partIn_l2_s {cells : Nat → Int32} {a1 : Int32} {d_2 : Nat} {i_2 : Nat}  : f_X2_partIn_l2 cells a1 (d_2 + 1) i_2  = (if (cells i_2) = a1 then (nI i_2) else (f_X2_partIn_l2 cells a1 d_2 (i_2 + 1) )) := by rw [f_X2_partIn_l2]
def f_X2_partIn (cells : Nat → Int32) (a1 : Int32) : Int32 := (f_X2_partIn_l2 cells a1 7 0 )
set_option maxHeartbeats 4000000 in
set_option maxRecDepth 100000 in
theorem c_X2_partIn (l : Launch) (D : va_G) (cI cZ : ClassId) (q : Nat → Nat) (poles parts plain key stair air : Int32) (cells kinds : Nat → Int32) (a1 : Int32) : RdI l yX2_partIn cX2_partIn 3 .int 0 0 D (tyL cI cZ) (PW cI cZ q poles parts plain key stair air cells kinds) [.ref (q 2), .int a1] (f_X2_partIn cells a1) := by
  refine RdI.of (by decide) (Nat.le_of_ble_eq_true rfl) ?_
  intro p e s m args below meth c Q hx hb hml hown hts hP hK fin ls hl
  have hown : s.vm.findClass RX2 = some m.cls := hown
  have hF : CallFix p m c cX2_partIn 3 s args tb RX2 := ⟨hx, hb, hml, hown, hts⟩
  have hl : lv_has ls 3 [(0, .ref (q 2)), (1, .int a1)] := hl
  generalize hR : (f_X2_partIn cells a1) = R at fin
  unfold f_X2_partIn at hR
  refine lv_iconst (v := (0 : Int32)) hx hb dX2_partIn_0 (by decide) ?_
  refine lv_istore_n (lv' := [(2, .int (0 : Int32)), (0, .ref (q 2)), (1, .int a1)]) hx hb dX2_partIn_1 rfl hl (by decide) rfl (fun ls hl => ?_)
  have key_2 : ∀ (d_2 i_2 : Nat)  (ls : Array Slot), i_2 + d_2 = 7 → f_X2_partIn_l2 cells a1 d_2 i_2  = R → lv_has ls 3 [(2, .int (nI i_2)), (0, .ref (q 2)), (1, .int a1)] → W p l e (rmO 0 0) s m args below meth c s.heap [] 0 0 Q (F0 m 2 ls []) := by
    intro d_2
    induction d_2 with
    | zero =>
      intro i_2 ls hi_2 hR hl
      rw [f_X2_partIn_l2_z] at hR
      refine lv_iload_n hx hb dX2_partIn_2 rfl (lv_at hl 0 rfl) ?_
      refine lv_bipush (v := (7 : Int32)) hx hb dX2_partIn_3 (by decide) ?_
      refine lv_icmp_ge (tgt := 26) hx hb dX2_partIn_5 (by decide) (fun c_5 => ?_) (fun c_5 => absurd (nI_le (a := 7) (by omega) (by omega)) c_5)
      refine lv_bipush (v := (-9 : Int32)) hx hb dX2_partIn_26 (by decide) ?_
      subst hR
      exact fin _ _ dX2_partIn_28 (nar_i _)
    | succ d_2 ih_2 =>
      intro i_2 ls hi_2 hR hl
      rw [f_X2_partIn_l2_s] at hR
      refine lv_iload_n hx hb dX2_partIn_2 rfl (lv_at hl 0 rfl) ?_
      refine lv_bipush (v := (7 : Int32)) hx hb dX2_partIn_3 (by decide) ?_
      refine lv_icmp_ge (tgt := 26) hx hb dX2_partIn_5 (by decide) (fun c_5 => absurd c_5 (nI_ge (b := 7) (by omega) (by omega))) (fun c_5 => ?_)
      refine lv_aload_n hx hb dX2_partIn_8 rfl (lv_at hl 1 rfl) ?_
      refine va_get (D := D) (ci := 1) (v := .ref (q 6)) (C := RX2) (T := TX2) (N := 8) hx hb hts tbX2 hown hK hP 0 PW_0 rfl 0 (by decide) (hts _ tm_1_39) (fun _ h9 => h9) rfl dX2_partIn_9 ?_
      refine lv_iload_n hx hb dX2_partIn_12 rfl (lv_at hl 0 rfl) ?_
      refine va_iald hx hb hK hP 1 0 PW_1 rfl (vp_in_nI (show i_2 < 7 by omega) (by omega)) dX2_partIn_13 ?_
      refine lv_rw (z := (cells i_2)) (congrArg cells (nI_clamp (show i_2 < 2 ^ 31 by omega))) ?_
      refine lv_iload_n hx hb dX2_partIn_14 rfl (lv_at hl 2 rfl) ?_
      refine lv_icmp_ne (tgt := 20) hx hb dX2_partIn_15 (by decide) (fun c_15 => ?_) (fun c_15 => ?_)
      · rw [if_neg c_15] at hR
        refine lv_iinc (v := (nI (i_2 + 1))) (lv' := [(2, .int (nI (i_2 + 1))), (0, .ref (q 2)), (1, .int a1)]) hx hb dX2_partIn_20 hl (k := 0) rfl (nI_up i_2) (by decide) rfl (fun ls hl => ?_)
        refine lv_goto (tgt := 2) hx hb dX2_partIn_23 (by decide) ?_
        exact ih_2 (i_2 + 1)  ls (by omega) hR (lv_sub hl [0, 1, 2] rfl)
      · rw [if_pos c_15] at hR
        refine lv_iload_n hx hb dX2_partIn_18 rfl (lv_at hl 0 rfl) ?_
        subst hR
        exact fin _ _ dX2_partIn_19 (nar_i _)
  exact key_2 7 0  ls (by omega) hR (lv_sub hl [0, 1, 2] rfl)
def f_X2_partsAt_l4 (cells : Nat → Int32) (a1 : Int32) : Nat → Nat → (Int32) → Int32
  | 0, i_4, bits => bits
  | d_4 + 1, i_4, bits => (if (cells i_4) = (-9 : Int32) then (f_X2_partsAt_l4 cells a1 d_4 (i_4 + 1) bits) else (if ((shr a1 (cells i_4)) &&& (1 : Int32)) = (1 : Int32) then (f_X2_partsAt_l4 cells a1 d_4 (i_4 + 1) (bits ||| (shl (1 : Int32) (nI i_4)))) else (f_X2_partsAt_l4 cells a1 d_4 (i_4 + 1) bits)))
theorem f_X2_partsAt_l4_z {cells : Nat → Int32} {a1 : Int32} {i_4 : Nat} {bits : Int32} : f_X2_partsAt_l4 cells a1 0 i_4 bits = bits := by rw [f_X2_partsAt_l4]
theorem f_X2_partsAt_l4_s {cells : Nat → Int32} {a1 : Int32} {d_4 : Nat} {i_4 : Nat} {bits : Int32} : f_X2_partsAt_l4 cells a1 (d_4 + 1) i_4 bits = (if (cells i_4) = (-9 : Int32) then (f_X2_partsAt_l4 cells a1 d_4 (i_4 + 1) bits) else (if ((shr a1 (cells i_4)) &&& (1 : Int32)) = (1 : Int32) then (f_X2_partsAt_l4 cells a1 d_4 (i_4 + 1) (bits ||| (shl (1 : Int32) (nI i_4)))) else (f_X2_partsAt_l4 cells a1 d_4 (i_4 + 1) bits))) := by rw [f_X2_partsAt_l4]
def f_X2_partsAt (cells : Nat → Int32) (a1 : Int32) : Int32 := (f_X2_partsAt_l4 cells a1 7 0 (0 : Int32))
set_option maxHeartbeats 4000000 in
set_option maxRecDepth 100000 in
theorem c_X2_partsAt (l : Launch) (D : va_G) (cI cZ : ClassId) (q : Nat → Nat) (poles parts plain key stair air : Int32) (cells kinds : Nat → Int32) (a1 : Int32) : RdI l yX2_partsAt cX2_partsAt 4 .int 0 0 D (tyL cI cZ) (PW cI cZ q poles parts plain key stair air cells kinds) [.ref (q 2), .int a1] (f_X2_partsAt cells a1) := by
  refine RdI.of (by decide) (Nat.le_of_ble_eq_true rfl) ?_
  intro p e s m args below meth c Q hx hb hml hown hts hP hK fin ls hl
  have hown : s.vm.findClass RX2 = some m.cls := hown
  have hF : CallFix p m c cX2_partsAt 4 s args tb RX2 := ⟨hx, hb, hml, hown, hts⟩
  have hl : lv_has ls 4 [(0, .ref (q 2)), (1, .int a1)] := hl
  generalize hR : (f_X2_partsAt cells a1) = R at fin
  unfold f_X2_partsAt at hR
  refine lv_iconst (v := (0 : Int32)) hx hb dX2_partsAt_0 (by decide) ?_
  refine lv_istore_n (lv' := [(2, .int (0 : Int32)), (0, .ref (q 2)), (1, .int a1)]) hx hb dX2_partsAt_1 rfl hl (by decide) rfl (fun ls hl => ?_)
  refine lv_iconst (v := (0 : Int32)) hx hb dX2_partsAt_2 (by decide) ?_
  refine lv_istore_n (lv' := [(3, .int (0 : Int32)), (2, .int (0 : Int32)), (0, .ref (q 2)), (1, .int a1)]) hx hb dX2_partsAt_3 rfl hl (by decide) rfl (fun ls hl => ?_)
  obtain ⟨T_4, hT_4⟩ : ∃ z, f_X2_partsAt_l4 cells a1 7 0 (0 : Int32) = z := ⟨_, rfl⟩
  rw [hT_4] at hR
  have key_4 : ∀ (d_4 i_4 : Nat) (bits : Int32) (ls : Array Slot), i_4 + d_4 = 7 → f_X2_partsAt_l4 cells a1 d_4 i_4 bits = T_4 → lv_has ls 4 [(3, .int (nI i_4)), (2, .int bits), (0, .ref (q 2)), (1, .int a1)] → W p l e (rmO 0 0) s m args below meth c s.heap [] 0 0 Q (F0 m 4 ls []) := by
    intro d_4
    induction d_4 with
    | zero =>
      intro i_4 bits ls hi_4 hT_4 hl
      rw [f_X2_partsAt_l4_z] at hT_4
      refine lv_iload_n hx hb dX2_partsAt_4 rfl (lv_at hl 0 rfl) ?_
      refine lv_bipush (v := (7 : Int32)) hx hb dX2_partsAt_5 (by decide) ?_
      refine lv_icmp_ge (tgt := 47) hx hb dX2_partsAt_7 (by decide) (fun c_7 => ?_) (fun c_7 => absurd (nI_le (a := 7) (by omega) (by omega)) c_7)
      subst hT_4
      try dsimp only at hR
      refine lv_iload_n hx hb dX2_partsAt_47 rfl (lv_at hl 1 rfl) ?_
      subst hR
      exact fin _ _ dX2_partsAt_48 (nar_i _)
    | succ d_4 ih_4 =>
      intro i_4 bits ls hi_4 hT_4 hl
      rw [f_X2_partsAt_l4_s] at hT_4
      refine lv_iload_n hx hb dX2_partsAt_4 rfl (lv_at hl 0 rfl) ?_
      refine lv_bipush (v := (7 : Int32)) hx hb dX2_partsAt_5 (by decide) ?_
      refine lv_icmp_ge (tgt := 47) hx hb dX2_partsAt_7 (by decide) (fun c_7 => absurd c_7 (nI_ge (b := 7) (by omega) (by omega))) (fun c_7 => ?_)
      refine lv_aload_n hx hb dX2_partsAt_10 rfl (lv_at hl 2 rfl) ?_
      refine va_get (D := D) (ci := 1) (v := .ref (q 6)) (C := RX2) (T := TX2) (N := 8) hx hb hts tbX2 hown hK hP 0 PW_0 rfl 0 (by decide) (hts _ tm_1_39) (fun _ h9 => h9) rfl dX2_partsAt_11 ?_
      refine lv_iload_n hx hb dX2_partsAt_14 rfl (lv_at hl 0 rfl) ?_
      refine va_iald hx hb hK hP 1 0 PW_1 rfl (vp_in_nI (show i_4 < 7 by omega) (by omega)) dX2_partsAt_15 ?_
      refine lv_rw (z := (cells i_4)) (congrArg cells (nI_clamp (show i_4 < 2 ^ 31 by omega))) ?_
      refine lv_bipush (v := (-9 : Int32)) hx hb dX2_partsAt_16 (by decide) ?_
      refine lv_icmp_eq (tgt := 41) hx hb dX2_partsAt_18 (by decide) (fun c_18 => ?_) (fun c_18 => ?_)
      · rw [if_pos c_18] at hT_4
        refine lv_iinc (v := (nI (i_4 + 1))) (lv' := [(3, .int (nI (i_4 + 1))), (2, .int bits), (0, .ref (q 2)), (1, .int a1)]) hx hb dX2_partsAt_41 hl (k := 0) rfl (nI_up i_4) (by decide) rfl (fun ls hl => ?_)
        refine lv_goto (tgt := 4) hx hb dX2_partsAt_44 (by decide) ?_
        exact ih_4 (i_4 + 1) bits ls (by omega) hT_4 (lv_sub hl [0, 1, 2, 3] rfl)
      · rw [if_neg c_18] at hT_4
        refine lv_iload_n hx hb dX2_partsAt_21 rfl (lv_at hl 3 rfl) ?_
        refine lv_aload_n hx hb dX2_partsAt_22 rfl (lv_at hl 2 rfl) ?_
        refine va_get (D := D) (ci := 1) (v := .ref (q 6)) (C := RX2) (T := TX2) (N := 8) hx hb hts tbX2 hown hK hP 0 PW_0 rfl 0 (by decide) (hts _ tm_1_39) (fun _ h9 => h9) rfl dX2_partsAt_23 ?_
        refine lv_iload_n hx hb dX2_partsAt_26 rfl (lv_at hl 0 rfl) ?_
        refine va_iald hx hb hK hP 1 0 PW_1 rfl (vp_in_nI (show i_4 < 7 by omega) (by omega)) dX2_partsAt_27 ?_
        refine lv_rw (z := (cells i_4)) (congrArg cells (nI_clamp (show i_4 < 2 ^ 31 by omega))) ?_
        refine lv_ishr hx hb dX2_partsAt_28 ?_
        refine lv_rw (z := (shr a1 (cells i_4))) rfl ?_
        refine lv_iconst (v := (1 : Int32)) hx hb dX2_partsAt_29 (by decide) ?_
        refine lv_iand hx hb dX2_partsAt_30 ?_
        refine lv_iconst (v := (1 : Int32)) hx hb dX2_partsAt_31 (by decide) ?_
        refine lv_icmp_ne (tgt := 41) hx hb dX2_partsAt_32 (by decide) (fun c_32 => ?_) (fun c_32 => ?_)
        · rw [if_neg c_32] at hT_4
          refine lv_iinc (v := (nI (i_4 + 1))) (lv' := [(3, .int (nI (i_4 + 1))), (2, .int bits), (0, .ref (q 2)), (1, .int a1)]) hx hb dX2_partsAt_41 hl (k := 0) rfl (nI_up i_4) (by decide) rfl (fun ls hl => ?_)
          refine lv_goto (tgt := 4) hx hb dX2_partsAt_44 (by decide) ?_
          exact ih_4 (i_4 + 1) bits ls (by omega) hT_4 (lv_sub hl [0, 1, 2, 3] rfl)
        · rw [if_pos c_32] at hT_4
          refine lv_iload_n hx hb dX2_partsAt_35 rfl (lv_at hl 1 rfl) ?_
          refine lv_iconst (v := (1 : Int32)) hx hb dX2_partsAt_36 (by decide) ?_
          refine lv_iload_n hx hb dX2_partsAt_37 rfl (lv_at hl 0 rfl) ?_
          refine lv_ishl hx hb dX2_partsAt_38 ?_
          refine lv_rw (z := (shl (1 : Int32) (nI i_4))) rfl ?_
          refine lv_ior hx hb dX2_partsAt_39 ?_
          refine lv_istore_n (lv' := [(2, .int (bits ||| (shl (1 : Int32) (nI i_4)))), (3, .int (nI i_4)), (0, .ref (q 2)), (1, .int a1)]) hx hb dX2_partsAt_40 rfl hl (by decide) rfl (fun ls hl => ?_)
          refine lv_iinc (v := (nI (i_4 + 1))) (lv' := [(3, .int (nI (i_4 + 1))), (2, .int (bits ||| (shl (1 : Int32) (nI i_4)))), (0, .ref (q 2)), (1, .int a1)]) hx hb dX2_partsAt_41 hl (k := 1) rfl (nI_up i_4) (by decide) rfl (fun ls hl => ?_)
          refine lv_goto (tgt := 4) hx hb dX2_partsAt_44 (by decide) ?_
          exact ih_4 (i_4 + 1) (bits ||| (shl (1 : Int32) (nI i_4))) ls (by omega) hT_4 (lv_sub hl [0, 1, 2, 3] rfl)
  exact key_4 7 0 (0 : Int32) ls (by omega) hT_4 (lv_sub hl [0, 1, 2, 3] rfl)
def f_X2_cellsOf_l4 (cells : Nat → Int32) (a1 : Int32) : Nat → Nat → (Int32) → Int32
  | 0, i_4, bits => bits
  | d_4 + 1, i_4, bits => (if (cells i_4) = (-9 : Int32) then (f_X2_cellsOf_l4 cells a1 d_4 (i_4 + 1) bits) else (if ((shr a1 (nI i_4)) &&& (1 : Int32)) = (1 : Int32) then (f_X2_cellsOf_l4 cells a1 d_4 (i_4 + 1) (bits ||| (shl (1 : Int32) (cells i_4)))) else (f_X2_cellsOf_l4 cells a1 d_4 (i_4 + 1) bits)))
theorem f_X2_cellsOf_l4_z {cells : Nat → Int32} {a1 : Int32} {i_4 : Nat} {bits : Int32} : f_X2_cellsOf_l4 cells a1 0 i_4 bits = bits := by rw [f_X2_cellsOf_l4]
theorem f_X2_cellsOf_l4_s {cells : Nat → Int32} {a1 : Int32} {d_4 : Nat} {i_4 : Nat} {bits : Int32} : f_X2_cellsOf_l4 cells a1 (d_4 + 1) i_4 bits = (if (cells i_4) = (-9 : Int32) then (f_X2_cellsOf_l4 cells a1 d_4 (i_4 + 1) bits) else (if ((shr a1 (nI i_4)) &&& (1 : Int32)) = (1 : Int32) then (f_X2_cellsOf_l4 cells a1 d_4 (i_4 + 1) (bits ||| (shl (1 : Int32) (cells i_4)))) else (f_X2_cellsOf_l4 cells a1 d_4 (i_4 + 1) bits))) := by rw [f_X2_cellsOf_l4]
def f_X2_cellsOf (cells : Nat → Int32) (a1 : Int32) : Int32 := (f_X2_cellsOf_l4 cells a1 7 0 (0 : Int32))
set_option maxHeartbeats 4000000 in
set_option maxRecDepth 100000 in
theorem c_X2_cellsOf (l : Launch) (D : va_G) (cI cZ : ClassId) (q : Nat → Nat) (poles parts plain key stair air : Int32) (cells kinds : Nat → Int32) (a1 : Int32) : RdI l yX2_cellsOf cX2_cellsOf 4 .int 0 0 D (tyL cI cZ) (PW cI cZ q poles parts plain key stair air cells kinds) [.ref (q 2), .int a1] (f_X2_cellsOf cells a1) := by
  refine RdI.of (by decide) (Nat.le_of_ble_eq_true rfl) ?_
  intro p e s m args below meth c Q hx hb hml hown hts hP hK fin ls hl
  have hown : s.vm.findClass RX2 = some m.cls := hown
  have hF : CallFix p m c cX2_cellsOf 4 s args tb RX2 := ⟨hx, hb, hml, hown, hts⟩
  have hl : lv_has ls 4 [(0, .ref (q 2)), (1, .int a1)] := hl
  generalize hR : (f_X2_cellsOf cells a1) = R at fin
  unfold f_X2_cellsOf at hR
  refine lv_iconst (v := (0 : Int32)) hx hb dX2_cellsOf_0 (by decide) ?_
  refine lv_istore_n (lv' := [(2, .int (0 : Int32)), (0, .ref (q 2)), (1, .int a1)]) hx hb dX2_cellsOf_1 rfl hl (by decide) rfl (fun ls hl => ?_)
  refine lv_iconst (v := (0 : Int32)) hx hb dX2_cellsOf_2 (by decide) ?_
  refine lv_istore_n (lv' := [(3, .int (0 : Int32)), (2, .int (0 : Int32)), (0, .ref (q 2)), (1, .int a1)]) hx hb dX2_cellsOf_3 rfl hl (by decide) rfl (fun ls hl => ?_)
  obtain ⟨T_4, hT_4⟩ : ∃ z, f_X2_cellsOf_l4 cells a1 7 0 (0 : Int32) = z := ⟨_, rfl⟩
  rw [hT_4] at hR
  have key_4 : ∀ (d_4 i_4 : Nat) (bits : Int32) (ls : Array Slot), i_4 + d_4 = 7 → f_X2_cellsOf_l4 cells a1 d_4 i_4 bits = T_4 → lv_has ls 4 [(3, .int (nI i_4)), (2, .int bits), (0, .ref (q 2)), (1, .int a1)] → W p l e (rmO 0 0) s m args below meth c s.heap [] 0 0 Q (F0 m 4 ls []) := by
    intro d_4
    induction d_4 with
    | zero =>
      intro i_4 bits ls hi_4 hT_4 hl
      rw [f_X2_cellsOf_l4_z] at hT_4
      refine lv_iload_n hx hb dX2_cellsOf_4 rfl (lv_at hl 0 rfl) ?_
      refine lv_bipush (v := (7 : Int32)) hx hb dX2_cellsOf_5 (by decide) ?_
      refine lv_icmp_ge (tgt := 47) hx hb dX2_cellsOf_7 (by decide) (fun c_7 => ?_) (fun c_7 => absurd (nI_le (a := 7) (by omega) (by omega)) c_7)
      subst hT_4
      try dsimp only at hR
      refine lv_iload_n hx hb dX2_cellsOf_47 rfl (lv_at hl 1 rfl) ?_
      subst hR
      exact fin _ _ dX2_cellsOf_48 (nar_i _)
    | succ d_4 ih_4 =>
      intro i_4 bits ls hi_4 hT_4 hl
      rw [f_X2_cellsOf_l4_s] at hT_4
      refine lv_iload_n hx hb dX2_cellsOf_4 rfl (lv_at hl 0 rfl) ?_
      refine lv_bipush (v := (7 : Int32)) hx hb dX2_cellsOf_5 (by decide) ?_
      refine lv_icmp_ge (tgt := 47) hx hb dX2_cellsOf_7 (by decide) (fun c_7 => absurd c_7 (nI_ge (b := 7) (by omega) (by omega))) (fun c_7 => ?_)
      refine lv_aload_n hx hb dX2_cellsOf_10 rfl (lv_at hl 2 rfl) ?_
      refine va_get (D := D) (ci := 1) (v := .ref (q 6)) (C := RX2) (T := TX2) (N := 8) hx hb hts tbX2 hown hK hP 0 PW_0 rfl 0 (by decide) (hts _ tm_1_39) (fun _ h9 => h9) rfl dX2_cellsOf_11 ?_
      refine lv_iload_n hx hb dX2_cellsOf_14 rfl (lv_at hl 0 rfl) ?_
      refine va_iald hx hb hK hP 1 0 PW_1 rfl (vp_in_nI (show i_4 < 7 by omega) (by omega)) dX2_cellsOf_15 ?_
      refine lv_rw (z := (cells i_4)) (congrArg cells (nI_clamp (show i_4 < 2 ^ 31 by omega))) ?_
      refine lv_bipush (v := (-9 : Int32)) hx hb dX2_cellsOf_16 (by decide) ?_
      refine lv_icmp_eq (tgt := 41) hx hb dX2_cellsOf_18 (by decide) (fun c_18 => ?_) (fun c_18 => ?_)
      · rw [if_pos c_18] at hT_4
        refine lv_iinc (v := (nI (i_4 + 1))) (lv' := [(3, .int (nI (i_4 + 1))), (2, .int bits), (0, .ref (q 2)), (1, .int a1)]) hx hb dX2_cellsOf_41 hl (k := 0) rfl (nI_up i_4) (by decide) rfl (fun ls hl => ?_)
        refine lv_goto (tgt := 4) hx hb dX2_cellsOf_44 (by decide) ?_
        exact ih_4 (i_4 + 1) bits ls (by omega) hT_4 (lv_sub hl [0, 1, 2, 3] rfl)
      · rw [if_neg c_18] at hT_4
        refine lv_iload_n hx hb dX2_cellsOf_21 rfl (lv_at hl 3 rfl) ?_
        refine lv_iload_n hx hb dX2_cellsOf_22 rfl (lv_at hl 0 rfl) ?_
        refine lv_ishr hx hb dX2_cellsOf_23 ?_
        refine lv_rw (z := (shr a1 (nI i_4))) rfl ?_
        refine lv_iconst (v := (1 : Int32)) hx hb dX2_cellsOf_24 (by decide) ?_
        refine lv_iand hx hb dX2_cellsOf_25 ?_
        refine lv_iconst (v := (1 : Int32)) hx hb dX2_cellsOf_26 (by decide) ?_
        refine lv_icmp_ne (tgt := 41) hx hb dX2_cellsOf_27 (by decide) (fun c_27 => ?_) (fun c_27 => ?_)
        · rw [if_neg c_27] at hT_4
          refine lv_iinc (v := (nI (i_4 + 1))) (lv' := [(3, .int (nI (i_4 + 1))), (2, .int bits), (0, .ref (q 2)), (1, .int a1)]) hx hb dX2_cellsOf_41 hl (k := 0) rfl (nI_up i_4) (by decide) rfl (fun ls hl => ?_)
          refine lv_goto (tgt := 4) hx hb dX2_cellsOf_44 (by decide) ?_
          exact ih_4 (i_4 + 1) bits ls (by omega) hT_4 (lv_sub hl [0, 1, 2, 3] rfl)
        · rw [if_pos c_27] at hT_4
          refine lv_iload_n hx hb dX2_cellsOf_30 rfl (lv_at hl 1 rfl) ?_
          refine lv_iconst (v := (1 : Int32)) hx hb dX2_cellsOf_31 (by decide) ?_
          refine lv_aload_n hx hb dX2_cellsOf_32 rfl (lv_at hl 2 rfl) ?_
          refine va_get (D := D) (ci := 1) (v := .ref (q 6)) (C := RX2) (T := TX2) (N := 8) hx hb hts tbX2 hown hK hP 0 PW_0 rfl 0 (by decide) (hts _ tm_1_39) (fun _ h9 => h9) rfl dX2_cellsOf_33 ?_
          refine lv_iload_n hx hb dX2_cellsOf_36 rfl (lv_at hl 0 rfl) ?_
          refine va_iald hx hb hK hP 1 0 PW_1 rfl (vp_in_nI (show i_4 < 7 by omega) (by omega)) dX2_cellsOf_37 ?_
          refine lv_rw (z := (cells i_4)) (congrArg cells (nI_clamp (show i_4 < 2 ^ 31 by omega))) ?_
          refine lv_ishl hx hb dX2_cellsOf_38 ?_
          refine lv_rw (z := (shl (1 : Int32) (cells i_4))) rfl ?_
          refine lv_ior hx hb dX2_cellsOf_39 ?_
          refine lv_istore_n (lv' := [(2, .int (bits ||| (shl (1 : Int32) (cells i_4)))), (3, .int (nI i_4)), (0, .ref (q 2)), (1, .int a1)]) hx hb dX2_cellsOf_40 rfl hl (by decide) rfl (fun ls hl => ?_)
          refine lv_iinc (v := (nI (i_4 + 1))) (lv' := [(3, .int (nI (i_4 + 1))), (2, .int (bits ||| (shl (1 : Int32) (cells i_4)))), (0, .ref (q 2)), (1, .int a1)]) hx hb dX2_cellsOf_41 hl (k := 1) rfl (nI_up i_4) (by decide) rfl (fun ls hl => ?_)
          refine lv_goto (tgt := 4) hx hb dX2_cellsOf_44 (by decide) ?_
          exact ih_4 (i_4 + 1) (bits ||| (shl (1 : Int32) (cells i_4))) ls (by omega) hT_4 (lv_sub hl [0, 1, 2, 3] rfl)
  exact key_4 7 0 (0 : Int32) ls (by omega) hT_4 (lv_sub hl [0, 1, 2, 3] rfl)
def f_X2_store (poles : Int32) (a1 : Int32) : Int32 := (poles - (f_J6_bitCount (f_X1_poles a1)))
set_option maxHeartbeats 4000000 in
set_option maxRecDepth 100000 in
theorem c_X2_store (l : Launch) (D : va_G) (cI cZ : ClassId) (q : Nat → Nat) (poles parts plain key stair air : Int32) (cells kinds : Nat → Int32) (a1 : Int32) : RdI l yX2_store cX2_store 2 .int 1 20 D (tyL cI cZ) (PW cI cZ q poles parts plain key stair air cells kinds) [.ref (q 2), .int a1] (f_X2_store poles a1) := by
  refine RdI.of (by decide) (Nat.le_of_ble_eq_true rfl) ?_
  intro p e s m args below meth c Q hx hb hml hown hts hP hK fin ls hl
  have hown : s.vm.findClass RX2 = some m.cls := hown
  have hF : CallFix p m c cX2_store 2 s args tb RX2 := ⟨hx, hb, hml, hown, hts⟩
  have hl : lv_has ls 2 [(0, .ref (q 2)), (1, .int a1)] := hl
  generalize hR : (f_X2_store poles a1) = R at fin
  unfold f_X2_store at hR
  refine lv_aload_n hx hb dX2_store_0 rfl (lv_at hl 0 rfl) ?_
  refine va_get (D := D) (ci := 1) (v := .int poles) (C := RX2) (T := TX2) (N := 8) hx hb hts tbX2 hown hK hP 0 PW_0 rfl 2 (by decide) (hts _ tm_1_41) (fun _ h9 => h9) rfl dX2_store_1 ?_
  refine lv_iload_n hx hb dX2_store_4 rfl (lv_at hl 1 rfl) ?_
  refine sRdI (As := [.int a1]) (rest := [.int poles]) hF (c_X1_poles l D cI cZ q a1) (gdS tm_1_195 tm_1_196 tm_1_8 tm_1_197) de_X1_poles ⟨Nat.le_of_ble_eq_true rfl, Nat.le_of_ble_eq_true rfl⟩ va_P_nil hK hl.1 rfl (Nat.le_of_ble_eq_true rfl) dX2_store_5 ⟨Nat.zero_le _, Nat.zero_le _⟩ ?_
  refine sRdI (As := [.int (f_X1_poles a1)]) (rest := [.int poles]) hF (c_J6_bitCount l D cI cZ q (f_X1_poles a1)) (gdS tm_1_199 tm_1_200 tm_1_9 tm_1_201) de_J6_bitCount_0f7a4 ⟨Nat.le_of_ble_eq_true rfl, Nat.le_of_ble_eq_true rfl⟩ va_P_nil hK hl.1 rfl (Nat.le_of_ble_eq_true rfl) dX2_store_8 ⟨Nat.zero_le _, Nat.zero_le _⟩ ?_
  refine lv_isub hx hb dX2_store_11 ?_
  subst hR
  exact fin _ _ dX2_store_12 (nar_i _)
def f_X2_canPut (poles : Int32) (a1 : Int32) (a2 : Int32) : Int32 := (if (f_X2_store poles a1) ≤ (0 : Int32) then (0 : Int32) else (if (4 : Int32) ≤ (f_X1_height a1 a2) then (0 : Int32) else (1 : Int32)))
set_option maxHeartbeats 4000000 in
set_option maxRecDepth 100000 in
theorem c_X2_canPut (l : Launch) (D : va_G) (cI cZ : ClassId) (q : Nat → Nat) (poles parts plain key stair air : Int32) (cells kinds : Nat → Int32) (a1 : Int32) (a2 : Int32) : RdI l yX2_canPut cX2_canPut 3 .boolean 2 41 D (tyL cI cZ) (PW cI cZ q poles parts plain key stair air cells kinds) [.ref (q 2), .int a1, .int a2] (f_X2_canPut poles a1 a2) := by
  refine RdI.of (by decide) (Nat.le_of_ble_eq_true rfl) ?_
  intro p e s m args below meth c Q hx hb hml hown hts hP hK fin ls hl
  have hown : s.vm.findClass RX2 = some m.cls := hown
  have hF : CallFix p m c cX2_canPut 3 s args tb RX2 := ⟨hx, hb, hml, hown, hts⟩
  have hl : lv_has ls 3 [(0, .ref (q 2)), (1, .int a1), (2, .int a2)] := hl
  generalize hR : (f_X2_canPut poles a1 a2) = R at fin
  unfold f_X2_canPut at hR
  refine lv_aload_n hx hb dX2_canPut_0 rfl (lv_at hl 0 rfl) ?_
  refine lv_iload_n hx hb dX2_canPut_1 rfl (lv_at hl 1 rfl) ?_
  refine vRdI (b := (q 2)) (As := [.int a1]) (rest := []) hF (c_X2_store l D cI cZ q poles parts plain key stair air cells kinds a1) (gdV tm_2_114 tm_1_192 tm_1_193 tm_1_3 tm_1_194) de_X2_store ⟨Nat.le_of_ble_eq_true rfl, Nat.le_of_ble_eq_true rfl⟩ hP hK (va_recv hK hP (ci := 1) (q0 := 0) rfl PW_0) hl.1 rfl (Nat.le_of_ble_eq_true rfl) dX2_canPut_2 ⟨Nat.zero_le _, Nat.zero_le _⟩ ?_
  refine lv_if_le (tgt := 21) hx hb dX2_canPut_5 (by decide) (fun c_5 => ?_) (fun c_5 => ?_)
  · rw [if_pos c_5] at hR
    refine lv_iconst (v := (0 : Int32)) hx hb dX2_canPut_21 (by decide) ?_
    subst hR
    exact fin _ _ dX2_canPut_22 (nar_b (Or.inl rfl))
  · rw [if_neg c_5] at hR
    refine lv_iload_n hx hb dX2_canPut_8 rfl (lv_at hl 1 rfl) ?_
    refine lv_iload_n hx hb dX2_canPut_9 rfl (lv_at hl 2 rfl) ?_
    refine sRdI (As := [.int a1, .int a2]) (rest := []) hF (c_X1_height l D cI cZ q a1 a2) (gdS tm_2_40 tm_2_12 tm_1_8 tm_2_13) de_X1_height ⟨Nat.le_of_ble_eq_true rfl, Nat.le_of_ble_eq_true rfl⟩ va_P_nil hK hl.1 rfl (Nat.le_of_ble_eq_true rfl) dX2_canPut_10 ⟨Nat.zero_le _, Nat.zero_le _⟩ ?_
    refine lv_iconst (v := (4 : Int32)) hx hb dX2_canPut_13 (by decide) ?_
    refine lv_icmp_ge (tgt := 21) hx hb dX2_canPut_14 (by decide) (fun c_14 => ?_) (fun c_14 => ?_)
    · rw [if_pos c_14] at hR
      refine lv_iconst (v := (0 : Int32)) hx hb dX2_canPut_21 (by decide) ?_
      subst hR
      exact fin _ _ dX2_canPut_22 (nar_b (Or.inl rfl))
    · rw [if_neg c_14] at hR
      refine lv_iconst (v := (1 : Int32)) hx hb dX2_canPut_17 (by decide) ?_
      refine lv_goto (tgt := 22) hx hb dX2_canPut_18 (by decide) ?_
      subst hR
      exact fin _ _ dX2_canPut_22 (nar_b (Or.inr rfl))
def f_X2_canStrike (a1 : Int32) (a2 : Int32) : Int32 := (if (f_X1_height a1 a2) ≤ (0 : Int32) then (0 : Int32) else (1 : Int32))
set_option maxHeartbeats 4000000 in
set_option maxRecDepth 100000 in
theorem c_X2_canStrike (l : Launch) (D : va_G) (cI cZ : ClassId) (q : Nat → Nat) (poles parts plain key stair air : Int32) (cells kinds : Nat → Int32) (a1 : Int32) (a2 : Int32) : RdI l yX2_canStrike cX2_canStrike 3 .boolean 2 41 D (tyL cI cZ) (PW cI cZ q poles parts plain key stair air cells kinds) [.ref (q 2), .int a1, .int a2] (f_X2_canStrike a1 a2) := by
  refine RdI.of (by decide) (Nat.le_of_ble_eq_true rfl) ?_
  intro p e s m args below meth c Q hx hb hml hown hts hP hK fin ls hl
  have hown : s.vm.findClass RX2 = some m.cls := hown
  have hF : CallFix p m c cX2_canStrike 3 s args tb RX2 := ⟨hx, hb, hml, hown, hts⟩
  have hl : lv_has ls 3 [(0, .ref (q 2)), (1, .int a1), (2, .int a2)] := hl
  generalize hR : (f_X2_canStrike a1 a2) = R at fin
  unfold f_X2_canStrike at hR
  refine lv_iload_n hx hb dX2_canStrike_0 rfl (lv_at hl 1 rfl) ?_
  refine lv_iload_n hx hb dX2_canStrike_1 rfl (lv_at hl 2 rfl) ?_
  refine sRdI (As := [.int a1, .int a2]) (rest := []) hF (c_X1_height l D cI cZ q a1 a2) (gdS tm_2_40 tm_2_12 tm_1_8 tm_2_13) de_X1_height ⟨Nat.le_of_ble_eq_true rfl, Nat.le_of_ble_eq_true rfl⟩ va_P_nil hK hl.1 rfl (Nat.le_of_ble_eq_true rfl) dX2_canStrike_2 ⟨Nat.zero_le _, Nat.zero_le _⟩ ?_
  refine lv_if_le (tgt := 12) hx hb dX2_canStrike_5 (by decide) (fun c_5 => ?_) (fun c_5 => ?_)
  · rw [if_pos c_5] at hR
    refine lv_iconst (v := (0 : Int32)) hx hb dX2_canStrike_12 (by decide) ?_
    subst hR
    exact fin _ _ dX2_canStrike_13 (nar_b (Or.inl rfl))
  · rw [if_neg c_5] at hR
    refine lv_iconst (v := (1 : Int32)) hx hb dX2_canStrike_8 (by decide) ?_
    refine lv_goto (tgt := 13) hx hb dX2_canStrike_9 (by decide) ?_
    subst hR
    exact fin _ _ dX2_canStrike_13 (nar_b (Or.inr rfl))
def f_X2_withPut (plain : Int32) (key : Int32) (stair : Int32) (air : Int32) (a1 : Int32) (a2 : Int32) : Int32 := (f_X1_of ((f_X1_poles a1) ||| (f_X1_cellBit a2 (f_X1_height a1 a2))) ((f_X1_had a1) ||| ((f_X1_cellBit a2 (f_X1_height a1 a2)) &&& (((plain ||| key) ||| stair) ||| air))))
set_option maxHeartbeats 4000000 in
set_option maxRecDepth 100000 in
theorem c_X2_withPut (l : Launch) (D : va_G) (cI cZ : ClassId) (q : Nat → Nat) (poles parts plain key stair air : Int32) (cells kinds : Nat → Int32) (a1 : Int32) (a2 : Int32) : RdI l yX2_withPut cX2_withPut 5 .int 2 41 D (tyL cI cZ) (PW cI cZ q poles parts plain key stair air cells kinds) [.ref (q 2), .int a1, .int a2] (f_X2_withPut plain key stair air a1 a2) := by
  refine RdI.of (by decide) (Nat.le_of_ble_eq_true rfl) ?_
  intro p e s m args below meth c Q hx hb hml hown hts hP hK fin ls hl
  have hown : s.vm.findClass RX2 = some m.cls := hown
  have hF : CallFix p m c cX2_withPut 5 s args tb RX2 := ⟨hx, hb, hml, hown, hts⟩
  have hl : lv_has ls 5 [(0, .ref (q 2)), (1, .int a1), (2, .int a2)] := hl
  generalize hR : (f_X2_withPut plain key stair air a1 a2) = R at fin
  unfold f_X2_withPut at hR
  refine lv_iload_n hx hb dX2_withPut_0 rfl (lv_at hl 2 rfl) ?_
  refine lv_iload_n hx hb dX2_withPut_1 rfl (lv_at hl 1 rfl) ?_
  refine lv_iload_n hx hb dX2_withPut_2 rfl (lv_at hl 2 rfl) ?_
  refine sRdI (As := [.int a1, .int a2]) (rest := [.int a2]) hF (c_X1_height l D cI cZ q a1 a2) (gdS tm_2_40 tm_2_12 tm_1_8 tm_2_13) de_X1_height ⟨Nat.le_of_ble_eq_true rfl, Nat.le_of_ble_eq_true rfl⟩ va_P_nil hK hl.1 rfl (Nat.le_of_ble_eq_true rfl) dX2_withPut_3 ⟨Nat.zero_le _, Nat.zero_le _⟩ ?_
  refine sRdI (As := [.int a2, .int (f_X1_height a1 a2)]) (rest := []) hF (c_X1_cellBit l D cI cZ q a2 (f_X1_height a1 a2)) (gdS tm_2_41 tm_2_42 tm_1_8 tm_2_43) de_X1_cellBit ⟨Nat.le_of_ble_eq_true rfl, Nat.le_of_ble_eq_true rfl⟩ va_P_nil hK hl.1 rfl (Nat.le_of_ble_eq_true rfl) dX2_withPut_6 ⟨Nat.zero_le _, Nat.zero_le _⟩ ?_
  refine lv_istore_n (lv' := [(3, .int (f_X1_cellBit a2 (f_X1_height a1 a2))), (0, .ref (q 2)), (1, .int a1), (2, .int a2)]) hx hb dX2_withPut_9 rfl hl (by decide) rfl (fun ls hl => ?_)
  refine lv_aload_n hx hb dX2_withPut_10 rfl (lv_at hl 1 rfl) ?_
  refine va_get (D := D) (ci := 1) (v := .int plain) (C := RX2) (T := TX2) (N := 8) hx hb hts tbX2 hown hK hP 0 PW_0 rfl 4 (by decide) (hts _ tm_1_45) (fun _ h9 => h9) rfl dX2_withPut_11 ?_
  refine lv_aload_n hx hb dX2_withPut_14 rfl (lv_at hl 1 rfl) ?_
  refine va_get (D := D) (ci := 1) (v := .int key) (C := RX2) (T := TX2) (N := 8) hx hb hts tbX2 hown hK hP 0 PW_0 rfl 5 (by decide) (hts _ tm_1_46) (fun _ h9 => h9) rfl dX2_withPut_15 ?_
  refine lv_ior hx hb dX2_withPut_18 ?_
  refine lv_aload_n hx hb dX2_withPut_19 rfl (lv_at hl 1 rfl) ?_
  refine va_get (D := D) (ci := 1) (v := .int stair) (C := RX2) (T := TX2) (N := 8) hx hb hts tbX2 hown hK hP 0 PW_0 rfl 6 (by decide) (hts _ tm_1_47) (fun _ h9 => h9) rfl dX2_withPut_20 ?_
  refine lv_ior hx hb dX2_withPut_23 ?_
  refine lv_aload_n hx hb dX2_withPut_24 rfl (lv_at hl 1 rfl) ?_
  refine va_get (D := D) (ci := 1) (v := .int air) (C := RX2) (T := TX2) (N := 8) hx hb hts tbX2 hown hK hP 0 PW_0 rfl 7 (by decide) (hts _ tm_1_48) (fun _ h9 => h9) rfl dX2_withPut_25 ?_
  refine lv_ior hx hb dX2_withPut_28 ?_
  refine lv_istore (lv' := [(4, .int (((plain ||| key) ||| stair) ||| air)), (3, .int (f_X1_cellBit a2 (f_X1_height a1 a2))), (0, .ref (q 2)), (1, .int a1), (2, .int a2)]) hx hb dX2_withPut_29 hl (by decide) rfl (fun ls hl => ?_)
  refine lv_iload_n hx hb dX2_withPut_31 rfl (lv_at hl 3 rfl) ?_
  refine sRdI (As := [.int a1]) (rest := []) hF (c_X1_poles l D cI cZ q a1) (gdS tm_1_195 tm_1_196 tm_1_8 tm_1_197) de_X1_poles ⟨Nat.le_of_ble_eq_true rfl, Nat.le_of_ble_eq_true rfl⟩ va_P_nil hK hl.1 rfl (Nat.le_of_ble_eq_true rfl) dX2_withPut_32 ⟨Nat.zero_le _, Nat.zero_le _⟩ ?_
  refine lv_iload_n hx hb dX2_withPut_35 rfl (lv_at hl 1 rfl) ?_
  refine lv_ior hx hb dX2_withPut_36 ?_
  refine lv_iload_n hx hb dX2_withPut_37 rfl (lv_at hl 3 rfl) ?_
  refine sRdI (As := [.int a1]) (rest := [.int ((f_X1_poles a1) ||| (f_X1_cellBit a2 (f_X1_height a1 a2)))]) hF (c_X1_had l D cI cZ q a1) (gdS tm_2_44 tm_1_212 tm_1_8 tm_1_213) de_X1_had ⟨Nat.le_of_ble_eq_true rfl, Nat.le_of_ble_eq_true rfl⟩ va_P_nil hK hl.1 rfl (Nat.le_of_ble_eq_true rfl) dX2_withPut_38 ⟨Nat.zero_le _, Nat.zero_le _⟩ ?_
  refine lv_iload_n hx hb dX2_withPut_41 rfl (lv_at hl 1 rfl) ?_
  refine lv_iload hx hb dX2_withPut_42 (lv_at hl 0 rfl) ?_
  refine lv_iand hx hb dX2_withPut_44 ?_
  refine lv_ior hx hb dX2_withPut_45 ?_
  refine sRdI (As := [.int ((f_X1_poles a1) ||| (f_X1_cellBit a2 (f_X1_height a1 a2))), .int ((f_X1_had a1) ||| ((f_X1_cellBit a2 (f_X1_height a1 a2)) &&& (((plain ||| key) ||| stair) ||| air)))]) (rest := []) hF (c_X1_of l D cI cZ q ((f_X1_poles a1) ||| (f_X1_cellBit a2 (f_X1_height a1 a2))) ((f_X1_had a1) ||| ((f_X1_cellBit a2 (f_X1_height a1 a2)) &&& (((plain ||| key) ||| stair) ||| air)))) (gdS tm_2_45 tm_2_46 tm_1_8 tm_2_47) de_X1_of ⟨Nat.le_of_ble_eq_true rfl, Nat.le_of_ble_eq_true rfl⟩ va_P_nil hK hl.1 rfl (Nat.le_of_ble_eq_true rfl) dX2_withPut_46 ⟨Nat.zero_le _, Nat.zero_le _⟩ ?_
  subst hR
  exact fin _ _ dX2_withPut_49 (nar_i _)
def f_X2_carriedBy (plain : Int32) (key : Int32) (stair : Int32) (a1 : Int32) : Int32 := (((plain &&& (shl a1 (4 : Int32))) ||| ((key &&& ((shl a1 (1 : Int32)) &&& (-4370 : Int32))) &&& ((shr a1 (1 : Int32)) &&& (-34953 : Int32)))) ||| (stair &&& (shl ((a1 ||| ((shl a1 (1 : Int32)) &&& (-4370 : Int32))) ||| ((shr a1 (1 : Int32)) &&& (-34953 : Int32))) (4 : Int32))))
set_option maxHeartbeats 4000000 in
set_option maxRecDepth 100000 in
theorem c_X2_carriedBy (l : Launch) (D : va_G) (cI cZ : ClassId) (q : Nat → Nat) (poles parts plain key stair air : Int32) (cells kinds : Nat → Int32) (a1 : Int32) : RdI l yX2_carriedBy cX2_carriedBy 5 .int 0 0 D (tyL cI cZ) (PW cI cZ q poles parts plain key stair air cells kinds) [.ref (q 2), .int a1] (f_X2_carriedBy plain key stair a1) := by
  refine RdI.of (by decide) (Nat.le_of_ble_eq_true rfl) ?_
  intro p e s m args below meth c Q hx hb hml hown hts hP hK fin ls hl
  have hown : s.vm.findClass RX2 = some m.cls := hown
  have hF : CallFix p m c cX2_carriedBy 5 s args tb RX2 := ⟨hx, hb, hml, hown, hts⟩
  have hl : lv_has ls 5 [(0, .ref (q 2)), (1, .int a1)] := hl
  generalize hR : (f_X2_carriedBy plain key stair a1) = R at fin
  unfold f_X2_carriedBy at hR
  refine lv_iload_n hx hb dX2_carriedBy_0 rfl (lv_at hl 1 rfl) ?_
  refine lv_iconst (v := (1 : Int32)) hx hb dX2_carriedBy_1 (by decide) ?_
  refine lv_ishl hx hb dX2_carriedBy_2 ?_
  refine lv_rw (z := (shl a1 (1 : Int32))) rfl ?_
  refine lv_sipush (v := (-4370 : Int32)) hx hb dX2_carriedBy_3 (by decide) ?_
  refine lv_iand hx hb dX2_carriedBy_6 ?_
  refine lv_istore_n (lv' := [(2, .int ((shl a1 (1 : Int32)) &&& (-4370 : Int32))), (0, .ref (q 2)), (1, .int a1)]) hx hb dX2_carriedBy_7 rfl hl (by decide) rfl (fun ls hl => ?_)
  refine lv_iload_n hx hb dX2_carriedBy_8 rfl (lv_at hl 2 rfl) ?_
  refine lv_iconst (v := (1 : Int32)) hx hb dX2_carriedBy_9 (by decide) ?_
  refine lv_ishr hx hb dX2_carriedBy_10 ?_
  refine lv_rw (z := (shr a1 (1 : Int32))) rfl ?_
  refine lv_ldc (v := (-34953 : Int32)) hx hb hown (hts _ tm_1_226) dX2_carriedBy_11 ?_
  refine lv_iand hx hb dX2_carriedBy_13 ?_
  refine lv_istore_n (lv' := [(3, .int ((shr a1 (1 : Int32)) &&& (-34953 : Int32))), (2, .int ((shl a1 (1 : Int32)) &&& (-4370 : Int32))), (0, .ref (q 2)), (1, .int a1)]) hx hb dX2_carriedBy_14 rfl hl (by decide) rfl (fun ls hl => ?_)
  refine lv_iload_n hx hb dX2_carriedBy_15 rfl (lv_at hl 3 rfl) ?_
  refine lv_iload_n hx hb dX2_carriedBy_16 rfl (lv_at hl 1 rfl) ?_
  refine lv_ior hx hb dX2_carriedBy_17 ?_
  refine lv_iload_n hx hb dX2_carriedBy_18 rfl (lv_at hl 0 rfl) ?_
  refine lv_ior hx hb dX2_carriedBy_19 ?_
  refine lv_iconst (v := (4 : Int32)) hx hb dX2_carriedBy_20 (by decide) ?_
  refine lv_ishl hx hb dX2_carriedBy_21 ?_
  refine lv_rw (z := (shl ((a1 ||| ((shl a1 (1 : Int32)) &&& (-4370 : Int32))) ||| ((shr a1 (1 : Int32)) &&& (-34953 : Int32))) (4 : Int32))) rfl ?_
  refine lv_istore (lv' := [(4, .int (shl ((a1 ||| ((shl a1 (1 : Int32)) &&& (-4370 : Int32))) ||| ((shr a1 (1 : Int32)) &&& (-34953 : Int32))) (4 : Int32))), (3, .int ((shr a1 (1 : Int32)) &&& (-34953 : Int32))), (2, .int ((shl a1 (1 : Int32)) &&& (-4370 : Int32))), (0, .ref (q 2)), (1, .int a1)]) hx hb dX2_carriedBy_22 hl (by decide) rfl (fun ls hl => ?_)
  refine lv_aload_n hx hb dX2_carriedBy_24 rfl (lv_at hl 3 rfl) ?_
  refine va_get (D := D) (ci := 1) (v := .int plain) (C := RX2) (T := TX2) (N := 8) hx hb hts tbX2 hown hK hP 0 PW_0 rfl 4 (by decide) (hts _ tm_1_45) (fun _ h9 => h9) rfl dX2_carriedBy_25 ?_
  refine lv_iload_n hx hb dX2_carriedBy_28 rfl (lv_at hl 4 rfl) ?_
  refine lv_iconst (v := (4 : Int32)) hx hb dX2_carriedBy_29 (by decide) ?_
  refine lv_ishl hx hb dX2_carriedBy_30 ?_
  refine lv_rw (z := (shl a1 (4 : Int32))) rfl ?_
  refine lv_iand hx hb dX2_carriedBy_31 ?_
  refine lv_aload_n hx hb dX2_carriedBy_32 rfl (lv_at hl 3 rfl) ?_
  refine va_get (D := D) (ci := 1) (v := .int key) (C := RX2) (T := TX2) (N := 8) hx hb hts tbX2 hown hK hP 0 PW_0 rfl 5 (by decide) (hts _ tm_1_46) (fun _ h9 => h9) rfl dX2_carriedBy_33 ?_
  refine lv_iload_n hx hb dX2_carriedBy_36 rfl (lv_at hl 2 rfl) ?_
  refine lv_iand hx hb dX2_carriedBy_37 ?_
  refine lv_iload_n hx hb dX2_carriedBy_38 rfl (lv_at hl 1 rfl) ?_
  refine lv_iand hx hb dX2_carriedBy_39 ?_
  refine lv_ior hx hb dX2_carriedBy_40 ?_
  refine lv_aload_n hx hb dX2_carriedBy_41 rfl (lv_at hl 3 rfl) ?_
  refine va_get (D := D) (ci := 1) (v := .int stair) (C := RX2) (T := TX2) (N := 8) hx hb hts tbX2 hown hK hP 0 PW_0 rfl 6 (by decide) (hts _ tm_1_47) (fun _ h9 => h9) rfl dX2_carriedBy_42 ?_
  refine lv_iload hx hb dX2_carriedBy_45 (lv_at hl 0 rfl) ?_
  refine lv_iand hx hb dX2_carriedBy_47 ?_
  refine lv_ior hx hb dX2_carriedBy_48 ?_
  subst hR
  exact fin _ _ dX2_carriedBy_49 (nar_i _)
def f_X2_standing_l15 (plain : Int32) (key : Int32) (stair : Int32) (a1 : Int32) : Nat → Nat → (Int32) → Int32
  | 0, i_15, sd => sd
  | d_15 + 1, i_15, sd => (if (sd ||| (a1 &&& (f_X2_carriedBy plain key stair sd))) = sd then sd else (f_X2_standing_l15 plain key stair a1 d_15 (i_15 + 1) (sd ||| (a1 &&& (f_X2_carriedBy plain key stair sd)))))
theorem f_X2_standing_l15_z {plain : Int32} {key : Int32} {stair : Int32} {a1 : Int32} {i_15 : Nat} {sd : Int32} : f_X2_standing_l15 plain key stair a1 0 i_15 sd = sd := by rw [f_X2_standing_l15]
theorem f_X2_standing_l15_s {plain : Int32} {key : Int32} {stair : Int32} {a1 : Int32} {d_15 : Nat} {i_15 : Nat} {sd : Int32} : f_X2_standing_l15 plain key stair a1 (d_15 + 1) i_15 sd = (if (sd ||| (a1 &&& (f_X2_carriedBy plain key stair sd))) = sd then sd else (f_X2_standing_l15 plain key stair a1 d_15 (i_15 + 1) (sd ||| (a1 &&& (f_X2_carriedBy plain key stair sd))))) := by rw [f_X2_standing_l15]
def f_X2_standing (plain : Int32) (key : Int32) (stair : Int32) (air : Int32) (a1 : Int32) (a2 : Int32) : Int32 := (f_X2_standing_l15 plain key stair a1 7 0 (a1 &&& ((a2 ||| (15 : Int32)) ||| air)))
set_option maxHeartbeats 4000000 in
set_option maxRecDepth 100000 in
theorem c_X2_standing (l : Launch) (D : va_G) (cI cZ : ClassId) (q : Nat → Nat) (poles parts plain key stair air : Int32) (cells kinds : Nat → Int32) (a1 : Int32) (a2 : Int32) : RdI l yX2_standing cX2_standing 6 .int 1 24 D (tyL cI cZ) (PW cI cZ q poles parts plain key stair air cells kinds) [.ref (q 2), .int a1, .int a2] (f_X2_standing plain key stair air a1 a2) := by
  refine RdI.of (by decide) (Nat.le_of_ble_eq_true rfl) ?_
  intro p e s m args below meth c Q hx hb hml hown hts hP hK fin ls hl
  have hown : s.vm.findClass RX2 = some m.cls := hown
  have hF : CallFix p m c cX2_standing 6 s args tb RX2 := ⟨hx, hb, hml, hown, hts⟩
  have hl : lv_has ls 6 [(0, .ref (q 2)), (1, .int a1), (2, .int a2)] := hl
  generalize hR : (f_X2_standing plain key stair air a1 a2) = R at fin
  unfold f_X2_standing at hR
  refine lv_iload_n hx hb dX2_standing_0 rfl (lv_at hl 1 rfl) ?_
  refine lv_iload_n hx hb dX2_standing_1 rfl (lv_at hl 2 rfl) ?_
  refine lv_bipush (v := (15 : Int32)) hx hb dX2_standing_2 (by decide) ?_
  refine lv_ior hx hb dX2_standing_4 ?_
  refine lv_aload_n hx hb dX2_standing_5 rfl (lv_at hl 0 rfl) ?_
  refine va_get (D := D) (ci := 1) (v := .int air) (C := RX2) (T := TX2) (N := 8) hx hb hts tbX2 hown hK hP 0 PW_0 rfl 7 (by decide) (hts _ tm_1_48) (fun _ h9 => h9) rfl dX2_standing_6 ?_
  refine lv_ior hx hb dX2_standing_9 ?_
  refine lv_iand hx hb dX2_standing_10 ?_
  refine lv_istore_n (lv' := [(3, .int (a1 &&& ((a2 ||| (15 : Int32)) ||| air))), (0, .ref (q 2)), (1, .int a1), (2, .int a2)]) hx hb dX2_standing_11 rfl hl (by decide) rfl (fun ls hl => ?_)
  refine lv_iconst (v := (0 : Int32)) hx hb dX2_standing_12 (by decide) ?_
  refine lv_istore (lv' := [(4, .int (0 : Int32)), (3, .int (a1 &&& ((a2 ||| (15 : Int32)) ||| air))), (0, .ref (q 2)), (1, .int a1), (2, .int a2)]) hx hb dX2_standing_13 hl (by decide) rfl (fun ls hl => ?_)
  have key_15 : ∀ (d_15 i_15 : Nat) (sd : Int32) (ls : Array Slot), i_15 + d_15 = 7 → f_X2_standing_l15 plain key stair a1 d_15 i_15 sd = R → lv_has ls 6 [(4, .int (nI i_15)), (3, .int sd), (0, .ref (q 2)), (1, .int a1), (2, .int a2)] → W p l e (rmO 1 24) s m args below meth c s.heap [] 0 0 Q (F0 m 15 ls []) := by
    intro d_15
    induction d_15 with
    | zero =>
      intro i_15 sd ls hi_15 hR hl
      rw [f_X2_standing_l15_z] at hR
      refine lv_iload hx hb dX2_standing_15 (lv_at hl 0 rfl) ?_
      refine lv_bipush (v := (7 : Int32)) hx hb dX2_standing_17 (by decide) ?_
      refine lv_icmp_ge (tgt := 50) hx hb dX2_standing_19 (by decide) (fun c_19 => ?_) (fun c_19 => absurd (nI_le (a := 7) (by omega) (by omega)) c_19)
      refine lv_iload_n hx hb dX2_standing_50 rfl (lv_at hl 1 rfl) ?_
      subst hR
      exact fin _ _ dX2_standing_51 (nar_i _)
    | succ d_15 ih_15 =>
      intro i_15 sd ls hi_15 hR hl
      rw [f_X2_standing_l15_s] at hR
      refine lv_iload hx hb dX2_standing_15 (lv_at hl 0 rfl) ?_
      refine lv_bipush (v := (7 : Int32)) hx hb dX2_standing_17 (by decide) ?_
      refine lv_icmp_ge (tgt := 50) hx hb dX2_standing_19 (by decide) (fun c_19 => absurd c_19 (nI_ge (b := 7) (by omega) (by omega))) (fun c_19 => ?_)
      refine lv_iload_n hx hb dX2_standing_22 rfl (lv_at hl 1 rfl) ?_
      refine lv_iload_n hx hb dX2_standing_23 rfl (lv_at hl 3 rfl) ?_
      refine lv_aload_n hx hb dX2_standing_24 rfl (lv_at hl 2 rfl) ?_
      refine lv_iload_n hx hb dX2_standing_25 rfl (lv_at hl 1 rfl) ?_
      refine vRdI (b := (q 2)) (As := [.int sd]) (rest := [.int a1, .int sd]) hF (c_X2_carriedBy l D cI cZ q poles parts plain key stair air cells kinds sd) (gdV tm_1_222 tm_1_223 tm_1_224 tm_1_3 tm_1_225) de_X2_carriedBy ⟨Nat.le_of_ble_eq_true rfl, Nat.le_of_ble_eq_true rfl⟩ hP hK (va_recv hK hP (ci := 1) (q0 := 0) rfl PW_0) hl.1 rfl (Nat.le_of_ble_eq_true rfl) dX2_standing_26 ⟨Nat.zero_le _, Nat.zero_le _⟩ ?_
      refine lv_iand hx hb dX2_standing_29 ?_
      refine lv_ior hx hb dX2_standing_30 ?_
      refine lv_istore (lv' := [(5, .int (sd ||| (a1 &&& (f_X2_carriedBy plain key stair sd)))), (4, .int (nI i_15)), (3, .int sd), (0, .ref (q 2)), (1, .int a1), (2, .int a2)]) hx hb dX2_standing_31 hl (by decide) rfl (fun ls hl => ?_)
      refine lv_iload hx hb dX2_standing_33 (lv_at hl 0 rfl) ?_
      refine lv_iload_n hx hb dX2_standing_35 rfl (lv_at hl 2 rfl) ?_
      refine lv_icmp_ne (tgt := 41) hx hb dX2_standing_36 (by decide) (fun c_36 => ?_) (fun c_36 => ?_)
      · rw [if_neg c_36] at hR
        refine lv_iload hx hb dX2_standing_41 (lv_at hl 0 rfl) ?_
        refine lv_istore_n (lv' := [(3, .int (sd ||| (a1 &&& (f_X2_carriedBy plain key stair sd)))), (5, .int (sd ||| (a1 &&& (f_X2_carriedBy plain key stair sd)))), (4, .int (nI i_15)), (0, .ref (q 2)), (1, .int a1), (2, .int a2)]) hx hb dX2_standing_43 rfl hl (by decide) rfl (fun ls hl => ?_)
        refine lv_iinc (v := (nI (i_15 + 1))) (lv' := [(4, .int (nI (i_15 + 1))), (3, .int (sd ||| (a1 &&& (f_X2_carriedBy plain key stair sd)))), (5, .int (sd ||| (a1 &&& (f_X2_carriedBy plain key stair sd)))), (0, .ref (q 2)), (1, .int a1), (2, .int a2)]) hx hb dX2_standing_44 hl (k := 2) rfl (nI_up i_15) (by decide) rfl (fun ls hl => ?_)
        refine lv_goto (tgt := 15) hx hb dX2_standing_47 (by decide) ?_
        exact ih_15 (i_15 + 1) (sd ||| (a1 &&& (f_X2_carriedBy plain key stair sd))) ls (by omega) hR (lv_sub hl [0, 1, 3, 4, 5] rfl)
      · rw [if_pos c_36] at hR
        refine lv_iload_n hx hb dX2_standing_39 rfl (lv_at hl 2 rfl) ?_
        subst hR
        exact fin _ _ dX2_standing_40 (nar_i _)
  exact key_15 7 0 (a1 &&& ((a2 ||| (15 : Int32)) ||| air)) ls (by omega) hR (lv_sub hl [0, 1, 2, 3, 4] rfl)
def f_X2_withStruck (plain : Int32) (key : Int32) (stair : Int32) (air : Int32) (a1 : Int32) (a2 : Int32) : Int32 := (f_X1_of ((f_X1_poles a1) &&& ((f_X1_cellBit a2 ((f_X1_height a1 a2) - (1 : Int32))) ^^^ (-1 : Int32))) (f_X2_standing plain key stair air (f_X1_had a1) ((f_X1_poles a1) &&& ((f_X1_cellBit a2 ((f_X1_height a1 a2) - (1 : Int32))) ^^^ (-1 : Int32)))))
set_option maxHeartbeats 4000000 in
set_option maxRecDepth 100000 in
theorem c_X2_withStruck (l : Launch) (D : va_G) (cI cZ : ClassId) (q : Nat → Nat) (poles parts plain key stair air : Int32) (cells kinds : Nat → Int32) (a1 : Int32) (a2 : Int32) : RdI l yX2_withStruck cX2_withStruck 5 .int 2 49 D (tyL cI cZ) (PW cI cZ q poles parts plain key stair air cells kinds) [.ref (q 2), .int a1, .int a2] (f_X2_withStruck plain key stair air a1 a2) := by
  refine RdI.of (by decide) (Nat.le_of_ble_eq_true rfl) ?_
  intro p e s m args below meth c Q hx hb hml hown hts hP hK fin ls hl
  have hown : s.vm.findClass RX2 = some m.cls := hown
  have hF : CallFix p m c cX2_withStruck 5 s args tb RX2 := ⟨hx, hb, hml, hown, hts⟩
  have hl : lv_has ls 5 [(0, .ref (q 2)), (1, .int a1), (2, .int a2)] := hl
  generalize hR : (f_X2_withStruck plain key stair air a1 a2) = R at fin
  unfold f_X2_withStruck at hR
  refine lv_iload_n hx hb dX2_withStruck_0 rfl (lv_at hl 2 rfl) ?_
  refine lv_iload_n hx hb dX2_withStruck_1 rfl (lv_at hl 1 rfl) ?_
  refine lv_iload_n hx hb dX2_withStruck_2 rfl (lv_at hl 2 rfl) ?_
  refine sRdI (As := [.int a1, .int a2]) (rest := [.int a2]) hF (c_X1_height l D cI cZ q a1 a2) (gdS tm_2_40 tm_2_12 tm_1_8 tm_2_13) de_X1_height ⟨Nat.le_of_ble_eq_true rfl, Nat.le_of_ble_eq_true rfl⟩ va_P_nil hK hl.1 rfl (Nat.le_of_ble_eq_true rfl) dX2_withStruck_3 ⟨Nat.zero_le _, Nat.zero_le _⟩ ?_
  refine lv_iconst (v := (1 : Int32)) hx hb dX2_withStruck_6 (by decide) ?_
  refine lv_isub hx hb dX2_withStruck_7 ?_
  refine sRdI (As := [.int a2, .int ((f_X1_height a1 a2) - (1 : Int32))]) (rest := []) hF (c_X1_cellBit l D cI cZ q a2 ((f_X1_height a1 a2) - (1 : Int32))) (gdS tm_2_41 tm_2_42 tm_1_8 tm_2_43) de_X1_cellBit ⟨Nat.le_of_ble_eq_true rfl, Nat.le_of_ble_eq_true rfl⟩ va_P_nil hK hl.1 rfl (Nat.le_of_ble_eq_true rfl) dX2_withStruck_8 ⟨Nat.zero_le _, Nat.zero_le _⟩ ?_
  refine lv_istore_n (lv' := [(3, .int (f_X1_cellBit a2 ((f_X1_height a1 a2) - (1 : Int32)))), (0, .ref (q 2)), (1, .int a1), (2, .int a2)]) hx hb dX2_withStruck_11 rfl hl (by decide) rfl (fun ls hl => ?_)
  refine lv_iload_n hx hb dX2_withStruck_12 rfl (lv_at hl 2 rfl) ?_
  refine sRdI (As := [.int a1]) (rest := []) hF (c_X1_poles l D cI cZ q a1) (gdS tm_1_195 tm_1_196 tm_1_8 tm_1_197) de_X1_poles ⟨Nat.le_of_ble_eq_true rfl, Nat.le_of_ble_eq_true rfl⟩ va_P_nil hK hl.1 rfl (Nat.le_of_ble_eq_true rfl) dX2_withStruck_13 ⟨Nat.zero_le _, Nat.zero_le _⟩ ?_
  refine lv_iload_n hx hb dX2_withStruck_16 rfl (lv_at hl 0 rfl) ?_
  refine lv_iconst (v := (-1 : Int32)) hx hb dX2_withStruck_17 (by decide) ?_
  refine lv_ixor hx hb dX2_withStruck_18 ?_
  refine lv_iand hx hb dX2_withStruck_19 ?_
  refine lv_istore (lv' := [(4, .int ((f_X1_poles a1) &&& ((f_X1_cellBit a2 ((f_X1_height a1 a2) - (1 : Int32))) ^^^ (-1 : Int32)))), (3, .int (f_X1_cellBit a2 ((f_X1_height a1 a2) - (1 : Int32)))), (0, .ref (q 2)), (1, .int a1), (2, .int a2)]) hx hb dX2_withStruck_20 hl (by decide) rfl (fun ls hl => ?_)
  refine lv_iload hx hb dX2_withStruck_22 (lv_at hl 0 rfl) ?_
  refine lv_aload_n hx hb dX2_withStruck_24 rfl (lv_at hl 2 rfl) ?_
  refine lv_iload_n hx hb dX2_withStruck_25 rfl (lv_at hl 3 rfl) ?_
  refine sRdI (As := [.int a1]) (rest := [.ref (q 2), .int ((f_X1_poles a1) &&& ((f_X1_cellBit a2 ((f_X1_height a1 a2) - (1 : Int32))) ^^^ (-1 : Int32)))]) hF (c_X1_had l D cI cZ q a1) (gdS tm_2_44 tm_1_212 tm_1_8 tm_1_213) de_X1_had ⟨Nat.le_of_ble_eq_true rfl, Nat.le_of_ble_eq_true rfl⟩ va_P_nil hK hl.1 rfl (Nat.le_of_ble_eq_true rfl) dX2_withStruck_26 ⟨Nat.zero_le _, Nat.zero_le _⟩ ?_
  refine lv_iload hx hb dX2_withStruck_29 (lv_at hl 0 rfl) ?_
  refine vRdI (b := (q 2)) (As := [.int (f_X1_had a1), .int ((f_X1_poles a1) &&& ((f_X1_cellBit a2 ((f_X1_height a1 a2) - (1 : Int32))) ^^^ (-1 : Int32)))]) (rest := [.int ((f_X1_poles a1) &&& ((f_X1_cellBit a2 ((f_X1_height a1 a2) - (1 : Int32))) ^^^ (-1 : Int32)))]) hF (c_X2_standing l D cI cZ q poles parts plain key stair air cells kinds (f_X1_had a1) ((f_X1_poles a1) &&& ((f_X1_cellBit a2 ((f_X1_height a1 a2) - (1 : Int32))) ^^^ (-1 : Int32)))) (gdV tm_2_64 tm_1_219 tm_1_220 tm_1_3 tm_1_221) de_X2_standing ⟨Nat.le_of_ble_eq_true rfl, Nat.le_of_ble_eq_true rfl⟩ hP hK (va_recv hK hP (ci := 1) (q0 := 0) rfl PW_0) hl.1 rfl (Nat.le_of_ble_eq_true rfl) dX2_withStruck_31 ⟨Nat.zero_le _, Nat.zero_le _⟩ ?_
  refine sRdI (As := [.int ((f_X1_poles a1) &&& ((f_X1_cellBit a2 ((f_X1_height a1 a2) - (1 : Int32))) ^^^ (-1 : Int32))), .int (f_X2_standing plain key stair air (f_X1_had a1) ((f_X1_poles a1) &&& ((f_X1_cellBit a2 ((f_X1_height a1 a2) - (1 : Int32))) ^^^ (-1 : Int32))))]) (rest := []) hF (c_X1_of l D cI cZ q ((f_X1_poles a1) &&& ((f_X1_cellBit a2 ((f_X1_height a1 a2) - (1 : Int32))) ^^^ (-1 : Int32))) (f_X2_standing plain key stair air (f_X1_had a1) ((f_X1_poles a1) &&& ((f_X1_cellBit a2 ((f_X1_height a1 a2) - (1 : Int32))) ^^^ (-1 : Int32))))) (gdS tm_2_45 tm_2_46 tm_1_8 tm_2_47) de_X1_of ⟨Nat.le_of_ble_eq_true rfl, Nat.le_of_ble_eq_true rfl⟩ va_P_nil hK hl.1 rfl (Nat.le_of_ble_eq_true rfl) dX2_withStruck_34 ⟨Nat.zero_le _, Nat.zero_le _⟩ ?_
  subst hR
  exact fin _ _ dX2_withStruck_37 (nar_i _)
def f_X2_withRain (plain : Int32) (key : Int32) (stair : Int32) (air : Int32) (a1 : Int32) : Int32 := (f_X1_of (f_X1_poles a1) (f_X2_standing plain key stair air ((f_X1_had a1) &&& ((air &&& ((f_X1_poles a1) ^^^ (-1 : Int32))) ^^^ (-1 : Int32))) (f_X1_poles a1)))
set_option maxHeartbeats 4000000 in
set_option maxRecDepth 100000 in
theorem c_X2_withRain (l : Launch) (D : va_G) (cI cZ : ClassId) (q : Nat → Nat) (poles parts plain key stair air : Int32) (cells kinds : Nat → Int32) (a1 : Int32) : RdI l yX2_withRain cX2_withRain 4 .int 2 49 D (tyL cI cZ) (PW cI cZ q poles parts plain key stair air cells kinds) [.ref (q 2), .int a1] (f_X2_withRain plain key stair air a1) := by
  refine RdI.of (by decide) (Nat.le_of_ble_eq_true rfl) ?_
  intro p e s m args below meth c Q hx hb hml hown hts hP hK fin ls hl
  have hown : s.vm.findClass RX2 = some m.cls := hown
  have hF : CallFix p m c cX2_withRain 4 s args tb RX2 := ⟨hx, hb, hml, hown, hts⟩
  have hl : lv_has ls 4 [(0, .ref (q 2)), (1, .int a1)] := hl
  generalize hR : (f_X2_withRain plain key stair air a1) = R at fin
  unfold f_X2_withRain at hR
  refine lv_iload_n hx hb dX2_withRain_0 rfl (lv_at hl 1 rfl) ?_
  refine sRdI (As := [.int a1]) (rest := []) hF (c_X1_poles l D cI cZ q a1) (gdS tm_1_195 tm_1_196 tm_1_8 tm_1_197) de_X1_poles ⟨Nat.le_of_ble_eq_true rfl, Nat.le_of_ble_eq_true rfl⟩ va_P_nil hK hl.1 rfl (Nat.le_of_ble_eq_true rfl) dX2_withRain_1 ⟨Nat.zero_le _, Nat.zero_le _⟩ ?_
  refine lv_istore_n (lv' := [(2, .int (f_X1_poles a1)), (0, .ref (q 2)), (1, .int a1)]) hx hb dX2_withRain_4 rfl hl (by decide) rfl (fun ls hl => ?_)
  refine lv_iload_n hx hb dX2_withRain_5 rfl (lv_at hl 2 rfl) ?_
  refine sRdI (As := [.int a1]) (rest := []) hF (c_X1_had l D cI cZ q a1) (gdS tm_2_44 tm_1_212 tm_1_8 tm_1_213) de_X1_had ⟨Nat.le_of_ble_eq_true rfl, Nat.le_of_ble_eq_true rfl⟩ va_P_nil hK hl.1 rfl (Nat.le_of_ble_eq_true rfl) dX2_withRain_6 ⟨Nat.zero_le _, Nat.zero_le _⟩ ?_
  refine lv_aload_n hx hb dX2_withRain_9 rfl (lv_at hl 1 rfl) ?_
  refine va_get (D := D) (ci := 1) (v := .int air) (C := RX2) (T := TX2) (N := 8) hx hb hts tbX2 hown hK hP 0 PW_0 rfl 7 (by decide) (hts _ tm_1_48) (fun _ h9 => h9) rfl dX2_withRain_10 ?_
  refine lv_iload_n hx hb dX2_withRain_13 rfl (lv_at hl 0 rfl) ?_
  refine lv_iconst (v := (-1 : Int32)) hx hb dX2_withRain_14 (by decide) ?_
  refine lv_ixor hx hb dX2_withRain_15 ?_
  refine lv_iand hx hb dX2_withRain_16 ?_
  refine lv_iconst (v := (-1 : Int32)) hx hb dX2_withRain_17 (by decide) ?_
  refine lv_ixor hx hb dX2_withRain_18 ?_
  refine lv_iand hx hb dX2_withRain_19 ?_
  refine lv_istore_n (lv' := [(3, .int ((f_X1_had a1) &&& ((air &&& ((f_X1_poles a1) ^^^ (-1 : Int32))) ^^^ (-1 : Int32)))), (2, .int (f_X1_poles a1)), (0, .ref (q 2)), (1, .int a1)]) hx hb dX2_withRain_20 rfl hl (by decide) rfl (fun ls hl => ?_)
  refine lv_iload_n hx hb dX2_withRain_21 rfl (lv_at hl 1 rfl) ?_
  refine lv_aload_n hx hb dX2_withRain_22 rfl (lv_at hl 2 rfl) ?_
  refine lv_iload_n hx hb dX2_withRain_23 rfl (lv_at hl 0 rfl) ?_
  refine lv_iload_n hx hb dX2_withRain_24 rfl (lv_at hl 1 rfl) ?_
  refine vRdI (b := (q 2)) (As := [.int ((f_X1_had a1) &&& ((air &&& ((f_X1_poles a1) ^^^ (-1 : Int32))) ^^^ (-1 : Int32))), .int (f_X1_poles a1)]) (rest := [.int (f_X1_poles a1)]) hF (c_X2_standing l D cI cZ q poles parts plain key stair air cells kinds ((f_X1_had a1) &&& ((air &&& ((f_X1_poles a1) ^^^ (-1 : Int32))) ^^^ (-1 : Int32))) (f_X1_poles a1)) (gdV tm_2_64 tm_1_219 tm_1_220 tm_1_3 tm_1_221) de_X2_standing ⟨Nat.le_of_ble_eq_true rfl, Nat.le_of_ble_eq_true rfl⟩ hP hK (va_recv hK hP (ci := 1) (q0 := 0) rfl PW_0) hl.1 rfl (Nat.le_of_ble_eq_true rfl) dX2_withRain_25 ⟨Nat.zero_le _, Nat.zero_le _⟩ ?_
  refine sRdI (As := [.int (f_X1_poles a1), .int (f_X2_standing plain key stair air ((f_X1_had a1) &&& ((air &&& ((f_X1_poles a1) ^^^ (-1 : Int32))) ^^^ (-1 : Int32))) (f_X1_poles a1))]) (rest := []) hF (c_X1_of l D cI cZ q (f_X1_poles a1) (f_X2_standing plain key stair air ((f_X1_had a1) &&& ((air &&& ((f_X1_poles a1) ^^^ (-1 : Int32))) ^^^ (-1 : Int32))) (f_X1_poles a1))) (gdS tm_2_45 tm_2_46 tm_1_8 tm_2_47) de_X1_of ⟨Nat.le_of_ble_eq_true rfl, Nat.le_of_ble_eq_true rfl⟩ va_P_nil hK hl.1 rfl (Nat.le_of_ble_eq_true rfl) dX2_withRain_28 ⟨Nat.zero_le _, Nat.zero_le _⟩ ?_
  subst hR
  exact fin _ _ dX2_withRain_31 (nar_i _)
def f_X2_countStanding (plain : Int32) (key : Int32) (stair : Int32) (air : Int32) (cells : Nat → Int32) (a1 : Int32) : Int32 := (f_J6_bitCount (f_X2_standing plain key stair air (f_X2_cellsOf cells a1) (0 : Int32)))
set_option maxHeartbeats 4000000 in
set_option maxRecDepth 100000 in
theorem c_X2_countStanding (l : Launch) (D : va_G) (cI cZ : ClassId) (q : Nat → Nat) (poles parts plain key stair air : Int32) (cells kinds : Nat → Int32) (a1 : Int32) : RdI l yX2_countStanding cX2_countStanding 2 .int 2 49 D (tyL cI cZ) (PW cI cZ q poles parts plain key stair air cells kinds) [.ref (q 2), .int a1] (f_X2_countStanding plain key stair air cells a1) := by
  refine RdI.of (by decide) (Nat.le_of_ble_eq_true rfl) ?_
  intro p e s m args below meth c Q hx hb hml hown hts hP hK fin ls hl
  have hown : s.vm.findClass RX2 = some m.cls := hown
  have hF : CallFix p m c cX2_countStanding 2 s args tb RX2 := ⟨hx, hb, hml, hown, hts⟩
  have hl : lv_has ls 2 [(0, .ref (q 2)), (1, .int a1)] := hl
  generalize hR : (f_X2_countStanding plain key stair air cells a1) = R at fin
  unfold f_X2_countStanding at hR
  refine lv_aload_n hx hb dX2_countStanding_0 rfl (lv_at hl 0 rfl) ?_
  refine lv_aload_n hx hb dX2_countStanding_1 rfl (lv_at hl 0 rfl) ?_
  refine lv_iload_n hx hb dX2_countStanding_2 rfl (lv_at hl 1 rfl) ?_
  refine vRdI (b := (q 2)) (As := [.int a1]) (rest := [.ref (q 2)]) hF (c_X2_cellsOf l D cI cZ q poles parts plain key stair air cells kinds a1) (gdV tm_2_143 tm_2_101 tm_2_102 tm_1_3 tm_2_103) de_X2_cellsOf ⟨Nat.le_of_ble_eq_true rfl, Nat.le_of_ble_eq_true rfl⟩ hP hK (va_recv hK hP (ci := 1) (q0 := 0) rfl PW_0) hl.1 rfl (Nat.le_of_ble_eq_true rfl) dX2_countStanding_3 ⟨Nat.zero_le _, Nat.zero_le _⟩ ?_
  refine lv_iconst (v := (0 : Int32)) hx hb dX2_countStanding_6 (by decide) ?_
  refine vRdI (b := (q 2)) (As := [.int (f_X2_cellsOf cells a1), .int (0 : Int32)]) (rest := []) hF (c_X2_standing l D cI cZ q poles parts plain key stair air cells kinds (f_X2_cellsOf cells a1) (0 : Int32)) (gdV tm_2_64 tm_1_219 tm_1_220 tm_1_3 tm_1_221) de_X2_standing ⟨Nat.le_of_ble_eq_true rfl, Nat.le_of_ble_eq_true rfl⟩ hP hK (va_recv hK hP (ci := 1) (q0 := 0) rfl PW_0) hl.1 rfl (Nat.le_of_ble_eq_true rfl) dX2_countStanding_7 ⟨Nat.zero_le _, Nat.zero_le _⟩ ?_
  refine sRdI (As := [.int (f_X2_standing plain key stair air (f_X2_cellsOf cells a1) (0 : Int32))]) (rest := []) hF (c_J6_bitCount l D cI cZ q (f_X2_standing plain key stair air (f_X2_cellsOf cells a1) (0 : Int32))) (gdS tm_1_199 tm_1_200 tm_1_9 tm_1_201) de_J6_bitCount_0f7a4 ⟨Nat.le_of_ble_eq_true rfl, Nat.le_of_ble_eq_true rfl⟩ va_P_nil hK hl.1 rfl (Nat.le_of_ble_eq_true rfl) dX2_countStanding_10 ⟨Nat.zero_le _, Nat.zero_le _⟩ ?_
  subst hR
  exact fin _ _ dX2_countStanding_13 (nar_i _)
