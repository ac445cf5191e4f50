theorem de_X5_write : deOK yX5_write 1 := by decide +kernel
theorem de_X5_wipe : deOK yX5_wipe 0 := by decide +kernel
theorem de_X5_fault : deOK yX5_fault 0 := by decide +kernel
theorem de_X5_idea : deOK yX5_idea 0 := by decide +kernel
theorem de_X5_about : deOK yX5_about 1 := by decide +kernel
theorem de_X5_part : deOK yX5_part 2 := by decide +kernel
theorem de_X5_column : deOK yX5_column 1 := by decide +kernel
theorem de_X5_at : deOK yX5_at 1 := by decide +kernel
theorem de_X5_put : deOK yX5_put 1 := by decide +kernel
theorem de_X5_strike : deOK yX5_strike 1 := by decide +kernel
theorem de_X5_rain : deOK yX5_rain 0 := by decide +kernel
theorem de_X5_undo : deOK yX5_undo 0 := by decide +kernel
theorem de_X5_loses : deOK yX5_loses 1 := by decide +kernel
theorem de_X5_down : deOK yX5_down 1 := by decide +kernel
def f_X5_write (length : Int32) (letters : Nat → Int32) (a1 : Int32) : (Int32) × (Int32) × (Nat → Int32) := (if a1 < (0 : Int32) then ((-2 : Int32), length, letters) else (if a1 ≤ (255 : Int32) then (if (f_X3_append length letters a1).1 = (0 : Int32) then ((-4 : Int32), (f_X3_append length letters a1).2.1, (f_X3_append length letters a1).2.2) else ((f_X3_append length letters a1).2.1, (f_X3_append length letters a1).2.1, (f_X3_append length letters a1).2.2)) else ((-2 : Int32), length, letters)))
set_option maxHeartbeats 4000000 in
set_option maxRecDepth 100000 in
theorem c_X5_write (l : Launch) (D : va_G) (cI cZ : ClassId) (q : Nat → Nat) (now rains length poles parts plain key stair air acnt tcnt : Int32) (letters cells kinds frames rainsB abouts stoods kept keptF keptR : Nat → Int32) (seed : Int64) (a1 : Int32) : WrI l yX5_write cX5_write 2 .int 1 21 D (tyL cI cZ) (XW cI cZ q now rains length poles parts plain key stair air acnt tcnt letters cells kinds frames rainsB abouts stoods kept keptF keptR seed) [.ref (q 0), .int a1] (f_X5_write length letters a1).1 (XW cI cZ q now rains (f_X5_write length letters a1).2.1 poles parts plain key stair air acnt tcnt (f_X5_write length letters a1).2.2 cells kinds frames rainsB abouts stoods kept keptF keptR seed) := by
  refine WrI.of (by decide) (Nat.le_of_ble_eq_true rfl) ?_
  intro p e s m args below meth c Q A hx hb hml hown hts hP hK hD hS fin ls hl
  have hown : s.vm.findClass RX5 = some m.cls := hown
  have hF : CallFix p m c cX5_write 2 s args tb RX5 := ⟨hx, hb, hml, hown, hts⟩
  have hl : lv_has ls 2 [(0, .ref (q 0)), (1, .int a1)] := hl
  generalize hR : (f_X5_write length letters a1) = R at fin
  unfold f_X5_write at hR
  refine lv_iload_n hx hb dX5_write_0 rfl (lv_at hl 1 rfl) ?_
  refine lv_if_lt (tgt := 11) hx hb dX5_write_1 (by decide) (fun c_1 => ?_) (fun c_1 => ?_)
  · rw [if_pos c_1] at hR
    refine lv_bipush (v := (-2 : Int32)) hx hb dX5_write_11 (by decide) ?_
    subst hR
    exact fin _ _ _ _ dX5_write_13 (nar_i _) hP hS
  · rw [if_neg c_1] at hR
    refine lv_iload_n hx hb dX5_write_4 rfl (lv_at hl 1 rfl) ?_
    refine lv_sipush (v := (255 : Int32)) hx hb dX5_write_5 (by decide) ?_
    refine lv_icmp_le (tgt := 14) hx hb dX5_write_8 (by decide) (fun c_8 => ?_) (fun c_8 => ?_)
    · rw [if_pos c_8] at hR
      refine lv_aload_n hx hb dX5_write_14 rfl (lv_at hl 0 rfl) ?_
      refine va_get (D := D) (ci := 4) (v := .ref (q 1)) (C := RX5) (T := TX5) (N := 10) hx hb hts tbX5 hown hK hP 0 XW_0 rfl 0 (by decide) (hts _ tm_1_101) (fun _ h9 => h9) rfl dX5_write_15 ?_
      refine lv_iload_n hx hb dX5_write_18 rfl (lv_at hl 1 rfl) ?_
      refine vWrI (b := (q 1)) (As := [.int a1]) (rest := []) hF (c_X3_append l D cI cZ q now rains length poles parts plain key stair air acnt tcnt letters cells kinds frames rainsB abouts stoods kept keptF keptR seed a1) (gdV tm_1_136 tm_1_137 tm_1_138 tm_1_2 tm_1_139) de_X3_append ⟨Nat.le_of_ble_eq_true rfl, Nat.le_of_ble_eq_true rfl⟩ hP hK (va_recv hK hP (ci := 2) (q0 := 1) rfl XW_1) hl.1 rfl (Nat.le_of_ble_eq_true rfl) dX5_write_19 ⟨Nat.zero_le _, Nat.zero_le _⟩ hD hS (fun H locs hP hS => ?_)
      have hP : va_P D vwCl (XW cI cZ q now rains (f_X3_append length letters a1).2.1 poles parts plain key stair air acnt tcnt (f_X3_append length letters a1).2.2 cells kinds frames rainsB abouts stoods kept keptF keptR seed) H := hP
      have hD : va_D A (XW cI cZ q now rains (f_X3_append length letters a1).2.1 poles parts plain key stair air acnt tcnt (f_X3_append length letters a1).2.2 cells kinds frames rainsB abouts stoods kept keptF keptR seed) := hD.same rfl
      refine lv_if_eq (tgt := 35) hx hb dX5_write_22 (by decide) (fun c_22 => ?_) (fun c_22 => ?_)
      · rw [if_pos c_22] at hR
        refine lv_bipush (v := (-4 : Int32)) hx hb dX5_write_35 (by decide) ?_
        subst hR
        exact fin _ _ _ _ dX5_write_37 (nar_i _) hP hS
      · rw [if_neg c_22] at hR
        refine lv_aload_n hx hb dX5_write_25 rfl (lv_at hl 0 rfl) ?_
        refine va_get (D := D) (ci := 4) (v := .ref (q 1)) (C := RX5) (T := TX5) (N := 10) hx hb hts tbX5 hown hK hP 0 XW_0 rfl 0 (by decide) (hts _ tm_1_101) (fun _ h9 => h9) rfl dX5_write_26 ?_
        refine va_get (D := D) (ci := 2) (v := .int (f_X3_append length letters a1).2.1) (C := RX3) (T := TX3) (N := 2) hx hb hts tbX3 hown hK hP 1 XW_1 rfl 1 (by decide) (hts _ tm_1_26) (fun _ h9 => h9) rfl dX5_write_29 ?_
        refine lv_goto (tgt := 37) hx hb dX5_write_32 (by decide) ?_
        subst hR
        exact fin _ _ _ _ dX5_write_37 (nar_i _) hP hS
    · rw [if_neg c_8] at hR
      refine lv_bipush (v := (-2 : Int32)) hx hb dX5_write_11 (by decide) ?_
      subst hR
      exact fin _ _ _ _ dX5_write_13 (nar_i _) hP hS
def f_X5_wipe (length : Int32) : (Int32) × (Int32) := (length, (0 : Int32))
set_option maxHeartbeats 4000000 in
set_option maxRecDepth 100000 in
theorem c_X5_wipe (l : Launch) (D : va_G) (cI cZ : ClassId) (q : Nat → Nat) (now rains length poles parts plain key stair air acnt tcnt : Int32) (letters cells kinds frames rainsB abouts stoods kept keptF keptR : Nat → Int32) (seed : Int64) : WrI l yX5_wipe cX5_wipe 2 .int 0 0 D (tyL cI cZ) (XW cI cZ q now rains length poles parts plain key stair air acnt tcnt letters cells kinds frames rainsB abouts stoods kept keptF keptR seed) [.ref (q 0)] (f_X5_wipe length).1 (XW cI cZ q now rains (f_X5_wipe length).2 poles parts plain key stair air acnt tcnt letters cells kinds frames rainsB abouts stoods kept keptF keptR seed) := by
  refine WrI.of (by decide) (Nat.le_of_ble_eq_true rfl) ?_
  intro p e s m args below meth c Q A hx hb hml hown hts hP hK hD hS fin ls hl
  have hown : s.vm.findClass RX5 = some m.cls := hown
  have hF : CallFix p m c cX5_wipe 2 s args tb RX5 := ⟨hx, hb, hml, hown, hts⟩
  have hl : lv_has ls 2 [(0, .ref (q 0))] := hl
  generalize hR : (f_X5_wipe length) = R at fin
  unfold f_X5_wipe at hR
  refine lv_aload_n hx hb dX5_wipe_0 rfl (lv_at hl 0 rfl) ?_
  refine va_get (D := D) (ci := 4) (v := .ref (q 1)) (C := RX5) (T := TX5) (N := 10) hx hb hts tbX5 hown hK hP 0 XW_0 rfl 0 (by decide) (hts _ tm_1_101) (fun _ h9 => h9) rfl dX5_wipe_1 ?_
  refine va_get (D := D) (ci := 2) (v := .int length) (C := RX3) (T := TX3) (N := 2) hx hb hts tbX3 hown hK hP 1 XW_1 rfl 1 (by decide) (hts _ tm_1_26) (fun _ h9 => h9) rfl dX5_wipe_4 ?_
  refine lv_istore_n (lv' := [(1, .int length), (0, .ref (q 0))]) hx hb dX5_wipe_7 rfl hl (by decide) rfl (fun ls hl => ?_)
  refine lv_aload_n hx hb dX5_wipe_8 rfl (lv_at hl 1 rfl) ?_
  refine va_get (D := D) (ci := 4) (v := .ref (q 1)) (C := RX5) (T := TX5) (N := 10) hx hb hts tbX5 hown hK hP 0 XW_0 rfl 0 (by decide) (hts _ tm_1_101) (fun _ h9 => h9) rfl dX5_wipe_9 ?_
  refine lv_iconst (v := (0 : Int32)) hx hb dX5_wipe_12 (by decide) ?_
  refine va_put (D := D) (ci := 2) (v := .int (0 : Int32)) (ty := .int) (C := RX3) (T := TX3) (N := 2) hx hb hts tbX3 tyX3 tyX3_ok nmX3 hown hK hP hD hS 1 XW_1 rfl 1 (by decide) (hts _ tm_1_26) (fun _ h9 => h9) rfl (by decide +kernel) rfl rfl (Nat.le_of_ble_eq_true rfl) dX5_wipe_13 (fun H locs hP hD hS => ?_)
  have hP : va_P D vwCl (XW cI cZ q now rains (0 : Int32) poles parts plain key stair air acnt tcnt letters cells kinds frames rainsB abouts stoods kept keptF keptR seed) H := hP
  have hD : va_D A (XW cI cZ q now rains (0 : Int32) poles parts plain key stair air acnt tcnt letters cells kinds frames rainsB abouts stoods kept keptF keptR seed) := hD.same rfl
  refine lv_iload_n hx hb dX5_wipe_16 rfl (lv_at hl 0 rfl) ?_
  subst hR
  exact fin _ _ _ _ dX5_wipe_17 (nar_i _) hP hS
def f_X5_fault (L : Nat) (length : Int32) (letters : Nat → Int32) : Int32 := (f_X3_firstFault L length letters)
set_option maxHeartbeats 4000000 in
set_option maxRecDepth 100000 in
theorem c_X5_fault (l : Launch) (D : va_G) (cI cZ : ClassId) (q : Nat → Nat) (now rains length poles parts plain key stair air acnt tcnt : Int32) (letters cells kinds frames rainsB abouts stoods kept keptF keptR : Nat → Int32) (seed : Int64) (L : Nat) (hL : length = nI L) (hL32 : L ≤ 32) : RdI l yX5_fault cX5_fault 1 .int 2 45 D (tyL cI cZ) (XW cI cZ q now rains length poles parts plain key stair air acnt tcnt letters cells kinds frames rainsB abouts stoods kept keptF keptR seed) [.ref (q 0)] (f_X5_fault L length letters) := by
  refine RdI.of (by decide) (Nat.le_of_ble_eq_true rfl) ?_
  intro p e s m args below meth c Q hx hb hml hown hts hP hK fin ls hl
  have hown : s.vm.findClass RX5 = some m.cls := hown
  have hF : CallFix p m c cX5_fault 1 s args tb RX5 := ⟨hx, hb, hml, hown, hts⟩
  have hl : lv_has ls 1 [(0, .ref (q 0))] := hl
  generalize hR : (f_X5_fault L length letters) = R at fin
  unfold f_X5_fault at hR
  refine lv_aload_n hx hb dX5_fault_0 rfl (lv_at hl 0 rfl) ?_
  refine va_get (D := D) (ci := 4) (v := .ref (q 1)) (C := RX5) (T := TX5) (N := 10) hx hb hts tbX5 hown hK hP 0 XW_0 rfl 0 (by decide) (hts _ tm_1_101) (fun _ h9 => h9) rfl dX5_fault_1 ?_
  refine vRdI (b := (q 1)) (As := []) (rest := []) hF (c_X3_firstFault l D cI cZ q length letters L hL hL32) (gdV tm_1_148 tm_1_149 tm_1_150 tm_1_2 tm_1_151) de_X3_firstFault ⟨Nat.le_of_ble_eq_true rfl, Nat.le_of_ble_eq_true rfl⟩ (XW_T hP) hK (va_recv hK hP (ci := 2) (q0 := 1) rfl XW_1) hl.1 rfl (Nat.le_of_ble_eq_true rfl) dX5_fault_4 ⟨Nat.zero_le _, Nat.zero_le _⟩ ?_
  subst hR
  exact fin _ _ dX5_fault_7 (nar_i _)
def f_X5_idea_l46  : Nat → Nat → (Nat → Int32) → Nat → Int32
  | 0, i_46, kp46 => kp46
  | d_46 + 1, i_46, kp46 => (f_X5_idea_l46  d_46 (i_46 + 1) (upd kp46 i_46 (0 : Int32)))
theorem f_X5_idea_l46_z  {i_46 : Nat} {kp46 : Nat → Int32} : f_X5_idea_l46  0 i_46 kp46 = kp46 := by rw [f_X5_idea_l46]
theorem f_X5_idea_l46_s  {d_46 : Nat} {i_46 : Nat} {kp46 : Nat → Int32} : f_X5_idea_l46  (d_46 + 1) i_46 kp46 = (f_X5_idea_l46  d_46 (i_46 + 1) (upd kp46 i_46 (0 : Int32))) := by rw [f_X5_idea_l46]
def f_X5_idea (L : Nat) (now : Int32) (rains : Int32) (length : Int32) (poles : Int32) (parts : Int32) (plain : Int32) (key : Int32) (stair : Int32) (air : Int32) (acnt : Int32) (letters : Nat → Int32) (cells : Nat → Int32) (kinds : Nat → Int32) (kept : Nat → Int32) : (Int32) × (Int32) × (Int32) × (Int32) × (Int32) × (Int32) × (Int32) × (Int32) × (Int32) × (Int32) × (Nat → Int32) × (Nat → Int32) × (Nat → Int32) := (if (f_X3_firstFault L length letters) = (-9 : Int32) then ((((10 : Int32) * (f_X2_learn length letters cells kinds).1) + (f_X2_learn length letters cells kinds).2.1), (0 : Int32), (0 : Int32), (f_X2_learn length letters cells kinds).1, (f_X2_learn length letters cells kinds).2.1, (f_X2_learn length letters cells kinds).2.2.1, (f_X2_learn length letters cells kinds).2.2.2.1, (f_X2_learn length letters cells kinds).2.2.2.2.1, (f_X2_learn length letters cells kinds).2.2.2.2.2.1, (0 : Int32), (f_X2_learn length letters cells kinds).2.2.2.2.2.2.1, (f_X2_learn length letters cells kinds).2.2.2.2.2.2.2, (f_X5_idea_l46  2 0 kept)) else ((-3 : Int32), now, rains, poles, parts, plain, key, stair, air, acnt, cells, kinds, kept))
set_option maxHeartbeats 4000000 in
set_option maxRecDepth 100000 in
theorem c_X5_idea (l : Launch) (D : va_G) (cI cZ : ClassId) (q : Nat → Nat) (now rains length poles parts plain key stair air acnt tcnt : Int32) (letters cells kinds frames rainsB abouts stoods kept keptF keptR : Nat → Int32) (seed : Int64) (L : Nat) (hL : length = nI L) (hL32 : L ≤ 32) : WrI l yX5_idea cX5_idea 2 .int 3 65 D (tyL cI cZ) (XW cI cZ q now rains length poles parts plain key stair air acnt tcnt letters cells kinds frames rainsB abouts stoods kept keptF keptR seed) [.ref (q 0)] (f_X5_idea L now rains length poles parts plain key stair air acnt letters cells kinds kept).1 (XW cI cZ q (f_X5_idea L now rains length poles parts plain key stair air acnt letters cells kinds kept).2.1 (f_X5_idea L now rains length poles parts plain key stair air acnt letters cells kinds kept).2.2.1 length (f_X5_idea L now rains length poles parts plain key stair air acnt letters cells kinds kept).2.2.2.1 (f_X5_idea L now rains length poles parts plain key stair air acnt letters cells kinds kept).2.2.2.2.1 (f_X5_idea L now rains length poles parts plain key stair air acnt letters cells kinds kept).2.2.2.2.2.1 (f_X5_idea L now rains length poles parts plain key stair air acnt letters cells kinds kept).2.2.2.2.2.2.1 (f_X5_idea L now rains length poles parts plain key stair air acnt letters cells kinds kept).2.2.2.2.2.2.2.1 (f_X5_idea L now rains length poles parts plain key stair air acnt letters cells kinds kept).2.2.2.2.2.2.2.2.1 (f_X5_idea L now rains length poles parts plain key stair air acnt letters cells kinds kept).2.2.2.2.2.2.2.2.2.1 tcnt letters (f_X5_idea L now rains length poles parts plain key stair air acnt letters cells kinds kept).2.2.2.2.2.2.2.2.2.2.1 (f_X5_idea L now rains length poles parts plain key stair air acnt letters cells kinds kept).2.2.2.2.2.2.2.2.2.2.2.1 frames rainsB abouts stoods (f_X5_idea L now rains length poles parts plain key stair air acnt letters cells kinds kept).2.2.2.2.2.2.2.2.2.2.2.2 keptF keptR seed) := by
  refine WrI.of (by decide) (Nat.le_of_ble_eq_true rfl) ?_
  intro p e s m args below meth c Q A hx hb hml hown hts hP hK hD hS fin ls hl
  have hown : s.vm.findClass RX5 = some m.cls := hown
  have hF : CallFix p m c cX5_idea 2 s args tb RX5 := ⟨hx, hb, hml, hown, hts⟩
  have hl : lv_has ls 2 [(0, .ref (q 0))] := hl
  generalize hR : (f_X5_idea L now rains length poles parts plain key stair air acnt letters cells kinds kept) = R at fin
  unfold f_X5_idea at hR
  refine lv_aload_n hx hb dX5_idea_0 rfl (lv_at hl 0 rfl) ?_
  refine va_get (D := D) (ci := 4) (v := .ref (q 1)) (C := RX5) (T := TX5) (N := 10) hx hb hts tbX5 hown hK hP 0 XW_0 rfl 0 (by decide) (hts _ tm_1_101) (fun _ h9 => h9) rfl dX5_idea_1 ?_
  refine vRdI (b := (q 1)) (As := []) (rest := []) hF (c_X3_firstFault l D cI cZ q length letters L hL hL32) (gdV tm_1_148 tm_1_149 tm_1_150 tm_1_2 tm_1_151) de_X3_firstFault ⟨Nat.le_of_ble_eq_true rfl, Nat.le_of_ble_eq_true rfl⟩ (XW_T hP) hK (va_recv hK hP (ci := 2) (q0 := 1) rfl XW_1) hl.1 rfl (Nat.le_of_ble_eq_true rfl) dX5_idea_4 ⟨Nat.zero_le _, Nat.zero_le _⟩ ?_
  refine lv_bipush (v := (-9 : Int32)) hx hb dX5_idea_7 (by decide) ?_
  refine lv_icmp_eq (tgt := 15) hx hb dX5_idea_9 (by decide) (fun c_9 => ?_) (fun c_9 => ?_)
  · rw [if_pos c_9] at hR
    refine lv_aload_n hx hb dX5_idea_15 rfl (lv_at hl 0 rfl) ?_
    refine va_get (D := D) (ci := 4) (v := .ref (q 2)) (C := RX5) (T := TX5) (N := 10) hx hb hts tbX5 hown hK hP 0 XW_0 rfl 1 (by decide) (hts _ tm_1_102) (fun _ h9 => h9) rfl dX5_idea_16 ?_
    refine lv_aload_n hx hb dX5_idea_19 rfl (lv_at hl 0 rfl) ?_
    refine va_get (D := D) (ci := 4) (v := .ref (q 1)) (C := RX5) (T := TX5) (N := 10) hx hb hts tbX5 hown hK hP 0 XW_0 rfl 0 (by decide) (hts _ tm_1_101) (fun _ h9 => h9) rfl dX5_idea_20 ?_
    refine vWrV (b := (q 2)) (As := [.ref (q 1)]) (rest := []) hF (c_X2_learn l D cI cZ q now rains length poles parts plain key stair air acnt tcnt letters cells kinds frames rainsB abouts stoods kept keptF keptR seed) (gdV tm_1_163 tm_1_164 tm_1_165 tm_1_3 tm_1_166) de_X2_learn ⟨Nat.le_of_ble_eq_true rfl, Nat.le_of_ble_eq_true rfl⟩ hP hK (va_recv hK hP (ci := 1) (q0 := 2) rfl XW_2) hl.1 rfl (Nat.le_of_ble_eq_true rfl) dX5_idea_23 ⟨Nat.zero_le _, Nat.zero_le _⟩ hD hS (fun H locs hP hS => ?_)
    have hP : va_P D vwCl (XW cI cZ q now rains length (f_X2_learn length letters cells kinds).1 (f_X2_learn length letters cells kinds).2.1 (f_X2_learn length letters cells kinds).2.2.1 (f_X2_learn length letters cells kinds).2.2.2.1 (f_X2_learn length letters cells kinds).2.2.2.2.1 (f_X2_learn length letters cells kinds).2.2.2.2.2.1 acnt tcnt letters (f_X2_learn length letters cells kinds).2.2.2.2.2.2.1 (f_X2_learn length letters cells kinds).2.2.2.2.2.2.2 frames rainsB abouts stoods kept keptF keptR seed) H := hP
    have hD : va_D A (XW cI cZ q now rains length (f_X2_learn length letters cells kinds).1 (f_X2_learn length letters cells kinds).2.1 (f_X2_learn length letters cells kinds).2.2.1 (f_X2_learn length letters cells kinds).2.2.2.1 (f_X2_learn length letters cells kinds).2.2.2.2.1 (f_X2_learn length letters cells kinds).2.2.2.2.2.1 acnt tcnt letters (f_X2_learn length letters cells kinds).2.2.2.2.2.2.1 (f_X2_learn length letters cells kinds).2.2.2.2.2.2.2 frames rainsB abouts stoods kept keptF keptR seed) := hD.same rfl
    refine lv_aload_n hx hb dX5_idea_26 rfl (lv_at hl 0 rfl) ?_
    refine lv_iconst (v := (0 : Int32)) hx hb dX5_idea_27 (by decide) ?_
    refine va_put (D := D) (ci := 4) (v := .int (0 : Int32)) (ty := .int) (C := RX5) (T := TX5) (N := 10) hx hb hts tbX5 tyX5 tyX5_ok nmX5 hown hK hP hD hS 0 XW_0 rfl 7 (by decide) (hts _ tm_1_108) (fun _ h9 => h9) rfl (by decide +kernel) rfl rfl (Nat.le_of_ble_eq_true rfl) dX5_idea_28 (fun H locs hP hD hS => ?_)
    have hP : va_P D vwCl (XW cI cZ q (0 : Int32) rains length (f_X2_learn length letters cells kinds).1 (f_X2_learn length letters cells kinds).2.1 (f_X2_learn length letters cells kinds).2.2.1 (f_X2_learn length letters cells kinds).2.2.2.1 (f_X2_learn length letters cells kinds).2.2.2.2.1 (f_X2_learn length letters cells kinds).2.2.2.2.2.1 acnt tcnt letters (f_X2_learn length letters cells kinds).2.2.2.2.2.2.1 (f_X2_learn length letters cells kinds).2.2.2.2.2.2.2 frames rainsB abouts stoods kept keptF keptR seed) H := hP
    have hD : va_D A (XW cI cZ q (0 : Int32) rains length (f_X2_learn length letters cells kinds).1 (f_X2_learn length letters cells kinds).2.1 (f_X2_learn length letters cells kinds).2.2.1 (f_X2_learn length letters cells kinds).2.2.2.1 (f_X2_learn length letters cells kinds).2.2.2.2.1 (f_X2_learn length letters cells kinds).2.2.2.2.2.1 acnt tcnt letters (f_X2_learn length letters cells kinds).2.2.2.2.2.2.1 (f_X2_learn length letters cells kinds).2.2.2.2.2.2.2 frames rainsB abouts stoods kept keptF keptR seed) := hD.same rfl
    refine lv_aload_n hx hb dX5_idea_31 rfl (lv_at hl 0 rfl) ?_
    refine lv_iconst (v := (0 : Int32)) hx hb dX5_idea_32 (by decide) ?_
    refine va_put (D := D) (ci := 4) (v := .int (0 : Int32)) (ty := .int) (C := RX5) (T := TX5) (N := 10) hx hb hts tbX5 tyX5 tyX5_ok nmX5 hown hK hP hD hS 0 XW_0 rfl 8 (by decide) (hts _ tm_1_109) (fun _ h9 => h9) rfl (by decide +kernel) rfl rfl (Nat.le_of_ble_eq_true rfl) dX5_idea_33 (fun H locs hP hD hS => ?_)
    have hP : va_P D vwCl (XW cI cZ q (0 : Int32) (0 : Int32) length (f_X2_learn length letters cells kinds).1 (f_X2_learn length letters cells kinds).2.1 (f_X2_learn length letters cells kinds).2.2.1 (f_X2_learn length letters cells kinds).2.2.2.1 (f_X2_learn length letters cells kinds).2.2.2.2.1 (f_X2_learn length letters cells kinds).2.2.2.2.2.1 acnt tcnt letters (f_X2_learn length letters cells kinds).2.2.2.2.2.2.1 (f_X2_learn length letters cells kinds).2.2.2.2.2.2.2 frames rainsB abouts stoods kept keptF keptR seed) H := hP
    have hD : va_D A (XW cI cZ q (0 : Int32) (0 : Int32) length (f_X2_learn length letters cells kinds).1 (f_X2_learn length letters cells kinds).2.1 (f_X2_learn length letters cells kinds).2.2.1 (f_X2_learn length letters cells kinds).2.2.2.1 (f_X2_learn length letters cells kinds).2.2.2.2.1 (f_X2_learn length letters cells kinds).2.2.2.2.2.1 acnt tcnt letters (f_X2_learn length letters cells kinds).2.2.2.2.2.2.1 (f_X2_learn length letters cells kinds).2.2.2.2.2.2.2 frames rainsB abouts stoods kept keptF keptR seed) := hD.same rfl
    refine lv_aload_n hx hb dX5_idea_36 rfl (lv_at hl 0 rfl) ?_
    refine va_get (D := D) (ci := 4) (v := .ref (q 3)) (C := RX5) (T := TX5) (N := 10) hx hb hts tbX5 hown hK hP 0 XW_0 rfl 2 (by decide) (hts _ tm_1_103) (fun _ h9 => h9) rfl dX5_idea_37 ?_
    refine lv_iconst (v := (0 : Int32)) hx hb dX5_idea_40 (by decide) ?_
    refine va_put (D := D) (ci := 0) (v := .int (0 : Int32)) (ty := .int) (C := RX0) (T := TX0) (N := 3) hx hb hts tbX0 tyX0 tyX0_ok nmX0 hown hK hP hD hS 3 XW_3 rfl 2 (by decide) (hts _ tm_1_75) (fun _ h9 => h9) rfl (by decide +kernel) rfl rfl (Nat.le_of_ble_eq_true rfl) dX5_idea_41 (fun H locs hP hD hS => ?_)
    have hP : va_P D vwCl (XW cI cZ q (0 : Int32) (0 : Int32) length (f_X2_learn length letters cells kinds).1 (f_X2_learn length letters cells kinds).2.1 (f_X2_learn length letters cells kinds).2.2.1 (f_X2_learn length letters cells kinds).2.2.2.1 (f_X2_learn length letters cells kinds).2.2.2.2.1 (f_X2_learn length letters cells kinds).2.2.2.2.2.1 (0 : Int32) tcnt letters (f_X2_learn length letters cells kinds).2.2.2.2.2.2.1 (f_X2_learn length letters cells kinds).2.2.2.2.2.2.2 frames rainsB abouts stoods kept keptF keptR seed) H := hP
    have hD : va_D A (XW cI cZ q (0 : Int32) (0 : Int32) length (f_X2_learn length letters cells kinds).1 (f_X2_learn length letters cells kinds).2.1 (f_X2_learn length letters cells kinds).2.2.1 (f_X2_learn length letters cells kinds).2.2.2.1 (f_X2_learn length letters cells kinds).2.2.2.2.1 (f_X2_learn length letters cells kinds).2.2.2.2.2.1 (0 : Int32) tcnt letters (f_X2_learn length letters cells kinds).2.2.2.2.2.2.1 (f_X2_learn length letters cells kinds).2.2.2.2.2.2.2 frames rainsB abouts stoods kept keptF keptR seed) := hD.same rfl
    refine lv_iconst (v := (0 : Int32)) hx hb dX5_idea_44 (by decide) ?_
    refine lv_istore_n (lv' := [(1, .int (0 : Int32)), (0, .ref (q 0))]) hx hb dX5_idea_45 rfl hl (by decide) rfl (fun ls hl => ?_)
    obtain ⟨T_46, hT_46⟩ : ∃ z, f_X5_idea_l46  2 0 kept = z := ⟨_, rfl⟩
    rw [hT_46] at hR
    have key_46 : ∀ (d_46 i_46 : Nat) (kp46 : Nat → Int32) (ls : Array Slot) (H : Heap) (locs : List Loc), i_46 + d_46 = 2 → f_X5_idea_l46  d_46 i_46 kp46 = T_46 → lv_has ls 2 [(1, .int (nI i_46)), (0, .ref (q 0))] → va_P D vwCl (XW cI cZ q (0 : Int32) (0 : Int32) length (f_X2_learn length letters cells kinds).1 (f_X2_learn length letters cells kinds).2.1 (f_X2_learn length letters cells kinds).2.2.1 (f_X2_learn length letters cells kinds).2.2.2.1 (f_X2_learn length letters cells kinds).2.2.2.2.1 (f_X2_learn length letters cells kinds).2.2.2.2.2.1 (0 : Int32) tcnt letters (f_X2_learn length letters cells kinds).2.2.2.2.2.2.1 (f_X2_learn length letters cells kinds).2.2.2.2.2.2.2 frames rainsB abouts stoods kp46 keptF keptR seed) H → va_S A s.heap H locs → W p l e (rmO 3 65) s m args below meth c H locs 0 0 Q (F0 m 46 ls []) := by
      intro d_46
      induction d_46 with
      | zero =>
        intro i_46 kp46 ls H locs hi_46 hT_46 hl hP hS
        have hD : va_D A (XW cI cZ q (0 : Int32) (0 : Int32) length (f_X2_learn length letters cells kinds).1 (f_X2_learn length letters cells kinds).2.1 (f_X2_learn length letters cells kinds).2.2.1 (f_X2_learn length letters cells kinds).2.2.2.1 (f_X2_learn length letters cells kinds).2.2.2.2.1 (f_X2_learn length letters cells kinds).2.2.2.2.2.1 (0 : Int32) tcnt letters (f_X2_learn length letters cells kinds).2.2.2.2.2.2.1 (f_X2_learn length letters cells kinds).2.2.2.2.2.2.2 frames rainsB abouts stoods kp46 keptF keptR seed) := hD.same rfl
        rw [f_X5_idea_l46_z] at hT_46
        refine lv_iload_n hx hb dX5_idea_46 rfl (lv_at hl 0 rfl) ?_
        refine lv_aload_n hx hb dX5_idea_47 rfl (lv_at hl 1 rfl) ?_
        refine va_get (D := D) (ci := 4) (v := .ref (q 12)) (C := RX5) (T := TX5) (N := 10) hx hb hts tbX5 hown hK hP 0 XW_0 rfl 4 (by decide) (hts _ tm_1_105) (fun _ h9 => h9) rfl dX5_idea_48 ?_
        refine va_alen (v := (2 : Int32)) hx hb hK hP 12 1 XW_12 rfl rfl dX5_idea_51 ?_
        refine lv_icmp_ge (tgt := 68) hx hb dX5_idea_52 (by decide) (fun c_52 => ?_) (fun c_52 => absurd (nI_le (a := 2) (by omega) (by omega)) c_52)
        subst hT_46
        try dsimp only at hR
        refine lv_bipush (v := (10 : Int32)) hx hb dX5_idea_68 (by decide) ?_
        refine lv_aload_n hx hb dX5_idea_70 rfl (lv_at hl 1 rfl) ?_
        refine va_get (D := D) (ci := 4) (v := .ref (q 2)) (C := RX5) (T := TX5) (N := 10) hx hb hts tbX5 hown hK hP 0 XW_0 rfl 1 (by decide) (hts _ tm_1_102) (fun _ h9 => h9) rfl dX5_idea_71 ?_
        refine va_get (D := D) (ci := 1) (v := .int (f_X2_learn length letters cells kinds).1) (C := RX2) (T := TX2) (N := 8) hx hb hts tbX2 hown hK hP 2 XW_2 rfl 2 (by decide) (hts _ tm_1_42) (fun _ h9 => h9) rfl dX5_idea_74 ?_
        refine lv_imul hx hb dX5_idea_77 ?_
        refine lv_aload_n hx hb dX5_idea_78 rfl (lv_at hl 1 rfl) ?_
        refine va_get (D := D) (ci := 4) (v := .ref (q 2)) (C := RX5) (T := TX5) (N := 10) hx hb hts tbX5 hown hK hP 0 XW_0 rfl 1 (by decide) (hts _ tm_1_102) (fun _ h9 => h9) rfl dX5_idea_79 ?_
        refine va_get (D := D) (ci := 1) (v := .int (f_X2_learn length letters cells kinds).2.1) (C := RX2) (T := TX2) (N := 8) hx hb hts tbX2 hown hK hP 2 XW_2 rfl 3 (by decide) (hts _ tm_1_44) (fun _ h9 => h9) rfl dX5_idea_82 ?_
        refine lv_iadd hx hb dX5_idea_85 ?_
        subst hR
        exact fin _ _ _ _ dX5_idea_86 (nar_i _) hP hS
      | succ d_46 ih_46 =>
        intro i_46 kp46 ls H locs hi_46 hT_46 hl hP hS
        have hD : va_D A (XW cI cZ q (0 : Int32) (0 : Int32) length (f_X2_learn length letters cells kinds).1 (f_X2_learn length letters cells kinds).2.1 (f_X2_learn length letters cells kinds).2.2.1 (f_X2_learn length letters cells kinds).2.2.2.1 (f_X2_learn length letters cells kinds).2.2.2.2.1 (f_X2_learn length letters cells kinds).2.2.2.2.2.1 (0 : Int32) tcnt letters (f_X2_learn length letters cells kinds).2.2.2.2.2.2.1 (f_X2_learn length letters cells kinds).2.2.2.2.2.2.2 frames rainsB abouts stoods kp46 keptF keptR seed) := hD.same rfl
        rw [f_X5_idea_l46_s] at hT_46
        refine lv_iload_n hx hb dX5_idea_46 rfl (lv_at hl 0 rfl) ?_
        refine lv_aload_n hx hb dX5_idea_47 rfl (lv_at hl 1 rfl) ?_
        refine va_get (D := D) (ci := 4) (v := .ref (q 12)) (C := RX5) (T := TX5) (N := 10) hx hb hts tbX5 hown hK hP 0 XW_0 rfl 4 (by decide) (hts _ tm_1_105) (fun _ h9 => h9) rfl dX5_idea_48 ?_
        refine va_alen (v := (2 : Int32)) hx hb hK hP 12 1 XW_12 rfl rfl dX5_idea_51 ?_
        refine lv_icmp_ge (tgt := 68) hx hb dX5_idea_52 (by decide) (fun c_52 => absurd c_52 (nI_ge (b := 2) (by omega) (by omega))) (fun c_52 => ?_)
        refine lv_aload_n hx hb dX5_idea_55 rfl (lv_at hl 1 rfl) ?_
        refine va_get (D := D) (ci := 4) (v := .ref (q 12)) (C := RX5) (T := TX5) (N := 10) hx hb hts tbX5 hown hK hP 0 XW_0 rfl 4 (by decide) (hts _ tm_1_105) (fun _ h9 => h9) rfl dX5_idea_56 ?_
        refine lv_iload_n hx hb dX5_idea_59 rfl (lv_at hl 0 rfl) ?_
        refine lv_iconst (v := (0 : Int32)) hx hb dX5_idea_60 (by decide) ?_
        refine va_zast hx hb hK hP hD hS 12 1 XW_12 rfl (vp_in_nI (show i_46 < 2 by omega) (by omega)) dX5_idea_61 (fun H locs hP hD hS => ?_)
        have hP : va_P D vwCl (XW cI cZ q (0 : Int32) (0 : Int32) length (f_X2_learn length letters cells kinds).1 (f_X2_learn length letters cells kinds).2.1 (f_X2_learn length letters cells kinds).2.2.1 (f_X2_learn length letters cells kinds).2.2.2.1 (f_X2_learn length letters cells kinds).2.2.2.2.1 (f_X2_learn length letters cells kinds).2.2.2.2.2.1 (0 : Int32) tcnt letters (f_X2_learn length letters cells kinds).2.2.2.2.2.2.1 (f_X2_learn length letters cells kinds).2.2.2.2.2.2.2 frames rainsB abouts stoods (upd kp46 (nI i_46).toNatClampNeg (vp_nar .boolean (0 : Int32))) keptF keptR seed) H := hP
        rw [(nI_clamp (show i_46 < 2 ^ 31 by omega))] at hP
        rw [show vp_nar .boolean (0 : Int32) = (0 : Int32) from rfl] at hP
        have hD : va_D A (XW cI cZ q (0 : Int32) (0 : Int32) length (f_X2_learn length letters cells kinds).1 (f_X2_learn length letters cells kinds).2.1 (f_X2_learn length letters cells kinds).2.2.1 (f_X2_learn length letters cells kinds).2.2.2.1 (f_X2_learn length letters cells kinds).2.2.2.2.1 (f_X2_learn length letters cells kinds).2.2.2.2.2.1 (0 : Int32) tcnt letters (f_X2_learn length letters cells kinds).2.2.2.2.2.2.1 (f_X2_learn length letters cells kinds).2.2.2.2.2.2.2 frames rainsB abouts stoods (upd kp46 i_46 (0 : Int32)) keptF keptR seed) := hD.same rfl
        refine lv_iinc (v := (nI (i_46 + 1))) (lv' := [(1, .int (nI (i_46 + 1))), (0, .ref (q 0))]) hx hb dX5_idea_62 hl (k := 0) rfl (nI_up i_46) (by decide) rfl (fun ls hl => ?_)
        refine lv_goto (tgt := 46) hx hb dX5_idea_65 (by decide) ?_
        exact ih_46 (i_46 + 1) (upd kp46 i_46 (0 : Int32)) ls _ _ (by omega) hT_46 (lv_sub hl [0, 1] rfl) hP hS
    exact key_46 2 0 kept ls _ _ (by omega) hT_46 (lv_sub hl [0, 1] rfl) hP hS
  · rw [if_neg c_9] at hR
    refine lv_bipush (v := (-3 : Int32)) hx hb dX5_idea_12 (by decide) ?_
    subst hR
    exact fin _ _ _ _ dX5_idea_14 (nar_i _) hP hS
def f_X5_about (now : Int32) (rains : Int32) (length : Int32) (poles : Int32) (parts : Int32) (plain : Int32) (key : Int32) (stair : Int32) (air : Int32) (acnt : Int32) (tcnt : Int32) (cells : Nat → Int32) (a1 : Int32) : Int32 := (if a1 = (0 : Int32) then parts else (if a1 = (1 : Int32) then (f_X2_store poles now) else (if a1 = (2 : Int32) then (f_X5_allPoles now) else (if a1 = (3 : Int32) then (f_X2_partsAt cells (f_X1_had now)) else (if a1 = (4 : Int32) then rains else (if a1 = (5 : Int32) then (f_X2_partsAt cells (f_X2_standing plain key stair air (f_X1_had now) (0 : Int32))) else (if a1 = (6 : Int32) then acnt else (if a1 = (7 : Int32) then tcnt else (if a1 = (8 : Int32) then length else (-2 : Int32))))))))))
set_option maxHeartbeats 4000000 in
set_option maxRecDepth 100000 in
theorem c_X5_about (l : Launch) (D : va_G) (cI cZ : ClassId) (q : Nat → Nat) (now rains length poles parts plain key stair air acnt tcnt : Int32) (letters cells kinds frames rainsB abouts stoods kept keptF keptR : Nat → Int32) (seed : Int64) (a1 : Int32) : RdI l yX5_about cX5_about 2 .int 2 49 D (tyL cI cZ) (XW cI cZ q now rains length poles parts plain key stair air acnt tcnt letters cells kinds frames rainsB abouts stoods kept keptF keptR seed) [.ref (q 0), .int a1] (f_X5_about now rains length poles parts plain key stair air acnt tcnt cells a1) := by
  refine RdI.of (by decide) (Nat.le_of_ble_eq_true rfl) ?_
  intro p e s m args below meth c Q hx hb hml hown hts hP hK fin ls hl
  have hown : s.vm.findClass RX5 = some m.cls := hown
  have hF : CallFix p m c cX5_about 2 s args tb RX5 := ⟨hx, hb, hml, hown, hts⟩
  have hl : lv_has ls 2 [(0, .ref (q 0)), (1, .int a1)] := hl
  generalize hR : (f_X5_about now rains length poles parts plain key stair air acnt tcnt cells a1) = R at fin
  unfold f_X5_about at hR
  refine lv_iload_n hx hb dX5_about_0 rfl (lv_at hl 1 rfl) ?_
  refine Decidable.byCases (p := a1 = (0 : Int32)) (fun c_1_0 => ?_) (fun c_1_0 => ?_)
  · rw [if_pos c_1_0] at hR
    refine lv_tableIn (tgt := 52) hx hb dX5_about_1 (by rw [c_1_0]; decide) (by rw [c_1_0]; decide) (by rw [c_1_0]; rfl) (by decide) ?_
    refine lv_aload_n hx hb dX5_about_52 rfl (lv_at hl 0 rfl) ?_
    refine va_get (D := D) (ci := 4) (v := .ref (q 2)) (C := RX5) (T := TX5) (N := 10) hx hb hts tbX5 hown hK hP 0 XW_0 rfl 1 (by decide) (hts _ tm_1_102) (fun _ h9 => h9) rfl dX5_about_53 ?_
    refine va_get (D := D) (ci := 1) (v := .int parts) (C := RX2) (T := TX2) (N := 8) hx hb hts tbX2 hown hK hP 2 XW_2 rfl 3 (by decide) (hts _ tm_1_44) (fun _ h9 => h9) rfl dX5_about_56 ?_
    subst hR
    exact fin _ _ dX5_about_59 (nar_i _)
  · rw [if_neg c_1_0] at hR
    refine Decidable.byCases (p := a1 = (1 : Int32)) (fun c_1_1 => ?_) (fun c_1_1 => ?_)
    · rw [if_pos c_1_1] at hR
      refine lv_tableIn (tgt := 60) hx hb dX5_about_1 (by rw [c_1_1]; decide) (by rw [c_1_1]; decide) (by rw [c_1_1]; rfl) (by decide) ?_
      refine lv_aload_n hx hb dX5_about_60 rfl (lv_at hl 0 rfl) ?_
      refine va_get (D := D) (ci := 4) (v := .ref (q 2)) (C := RX5) (T := TX5) (N := 10) hx hb hts tbX5 hown hK hP 0 XW_0 rfl 1 (by decide) (hts _ tm_1_102) (fun _ h9 => h9) rfl dX5_about_61 ?_
      refine lv_aload_n hx hb dX5_about_64 rfl (lv_at hl 0 rfl) ?_
      refine va_get (D := D) (ci := 4) (v := .int now) (C := RX5) (T := TX5) (N := 10) hx hb hts tbX5 hown hK hP 0 XW_0 rfl 7 (by decide) (hts _ tm_1_108) (fun _ h9 => h9) rfl dX5_about_65 ?_
      refine vRdI (b := (q 2)) (As := [.int now]) (rest := []) hF (c_X2_store l D cI cZ q poles parts plain key stair air cells kinds now) (gdV tm_1_191 tm_1_192 tm_1_193 tm_1_3 tm_1_194) de_X2_store ⟨Nat.le_of_ble_eq_true rfl, Nat.le_of_ble_eq_true rfl⟩ (XW_P hP) hK (va_recv hK hP (ci := 1) (q0 := 2) rfl XW_2) hl.1 rfl (Nat.le_of_ble_eq_true rfl) dX5_about_68 ⟨Nat.zero_le _, Nat.zero_le _⟩ ?_
      subst hR
      exact fin _ _ dX5_about_71 (nar_i _)
    · rw [if_neg c_1_1] at hR
      refine Decidable.byCases (p := a1 = (2 : Int32)) (fun c_1_2 => ?_) (fun c_1_2 => ?_)
      · rw [if_pos c_1_2] at hR
        refine lv_tableIn (tgt := 72) hx hb dX5_about_1 (by rw [c_1_2]; decide) (by rw [c_1_2]; decide) (by rw [c_1_2]; rfl) (by decide) ?_
        refine lv_aload_n hx hb dX5_about_72 rfl (lv_at hl 0 rfl) ?_
        refine vRdI (b := (q 0)) (As := []) (rest := []) hF (c_X5_allPoles l D cI cZ q now rains length poles parts plain key stair air acnt tcnt letters cells kinds frames rainsB abouts stoods kept keptF keptR seed) (gdV tm_1_205 tm_1_207 tp_0 tm_1_1 tm_1_208) de_X5_allPoles ⟨Nat.le_of_ble_eq_true rfl, Nat.le_of_ble_eq_true rfl⟩ hP hK (va_recv hK hP (ci := 4) (q0 := 0) rfl XW_0) hl.1 rfl (Nat.le_of_ble_eq_true rfl) dX5_about_73 ⟨Nat.zero_le _, Nat.zero_le _⟩ ?_
        subst hR
        exact fin _ _ dX5_about_76 (nar_i _)
      · rw [if_neg c_1_2] at hR
        refine Decidable.byCases (p := a1 = (3 : Int32)) (fun c_1_3 => ?_) (fun c_1_3 => ?_)
        · rw [if_pos c_1_3] at hR
          refine lv_tableIn (tgt := 77) hx hb dX5_about_1 (by rw [c_1_3]; decide) (by rw [c_1_3]; decide) (by rw [c_1_3]; rfl) (by decide) ?_
          refine lv_aload_n hx hb dX5_about_77 rfl (lv_at hl 0 rfl) ?_
          refine va_get (D := D) (ci := 4) (v := .ref (q 2)) (C := RX5) (T := TX5) (N := 10) hx hb hts tbX5 hown hK hP 0 XW_0 rfl 1 (by decide) (hts _ tm_1_102) (fun _ h9 => h9) rfl dX5_about_78 ?_
          refine lv_aload_n hx hb dX5_about_81 rfl (lv_at hl 0 rfl) ?_
          refine va_get (D := D) (ci := 4) (v := .int now) (C := RX5) (T := TX5) (N := 10) hx hb hts tbX5 hown hK hP 0 XW_0 rfl 7 (by decide) (hts _ tm_1_108) (fun _ h9 => h9) rfl dX5_about_82 ?_
          refine sRdI (As := [.int now]) (rest := [.ref (q 2)]) hF (c_X1_had l D cI cZ q now) (gdS tm_1_211 tm_1_212 tm_1_8 tm_1_213) de_X1_had ⟨Nat.le_of_ble_eq_true rfl, Nat.le_of_ble_eq_true rfl⟩ va_P_nil hK hl.1 rfl (Nat.le_of_ble_eq_true rfl) dX5_about_85 ⟨Nat.zero_le _, Nat.zero_le _⟩ ?_
          refine vRdI (b := (q 2)) (As := [.int (f_X1_had now)]) (rest := []) hF (c_X2_partsAt l D cI cZ q poles parts plain key stair air cells kinds (f_X1_had now)) (gdV tm_1_214 tm_1_215 tm_1_216 tm_1_3 tm_1_217) de_X2_partsAt ⟨Nat.le_of_ble_eq_true rfl, Nat.le_of_ble_eq_true rfl⟩ (XW_P hP) hK (va_recv hK hP (ci := 1) (q0 := 2) rfl XW_2) hl.1 rfl (Nat.le_of_ble_eq_true rfl) dX5_about_88 ⟨Nat.zero_le _, Nat.zero_le _⟩ ?_
          subst hR
          exact fin _ _ dX5_about_91 (nar_i _)
        · rw [if_neg c_1_3] at hR
          refine Decidable.byCases (p := a1 = (4 : Int32)) (fun c_1_4 => ?_) (fun c_1_4 => ?_)
          · rw [if_pos c_1_4] at hR
            refine lv_tableIn (tgt := 92) hx hb dX5_about_1 (by rw [c_1_4]; decide) (by rw [c_1_4]; decide) (by rw [c_1_4]; rfl) (by decide) ?_
            refine lv_aload_n hx hb dX5_about_92 rfl (lv_at hl 0 rfl) ?_
            refine va_get (D := D) (ci := 4) (v := .int rains) (C := RX5) (T := TX5) (N := 10) hx hb hts tbX5 hown hK hP 0 XW_0 rfl 8 (by decide) (hts _ tm_1_109) (fun _ h9 => h9) rfl dX5_about_93 ?_
            subst hR
            exact fin _ _ dX5_about_96 (nar_i _)
          · rw [if_neg c_1_4] at hR
            refine Decidable.byCases (p := a1 = (5 : Int32)) (fun c_1_5 => ?_) (fun c_1_5 => ?_)
            · rw [if_pos c_1_5] at hR
              refine lv_tableIn (tgt := 97) hx hb dX5_about_1 (by rw [c_1_5]; decide) (by rw [c_1_5]; decide) (by rw [c_1_5]; rfl) (by decide) ?_
              refine lv_aload_n hx hb dX5_about_97 rfl (lv_at hl 0 rfl) ?_
              refine va_get (D := D) (ci := 4) (v := .ref (q 2)) (C := RX5) (T := TX5) (N := 10) hx hb hts tbX5 hown hK hP 0 XW_0 rfl 1 (by decide) (hts _ tm_1_102) (fun _ h9 => h9) rfl dX5_about_98 ?_
              refine lv_aload_n hx hb dX5_about_101 rfl (lv_at hl 0 rfl) ?_
              refine va_get (D := D) (ci := 4) (v := .ref (q 2)) (C := RX5) (T := TX5) (N := 10) hx hb hts tbX5 hown hK hP 0 XW_0 rfl 1 (by decide) (hts _ tm_1_102) (fun _ h9 => h9) rfl dX5_about_102 ?_
              refine lv_aload_n hx hb dX5_about_105 rfl (lv_at hl 0 rfl) ?_
              refine va_get (D := D) (ci := 4) (v := .int now) (C := RX5) (T := TX5) (N := 10) hx hb hts tbX5 hown hK hP 0 XW_0 rfl 7 (by decide) (hts _ tm_1_108) (fun _ h9 => h9) rfl dX5_about_106 ?_
              refine sRdI (As := [.int now]) (rest := [.ref (q 2), .ref (q 2)]) hF (c_X1_had l D cI cZ q now) (gdS tm_1_211 tm_1_212 tm_1_8 tm_1_213) de_X1_had ⟨Nat.le_of_ble_eq_true rfl, Nat.le_of_ble_eq_true rfl⟩ va_P_nil hK hl.1 rfl (Nat.le_of_ble_eq_true rfl) dX5_about_109 ⟨Nat.zero_le _, Nat.zero_le _⟩ ?_
              refine lv_iconst (v := (0 : Int32)) hx hb dX5_about_112 (by decide) ?_
              refine vRdI (b := (q 2)) (As := [.int (f_X1_had now), .int (0 : Int32)]) (rest := [.ref (q 2)]) hF (c_X2_standing l D cI cZ q poles parts plain key stair air cells kinds (f_X1_had now) (0 : Int32)) (gdV tm_1_218 tm_1_219 tm_1_220 tm_1_3 tm_1_221) de_X2_standing ⟨Nat.le_of_ble_eq_true rfl, Nat.le_of_ble_eq_true rfl⟩ (XW_P hP) hK (va_recv hK hP (ci := 1) (q0 := 2) rfl XW_2) hl.1 rfl (Nat.le_of_ble_eq_true rfl) dX5_about_113 ⟨Nat.zero_le _, Nat.zero_le _⟩ ?_
              refine vRdI (b := (q 2)) (As := [.int (f_X2_standing plain key stair air (f_X1_had now) (0 : Int32))]) (rest := []) hF (c_X2_partsAt l D cI cZ q poles parts plain key stair air cells kinds (f_X2_standing plain key stair air (f_X1_had now) (0 : Int32))) (gdV tm_1_214 tm_1_215 tm_1_216 tm_1_3 tm_1_217) de_X2_partsAt ⟨Nat.le_of_ble_eq_true rfl, Nat.le_of_ble_eq_true rfl⟩ (XW_P hP) hK (va_recv hK hP (ci := 1) (q0 := 2) rfl XW_2) hl.1 rfl (Nat.le_of_ble_eq_true rfl) dX5_about_116 ⟨Nat.zero_le _, Nat.zero_le _⟩ ?_
              subst hR
              exact fin _ _ dX5_about_119 (nar_i _)
            · rw [if_neg c_1_5] at hR
              refine Decidable.byCases (p := a1 = (6 : Int32)) (fun c_1_6 => ?_) (fun c_1_6 => ?_)
              · rw [if_pos c_1_6] at hR
                refine lv_tableIn (tgt := 120) hx hb dX5_about_1 (by rw [c_1_6]; decide) (by rw [c_1_6]; decide) (by rw [c_1_6]; rfl) (by decide) ?_
                refine lv_aload_n hx hb dX5_about_120 rfl (lv_at hl 0 rfl) ?_
                refine va_get (D := D) (ci := 4) (v := .ref (q 3)) (C := RX5) (T := TX5) (N := 10) hx hb hts tbX5 hown hK hP 0 XW_0 rfl 2 (by decide) (hts _ tm_1_103) (fun _ h9 => h9) rfl dX5_about_121 ?_
                refine va_get (D := D) (ci := 0) (v := .int acnt) (C := RX0) (T := TX0) (N := 3) hx hb hts tbX0 hown hK hP 3 XW_3 rfl 2 (by decide) (hts _ tm_1_75) (fun _ h9 => h9) rfl dX5_about_124 ?_
                subst hR
                exact fin _ _ dX5_about_127 (nar_i _)
              · rw [if_neg c_1_6] at hR
                refine Decidable.byCases (p := a1 = (7 : Int32)) (fun c_1_7 => ?_) (fun c_1_7 => ?_)
                · rw [if_pos c_1_7] at hR
                  refine lv_tableIn (tgt := 128) hx hb dX5_about_1 (by rw [c_1_7]; decide) (by rw [c_1_7]; decide) (by rw [c_1_7]; rfl) (by decide) ?_
                  refine lv_aload_n hx hb dX5_about_128 rfl (lv_at hl 0 rfl) ?_
                  refine va_get (D := D) (ci := 4) (v := .ref (q 4)) (C := RX5) (T := TX5) (N := 10) hx hb hts tbX5 hown hK hP 0 XW_0 rfl 3 (by decide) (hts _ tm_1_104) (fun _ h9 => h9) rfl dX5_about_129 ?_
                  refine va_get (D := D) (ci := 3) (v := .int tcnt) (C := RX4) (T := TX4) (N := 3) hx hb hts tbX4 hown hK hP 4 XW_4 rfl 2 (by decide) (hts _ tm_1_92) (fun _ h9 => h9) rfl dX5_about_132 ?_
                  subst hR
                  exact fin _ _ dX5_about_135 (nar_i _)
                · rw [if_neg c_1_7] at hR
                  refine Decidable.byCases (p := a1 = (8 : Int32)) (fun c_1_8 => ?_) (fun c_1_8 => ?_)
                  · rw [if_pos c_1_8] at hR
                    refine lv_tableIn (tgt := 136) hx hb dX5_about_1 (by rw [c_1_8]; decide) (by rw [c_1_8]; decide) (by rw [c_1_8]; rfl) (by decide) ?_
                    refine lv_aload_n hx hb dX5_about_136 rfl (lv_at hl 0 rfl) ?_
                    refine va_get (D := D) (ci := 4) (v := .ref (q 1)) (C := RX5) (T := TX5) (N := 10) hx hb hts tbX5 hown hK hP 0 XW_0 rfl 0 (by decide) (hts _ tm_1_101) (fun _ h9 => h9) rfl dX5_about_137 ?_
                    refine va_get (D := D) (ci := 2) (v := .int length) (C := RX3) (T := TX3) (N := 2) hx hb hts tbX3 hown hK hP 1 XW_1 rfl 1 (by decide) (hts _ tm_1_26) (fun _ h9 => h9) rfl dX5_about_140 ?_
                    subst hR
                    exact fin _ _ dX5_about_143 (nar_i _)
                  · rw [if_neg c_1_8] at hR
                    refine lv_tableOut (tgt := 144) hx hb dX5_about_1 (by have h0 := lv_neT c_1_0 (a := 0) (by decide); have h1 := lv_neT c_1_1 (a := 1) (by decide); have h2 := lv_neT c_1_2 (a := 2) (by decide); have h3 := lv_neT c_1_3 (a := 3) (by decide); have h4 := lv_neT c_1_4 (a := 4) (by decide); have h5 := lv_neT c_1_5 (a := 5) (by decide); have h6 := lv_neT c_1_6 (a := 6) (by decide); have h7 := lv_neT c_1_7 (a := 7) (by decide); have h8 := lv_neT c_1_8 (a := 8) (by decide); omega) (by decide) ?_
                    refine lv_bipush (v := (-2 : Int32)) hx hb dX5_about_144 (by decide) ?_
                    subst hR
                    exact fin _ _ dX5_about_146 (nar_i _)
def f_X5_part (now : Int32) (parts : Int32) (cells : Nat → Int32) (kinds : Nat → Int32) (a1 : Int32) (a2 : Int32) : Int32 := (if (f_X2_isPart parts a1) = (0 : Int32) then (-1 : Int32) else (if a2 = (0 : Int32) then (f_X2_cellOf parts cells a1) else (if a2 = (1 : Int32) then (f_X2_kindOf parts kinds a1) else (if a2 = (2 : Int32) then ((shr (f_X1_had now) (f_X2_cellOf parts cells a1)) &&& (1 : Int32)) else (if a2 = (3 : Int32) then ((shr (f_X1_poles now) (f_X2_cellOf parts cells a1)) &&& (1 : Int32)) else (-2 : Int32))))))
set_option maxHeartbeats 4000000 in
set_option maxRecDepth 100000 in
theorem c_X5_part (l : Launch) (D : va_G) (cI cZ : ClassId) (q : Nat → Nat) (now rains length poles parts plain key stair air acnt tcnt : Int32) (letters cells kinds frames rainsB abouts stoods kept keptF keptR : Nat → Int32) (seed : Int64) (a1 : Int32) (a2 : Int32) : RdI l yX5_part cX5_part 4 .int 2 42 D (tyL cI cZ) (XW cI cZ q now rains length poles parts plain key stair air acnt tcnt letters cells kinds frames rainsB abouts stoods kept keptF keptR seed) [.ref (q 0), .int a1, .int a2] (f_X5_part now parts cells kinds a1 a2) := by
  refine RdI.of (by decide) (Nat.le_of_ble_eq_true rfl) ?_
  intro p e s m args below meth c Q hx hb hml hown hts hP hK fin ls hl
  have hown : s.vm.findClass RX5 = some m.cls := hown
  have hF : CallFix p m c cX5_part 4 s args tb RX5 := ⟨hx, hb, hml, hown, hts⟩
  have hl : lv_has ls 4 [(0, .ref (q 0)), (1, .int a1), (2, .int a2)] := hl
  generalize hR : (f_X5_part now parts cells kinds a1 a2) = R at fin
  unfold f_X5_part at hR
  refine lv_aload_n hx hb dX5_part_0 rfl (lv_at hl 0 rfl) ?_
  refine va_get (D := D) (ci := 4) (v := .ref (q 2)) (C := RX5) (T := TX5) (N := 10) hx hb hts tbX5 hown hK hP 0 XW_0 rfl 1 (by decide) (hts _ tm_1_102) (fun _ h9 => h9) rfl dX5_part_1 ?_
  refine lv_iload_n hx hb dX5_part_4 rfl (lv_at hl 1 rfl) ?_
  refine vRdI (b := (q 2)) (As := [.int a1]) (rest := []) hF (c_X2_isPart l D cI cZ q poles parts plain key stair air cells kinds a1) (gdV tm_1_231 tm_1_232 tm_1_233 tm_1_3 tm_1_234) de_X2_isPart ⟨Nat.le_of_ble_eq_true rfl, Nat.le_of_ble_eq_true rfl⟩ (XW_P hP) hK (va_recv hK hP (ci := 1) (q0 := 2) rfl XW_2) hl.1 rfl (Nat.le_of_ble_eq_true rfl) dX5_part_5 ⟨Nat.zero_le _, Nat.zero_le _⟩ ?_
  refine lv_if_ne (tgt := 13) hx hb dX5_part_8 (by decide) (fun c_8 => ?_) (fun c_8 => ?_)
  · rw [if_neg c_8] at hR
    refine lv_aload_n hx hb dX5_part_13 rfl (lv_at hl 0 rfl) ?_
    refine va_get (D := D) (ci := 4) (v := .ref (q 2)) (C := RX5) (T := TX5) (N := 10) hx hb hts tbX5 hown hK hP 0 XW_0 rfl 1 (by decide) (hts _ tm_1_102) (fun _ h9 => h9) rfl dX5_part_14 ?_
    refine lv_iload_n hx hb dX5_part_17 rfl (lv_at hl 1 rfl) ?_
    refine vRdI (b := (q 2)) (As := [.int a1]) (rest := []) hF (c_X2_cellOf l D cI cZ q poles parts plain key stair air cells kinds a1) (gdV tm_1_235 tm_1_236 tm_1_237 tm_1_3 tm_1_238) de_X2_cellOf ⟨Nat.le_of_ble_eq_true rfl, Nat.le_of_ble_eq_true rfl⟩ (XW_P hP) hK (va_recv hK hP (ci := 1) (q0 := 2) rfl XW_2) hl.1 rfl (Nat.le_of_ble_eq_true rfl) dX5_part_18 ⟨Nat.zero_le _, Nat.zero_le _⟩ ?_
    refine lv_istore_n (lv' := [(3, .int (f_X2_cellOf parts cells a1)), (0, .ref (q 0)), (1, .int a1), (2, .int a2)]) hx hb dX5_part_21 rfl hl (by decide) rfl (fun ls hl => ?_)
    refine lv_iload_n hx hb dX5_part_22 rfl (lv_at hl 3 rfl) ?_
    refine Decidable.byCases (p := a2 = (0 : Int32)) (fun c_23_0 => ?_) (fun c_23_0 => ?_)
    · rw [if_pos c_23_0] at hR
      refine lv_tableIn (tgt := 52) hx hb dX5_part_23 (by rw [c_23_0]; decide) (by rw [c_23_0]; decide) (by rw [c_23_0]; rfl) (by decide) ?_
      refine lv_iload_n hx hb dX5_part_52 rfl (lv_at hl 0 rfl) ?_
      subst hR
      exact fin _ _ dX5_part_53 (nar_i _)
    · rw [if_neg c_23_0] at hR
      refine Decidable.byCases (p := a2 = (1 : Int32)) (fun c_23_1 => ?_) (fun c_23_1 => ?_)
      · rw [if_pos c_23_1] at hR
        refine lv_tableIn (tgt := 54) hx hb dX5_part_23 (by rw [c_23_1]; decide) (by rw [c_23_1]; decide) (by rw [c_23_1]; rfl) (by decide) ?_
        refine lv_aload_n hx hb dX5_part_54 rfl (lv_at hl 1 rfl) ?_
        refine va_get (D := D) (ci := 4) (v := .ref (q 2)) (C := RX5) (T := TX5) (N := 10) hx hb hts tbX5 hown hK hP 0 XW_0 rfl 1 (by decide) (hts _ tm_1_102) (fun _ h9 => h9) rfl dX5_part_55 ?_
        refine lv_iload_n hx hb dX5_part_58 rfl (lv_at hl 2 rfl) ?_
        refine vRdI (b := (q 2)) (As := [.int a1]) (rest := []) hF (c_X2_kindOf l D cI cZ q poles parts plain key stair air cells kinds a1) (gdV tm_2_0 tm_2_1 tm_2_2 tm_1_3 tm_2_3) de_X2_kindOf ⟨Nat.le_of_ble_eq_true rfl, Nat.le_of_ble_eq_true rfl⟩ (XW_P hP) hK (va_recv hK hP (ci := 1) (q0 := 2) rfl XW_2) hl.1 rfl (Nat.le_of_ble_eq_true rfl) dX5_part_59 ⟨Nat.zero_le _, Nat.zero_le _⟩ ?_
        subst hR
        exact fin _ _ dX5_part_62 (nar_i _)
      · rw [if_neg c_23_1] at hR
        refine Decidable.byCases (p := a2 = (2 : Int32)) (fun c_23_2 => ?_) (fun c_23_2 => ?_)
        · rw [if_pos c_23_2] at hR
          refine lv_tableIn (tgt := 63) hx hb dX5_part_23 (by rw [c_23_2]; decide) (by rw [c_23_2]; decide) (by rw [c_23_2]; rfl) (by decide) ?_
          refine lv_aload_n hx hb dX5_part_63 rfl (lv_at hl 1 rfl) ?_
          refine va_get (D := D) (ci := 4) (v := .int now) (C := RX5) (T := TX5) (N := 10) hx hb hts tbX5 hown hK hP 0 XW_0 rfl 7 (by decide) (hts _ tm_1_108) (fun _ h9 => h9) rfl dX5_part_64 ?_
          refine sRdI (As := [.int now]) (rest := []) hF (c_X1_had l D cI cZ q now) (gdS tm_1_211 tm_1_212 tm_1_8 tm_1_213) de_X1_had ⟨Nat.le_of_ble_eq_true rfl, Nat.le_of_ble_eq_true rfl⟩ va_P_nil hK hl.1 rfl (Nat.le_of_ble_eq_true rfl) dX5_part_67 ⟨Nat.zero_le _, Nat.zero_le _⟩ ?_
          refine lv_iload_n hx hb dX5_part_70 rfl (lv_at hl 0 rfl) ?_
          refine lv_ishr hx hb dX5_part_71 ?_
          refine lv_rw (z := (shr (f_X1_had now) (f_X2_cellOf parts cells a1))) rfl ?_
          refine lv_iconst (v := (1 : Int32)) hx hb dX5_part_72 (by decide) ?_
          refine lv_iand hx hb dX5_part_73 ?_
          subst hR
          exact fin _ _ dX5_part_74 (nar_i _)
        · rw [if_neg c_23_2] at hR
          refine Decidable.byCases (p := a2 = (3 : Int32)) (fun c_23_3 => ?_) (fun c_23_3 => ?_)
          · rw [if_pos c_23_3] at hR
            refine lv_tableIn (tgt := 75) hx hb dX5_part_23 (by rw [c_23_3]; decide) (by rw [c_23_3]; decide) (by rw [c_23_3]; rfl) (by decide) ?_
            refine lv_aload_n hx hb dX5_part_75 rfl (lv_at hl 1 rfl) ?_
            refine va_get (D := D) (ci := 4) (v := .int now) (C := RX5) (T := TX5) (N := 10) hx hb hts tbX5 hown hK hP 0 XW_0 rfl 7 (by decide) (hts _ tm_1_108) (fun _ h9 => h9) rfl dX5_part_76 ?_
            refine sRdI (As := [.int now]) (rest := []) hF (c_X1_poles l D cI cZ q now) (gdS tm_1_209 tm_1_196 tm_1_8 tm_1_197) de_X1_poles ⟨Nat.le_of_ble_eq_true rfl, Nat.le_of_ble_eq_true rfl⟩ va_P_nil hK hl.1 rfl (Nat.le_of_ble_eq_true rfl) dX5_part_79 ⟨Nat.zero_le _, Nat.zero_le _⟩ ?_
            refine lv_iload_n hx hb dX5_part_82 rfl (lv_at hl 0 rfl) ?_
            refine lv_ishr hx hb dX5_part_83 ?_
            refine lv_rw (z := (shr (f_X1_poles now) (f_X2_cellOf parts cells a1))) rfl ?_
            refine lv_iconst (v := (1 : Int32)) hx hb dX5_part_84 (by decide) ?_
            refine lv_iand hx hb dX5_part_85 ?_
            subst hR
            exact fin _ _ dX5_part_86 (nar_i _)
          · rw [if_neg c_23_3] at hR
            refine lv_tableOut (tgt := 87) hx hb dX5_part_23 (by have h0 := lv_neT c_23_0 (a := 0) (by decide); have h1 := lv_neT c_23_1 (a := 1) (by decide); have h2 := lv_neT c_23_2 (a := 2) (by decide); have h3 := lv_neT c_23_3 (a := 3) (by decide); omega) (by decide) ?_
            refine lv_bipush (v := (-2 : Int32)) hx hb dX5_part_87 (by decide) ?_
            subst hR
            exact fin _ _ dX5_part_89 (nar_i _)
  · rw [if_pos c_8] at hR
    refine lv_iconst (v := (-1 : Int32)) hx hb dX5_part_11 (by decide) ?_
    subst hR
    exact fin _ _ dX5_part_12 (nar_i _)
def f_X5_column (now : Int32) (a1 : Int32) : Int32 := (if (f_X5_isColumn a1) = (0 : Int32) then (-1 : Int32) else (f_X1_height now a1))
set_option maxHeartbeats 4000000 in
set_option maxRecDepth 100000 in
theorem c_X5_column (l : Launch) (D : va_G) (cI cZ : ClassId) (q : Nat → Nat) (now rains length poles parts plain key stair air acnt tcnt : Int32) (letters cells kinds frames rainsB abouts stoods kept keptF keptR : Nat → Int32) (seed : Int64) (a1 : Int32) : RdI l yX5_column cX5_column 2 .int 2 41 D (tyL cI cZ) (XW cI cZ q now rains length poles parts plain key stair air acnt tcnt letters cells kinds frames rainsB abouts stoods kept keptF keptR seed) [.ref (q 0), .int a1] (f_X5_column now a1) := by
  refine RdI.of (by decide) (Nat.le_of_ble_eq_true rfl) ?_
  intro p e s m args below meth c Q hx hb hml hown hts hP hK fin ls hl
  have hown : s.vm.findClass RX5 = some m.cls := hown
  have hF : CallFix p m c cX5_column 2 s args tb RX5 := ⟨hx, hb, hml, hown, hts⟩
  have hl : lv_has ls 2 [(0, .ref (q 0)), (1, .int a1)] := hl
  generalize hR : (f_X5_column now a1) = R at fin
  unfold f_X5_column at hR
  refine lv_iload_n hx hb dX5_column_0 rfl (lv_at hl 1 rfl) ?_
  refine sRdI (As := [.int a1]) (rest := []) hF (c_X5_isColumn l D cI cZ q a1) (gdS tm_2_8 tm_2_9 tm_1_1 tm_2_10) de_X5_isColumn ⟨Nat.le_of_ble_eq_true rfl, Nat.le_of_ble_eq_true rfl⟩ va_P_nil hK hl.1 rfl (Nat.le_of_ble_eq_true rfl) dX5_column_1 ⟨Nat.zero_le _, Nat.zero_le _⟩ ?_
  refine lv_if_eq (tgt := 18) hx hb dX5_column_4 (by decide) (fun c_4 => ?_) (fun c_4 => ?_)
  · rw [if_pos c_4] at hR
    refine lv_iconst (v := (-1 : Int32)) hx hb dX5_column_18 (by decide) ?_
    subst hR
    exact fin _ _ dX5_column_19 (nar_i _)
  · rw [if_neg c_4] at hR
    refine lv_aload_n hx hb dX5_column_7 rfl (lv_at hl 0 rfl) ?_
    refine va_get (D := D) (ci := 4) (v := .int now) (C := RX5) (T := TX5) (N := 10) hx hb hts tbX5 hown hK hP 0 XW_0 rfl 7 (by decide) (hts _ tm_1_108) (fun _ h9 => h9) rfl dX5_column_8 ?_
    refine lv_iload_n hx hb dX5_column_11 rfl (lv_at hl 1 rfl) ?_
    refine sRdI (As := [.int now, .int a1]) (rest := []) hF (c_X1_height l D cI cZ q now a1) (gdS tm_2_11 tm_2_12 tm_1_8 tm_2_13) de_X1_height ⟨Nat.le_of_ble_eq_true rfl, Nat.le_of_ble_eq_true rfl⟩ va_P_nil hK hl.1 rfl (Nat.le_of_ble_eq_true rfl) dX5_column_12 ⟨Nat.zero_le _, Nat.zero_le _⟩ ?_
    refine lv_goto (tgt := 19) hx hb dX5_column_15 (by decide) ?_
    subst hR
    exact fin _ _ dX5_column_19 (nar_i _)
def f_X5_at (cells : Nat → Int32) (a1 : Int32) : Int32 := (if a1 < (0 : Int32) then (-1 : Int32) else (if (16 : Int32) ≤ a1 then (-1 : Int32) else (f_X2_partIn cells a1)))
set_option maxHeartbeats 4000000 in
set_option maxRecDepth 100000 in
theorem c_X5_at (l : Launch) (D : va_G) (cI cZ : ClassId) (q : Nat → Nat) (now rains length poles parts plain key stair air acnt tcnt : Int32) (letters cells kinds frames rainsB abouts stoods kept keptF keptR : Nat → Int32) (seed : Int64) (a1 : Int32) : RdI l yX5_at cX5_at 2 .int 1 22 D (tyL cI cZ) (XW cI cZ q now rains length poles parts plain key stair air acnt tcnt letters cells kinds frames rainsB abouts stoods kept keptF keptR seed) [.ref (q 0), .int a1] (f_X5_at cells a1) := by
  refine RdI.of (by decide) (Nat.le_of_ble_eq_true rfl) ?_
  intro p e s m args below meth c Q hx hb hml hown hts hP hK fin ls hl
  have hown : s.vm.findClass RX5 = some m.cls := hown
  have hF : CallFix p m c cX5_at 2 s args tb RX5 := ⟨hx, hb, hml, hown, hts⟩
  have hl : lv_has ls 2 [(0, .ref (q 0)), (1, .int a1)] := hl
  generalize hR : (f_X5_at cells a1) = R at fin
  unfold f_X5_at at hR
  refine lv_iload_n hx hb dX5_at_0 rfl (lv_at hl 1 rfl) ?_
  refine lv_if_lt (tgt := 21) hx hb dX5_at_1 (by decide) (fun c_1 => ?_) (fun c_1 => ?_)
  · rw [if_pos c_1] at hR
    refine lv_iconst (v := (-1 : Int32)) hx hb dX5_at_21 (by decide) ?_
    subst hR
    exact fin _ _ dX5_at_22 (nar_i _)
  · rw [if_neg c_1] at hR
    refine lv_iload_n hx hb dX5_at_4 rfl (lv_at hl 1 rfl) ?_
    refine lv_bipush (v := (16 : Int32)) hx hb dX5_at_5 (by decide) ?_
    refine lv_icmp_ge (tgt := 21) hx hb dX5_at_7 (by decide) (fun c_7 => ?_) (fun c_7 => ?_)
    · rw [if_pos c_7] at hR
      refine lv_iconst (v := (-1 : Int32)) hx hb dX5_at_21 (by decide) ?_
      subst hR
      exact fin _ _ dX5_at_22 (nar_i _)
    · rw [if_neg c_7] at hR
      refine lv_aload_n hx hb dX5_at_10 rfl (lv_at hl 0 rfl) ?_
      refine va_get (D := D) (ci := 4) (v := .ref (q 2)) (C := RX5) (T := TX5) (N := 10) hx hb hts tbX5 hown hK hP 0 XW_0 rfl 1 (by decide) (hts _ tm_1_102) (fun _ h9 => h9) rfl dX5_at_11 ?_
      refine lv_iload_n hx hb dX5_at_14 rfl (lv_at hl 1 rfl) ?_
      refine vRdI (b := (q 2)) (As := [.int a1]) (rest := []) hF (c_X2_partIn l D cI cZ q poles parts plain key stair air cells kinds a1) (gdV tm_2_20 tm_2_21 tm_2_22 tm_1_3 tm_2_23) de_X2_partIn ⟨Nat.le_of_ble_eq_true rfl, Nat.le_of_ble_eq_true rfl⟩ (XW_P hP) hK (va_recv hK hP (ci := 1) (q0 := 2) rfl XW_2) hl.1 rfl (Nat.le_of_ble_eq_true rfl) dX5_at_15 ⟨Nat.zero_le _, Nat.zero_le _⟩ ?_
      refine lv_goto (tgt := 22) hx hb dX5_at_18 (by decide) ?_
      subst hR
      exact fin _ _ dX5_at_22 (nar_i _)
def f_X5_put (now : Int32) (rains : Int32) (poles : Int32) (plain : Int32) (key : Int32) (stair : Int32) (air : Int32) (acnt : Int32) (frames : Nat → Int32) (rainsB : Nat → Int32) (a1 : Int32) : (Int32) × (Int32) × (Int32) × (Nat → Int32) × (Nat → Int32) := (if (f_X5_isColumn a1) = (0 : Int32) then ((-1 : Int32), now, acnt, frames, rainsB) else (if (f_X2_store poles now) = (0 : Int32) then ((-3 : Int32), now, acnt, frames, rainsB) else (if (f_X1_height now a1) < (4 : Int32) then ((f_X1_countHad (f_X2_withPut plain key stair air now a1)), (f_X2_withPut plain key stair air now a1), (f_X0_remember acnt frames rainsB now rains).1, (f_X0_remember acnt frames rainsB now rains).2.1, (f_X0_remember acnt frames rainsB now rains).2.2) else ((-4 : Int32), now, acnt, frames, rainsB))))
set_option maxHeartbeats 4000000 in
set_option maxRecDepth 100000 in
theorem c_X5_put (l : Launch) (D : va_G) (cI cZ : ClassId) (q : Nat → Nat) (now rains length poles parts plain key stair air acnt tcnt : Int32) (letters cells kinds frames rainsB abouts stoods kept keptF keptR : Nat → Int32) (seed : Int64) (a1 : Int32) : WrI l yX5_put cX5_put 2 .int 3 65 D (tyL cI cZ) (XW cI cZ q now rains length poles parts plain key stair air acnt tcnt letters cells kinds frames rainsB abouts stoods kept keptF keptR seed) [.ref (q 0), .int a1] (f_X5_put now rains poles plain key stair air acnt frames rainsB a1).1 (XW cI cZ q (f_X5_put now rains poles plain key stair air acnt frames rainsB a1).2.1 rains length poles parts plain key stair air (f_X5_put now rains poles plain key stair air acnt frames rainsB a1).2.2.1 tcnt letters cells kinds (f_X5_put now rains poles plain key stair air acnt frames rainsB a1).2.2.2.1 (f_X5_put now rains poles plain key stair air acnt frames rainsB a1).2.2.2.2 abouts stoods kept keptF keptR seed) := by
  refine WrI.of (by decide) (Nat.le_of_ble_eq_true rfl) ?_
  intro p e s m args below meth c Q A hx hb hml hown hts hP hK hD hS fin ls hl
  have hown : s.vm.findClass RX5 = some m.cls := hown
  have hF : CallFix p m c cX5_put 2 s args tb RX5 := ⟨hx, hb, hml, hown, hts⟩
  have hl : lv_has ls 2 [(0, .ref (q 0)), (1, .int a1)] := hl
  generalize hR : (f_X5_put now rains poles plain key stair air acnt frames rainsB a1) = R at fin
  unfold f_X5_put at hR
  refine lv_iload_n hx hb dX5_put_0 rfl (lv_at hl 1 rfl) ?_
  refine sRdI (As := [.int a1]) (rest := []) hF (c_X5_isColumn l D cI cZ q a1) (gdS tm_2_8 tm_2_9 tm_1_1 tm_2_10) de_X5_isColumn ⟨Nat.le_of_ble_eq_true rfl, Nat.le_of_ble_eq_true rfl⟩ va_P_nil hK hl.1 rfl (Nat.le_of_ble_eq_true rfl) dX5_put_1 ⟨Nat.zero_le _, Nat.zero_le _⟩ ?_
  refine lv_if_ne (tgt := 9) hx hb dX5_put_4 (by decide) (fun c_4 => ?_) (fun c_4 => ?_)
  · rw [if_neg c_4] at hR
    refine lv_aload_n hx hb dX5_put_9 rfl (lv_at hl 0 rfl) ?_
    refine va_get (D := D) (ci := 4) (v := .ref (q 2)) (C := RX5) (T := TX5) (N := 10) hx hb hts tbX5 hown hK hP 0 XW_0 rfl 1 (by decide) (hts _ tm_1_102) (fun _ h9 => h9) rfl dX5_put_10 ?_
    refine lv_aload_n hx hb dX5_put_13 rfl (lv_at hl 0 rfl) ?_
    refine va_get (D := D) (ci := 4) (v := .int now) (C := RX5) (T := TX5) (N := 10) hx hb hts tbX5 hown hK hP 0 XW_0 rfl 7 (by decide) (hts _ tm_1_108) (fun _ h9 => h9) rfl dX5_put_14 ?_
    refine vRdI (b := (q 2)) (As := [.int now]) (rest := []) hF (c_X2_store l D cI cZ q poles parts plain key stair air cells kinds now) (gdV tm_1_191 tm_1_192 tm_1_193 tm_1_3 tm_1_194) de_X2_store ⟨Nat.le_of_ble_eq_true rfl, Nat.le_of_ble_eq_true rfl⟩ (XW_P hP) hK (va_recv hK hP (ci := 1) (q0 := 2) rfl XW_2) hl.1 rfl (Nat.le_of_ble_eq_true rfl) dX5_put_17 ⟨Nat.zero_le _, Nat.zero_le _⟩ ?_
    refine lv_if_ne (tgt := 26) hx hb dX5_put_20 (by decide) (fun c_20 => ?_) (fun c_20 => ?_)
    · rw [if_neg c_20] at hR
      refine lv_aload_n hx hb dX5_put_26 rfl (lv_at hl 0 rfl) ?_
      refine va_get (D := D) (ci := 4) (v := .int now) (C := RX5) (T := TX5) (N := 10) hx hb hts tbX5 hown hK hP 0 XW_0 rfl 7 (by decide) (hts _ tm_1_108) (fun _ h9 => h9) rfl dX5_put_27 ?_
      refine lv_iload_n hx hb dX5_put_30 rfl (lv_at hl 1 rfl) ?_
      refine sRdI (As := [.int now, .int a1]) (rest := []) hF (c_X1_height l D cI cZ q now a1) (gdS tm_2_11 tm_2_12 tm_1_8 tm_2_13) de_X1_height ⟨Nat.le_of_ble_eq_true rfl, Nat.le_of_ble_eq_true rfl⟩ va_P_nil hK hl.1 rfl (Nat.le_of_ble_eq_true rfl) dX5_put_31 ⟨Nat.zero_le _, Nat.zero_le _⟩ ?_
      refine lv_iconst (v := (4 : Int32)) hx hb dX5_put_34 (by decide) ?_
      refine lv_icmp_lt (tgt := 41) hx hb dX5_put_35 (by decide) (fun c_35 => ?_) (fun c_35 => ?_)
      · rw [if_pos c_35] at hR
        refine lv_aload_n hx hb dX5_put_41 rfl (lv_at hl 0 rfl) ?_
        refine va_get (D := D) (ci := 4) (v := .ref (q 3)) (C := RX5) (T := TX5) (N := 10) hx hb hts tbX5 hown hK hP 0 XW_0 rfl 2 (by decide) (hts _ tm_1_103) (fun _ h9 => h9) rfl dX5_put_42 ?_
        refine lv_aload_n hx hb dX5_put_45 rfl (lv_at hl 0 rfl) ?_
        refine va_get (D := D) (ci := 4) (v := .int now) (C := RX5) (T := TX5) (N := 10) hx hb hts tbX5 hown hK hP 0 XW_0 rfl 7 (by decide) (hts _ tm_1_108) (fun _ h9 => h9) rfl dX5_put_46 ?_
        refine lv_aload_n hx hb dX5_put_49 rfl (lv_at hl 0 rfl) ?_
        refine va_get (D := D) (ci := 4) (v := .int rains) (C := RX5) (T := TX5) (N := 10) hx hb hts tbX5 hown hK hP 0 XW_0 rfl 8 (by decide) (hts _ tm_1_109) (fun _ h9 => h9) rfl dX5_put_50 ?_
        refine vWrV (b := (q 3)) (As := [.int now, .int rains]) (rest := []) hF (c_X0_remember l D cI cZ q now rains length poles parts plain key stair air acnt tcnt letters cells kinds frames rainsB abouts stoods kept keptF keptR seed now rains) (gdV tm_2_28 tm_2_29 tm_2_30 tm_1_4 tm_2_31) de_X0_remember ⟨Nat.le_of_ble_eq_true rfl, Nat.le_of_ble_eq_true rfl⟩ hP hK (va_recv hK hP (ci := 0) (q0 := 3) rfl XW_3) hl.1 rfl (Nat.le_of_ble_eq_true rfl) dX5_put_53 ⟨Nat.zero_le _, Nat.zero_le _⟩ hD hS (fun H locs hP hS => ?_)
        have hP : va_P D vwCl (XW cI cZ q now rains length poles parts plain key stair air (f_X0_remember acnt frames rainsB now rains).1 tcnt letters cells kinds (f_X0_remember acnt frames rainsB now rains).2.1 (f_X0_remember acnt frames rainsB now rains).2.2 abouts stoods kept keptF keptR seed) H := hP
        have hD : va_D A (XW cI cZ q now rains length poles parts plain key stair air (f_X0_remember acnt frames rainsB now rains).1 tcnt letters cells kinds (f_X0_remember acnt frames rainsB now rains).2.1 (f_X0_remember acnt frames rainsB now rains).2.2 abouts stoods kept keptF keptR seed) := hD.same rfl
        refine lv_aload_n hx hb dX5_put_56 rfl (lv_at hl 0 rfl) ?_
        refine lv_aload_n hx hb dX5_put_57 rfl (lv_at hl 0 rfl) ?_
        refine va_get (D := D) (ci := 4) (v := .ref (q 2)) (C := RX5) (T := TX5) (N := 10) hx hb hts tbX5 hown hK hP 0 XW_0 rfl 1 (by decide) (hts _ tm_1_102) (fun _ h9 => h9) rfl dX5_put_58 ?_
        refine lv_aload_n hx hb dX5_put_61 rfl (lv_at hl 0 rfl) ?_
        refine va_get (D := D) (ci := 4) (v := .int now) (C := RX5) (T := TX5) (N := 10) hx hb hts tbX5 hown hK hP 0 XW_0 rfl 7 (by decide) (hts _ tm_1_108) (fun _ h9 => h9) rfl dX5_put_62 ?_
        refine lv_iload_n hx hb dX5_put_65 rfl (lv_at hl 1 rfl) ?_
        refine vRdI (b := (q 2)) (As := [.int now, .int a1]) (rest := [.ref (q 0)]) hF (c_X2_withPut l D cI cZ q poles parts plain key stair air cells kinds now a1) (gdV tm_2_36 tm_2_37 tm_2_38 tm_1_3 tm_2_39) de_X2_withPut ⟨Nat.le_of_ble_eq_true rfl, Nat.le_of_ble_eq_true rfl⟩ (XW_P hP) hK (va_recv hK hP (ci := 1) (q0 := 2) rfl XW_2) hl.1 rfl (Nat.le_of_ble_eq_true rfl) dX5_put_66 ⟨Nat.zero_le _, Nat.zero_le _⟩ ?_
        refine va_put (D := D) (ci := 4) (v := .int (f_X2_withPut plain key stair air now a1)) (ty := .int) (C := RX5) (T := TX5) (N := 10) hx hb hts tbX5 tyX5 tyX5_ok nmX5 hown hK hP hD hS 0 XW_0 rfl 7 (by decide) (hts _ tm_1_108) (fun _ h9 => h9) rfl (by decide +kernel) rfl rfl (Nat.le_of_ble_eq_true rfl) dX5_put_69 (fun H locs hP hD hS => ?_)
        have hP : va_P D vwCl (XW cI cZ q (f_X2_withPut plain key stair air now a1) rains length poles parts plain key stair air (f_X0_remember acnt frames rainsB now rains).1 tcnt letters cells kinds (f_X0_remember acnt frames rainsB now rains).2.1 (f_X0_remember acnt frames rainsB now rains).2.2 abouts stoods kept keptF keptR seed) H := hP
        have hD : va_D A (XW cI cZ q (f_X2_withPut plain key stair air now a1) rains length poles parts plain key stair air (f_X0_remember acnt frames rainsB now rains).1 tcnt letters cells kinds (f_X0_remember acnt frames rainsB now rains).2.1 (f_X0_remember acnt frames rainsB now rains).2.2 abouts stoods kept keptF keptR seed) := hD.same rfl
        refine lv_aload_n hx hb dX5_put_72 rfl (lv_at hl 0 rfl) ?_
        refine va_get (D := D) (ci := 4) (v := .int (f_X2_withPut plain key stair air now a1)) (C := RX5) (T := TX5) (N := 10) hx hb hts tbX5 hown hK hP 0 XW_0 rfl 7 (by decide) (hts _ tm_1_108) (fun _ h9 => h9) rfl dX5_put_73 ?_
        refine sRdI (As := [.int (f_X2_withPut plain key stair air now a1)]) (rest := []) hF (c_X1_countHad l D cI cZ q (f_X2_withPut plain key stair air now a1)) (gdS tm_2_48 tm_2_49 tm_1_8 tm_2_50) de_X1_countHad ⟨Nat.le_of_ble_eq_true rfl, Nat.le_of_ble_eq_true rfl⟩ va_P_nil hK hl.1 rfl (Nat.le_of_ble_eq_true rfl) dX5_put_76 ⟨Nat.zero_le _, Nat.zero_le _⟩ ?_
        subst hR
        exact fin _ _ _ _ dX5_put_79 (nar_i _) hP hS
      · rw [if_neg c_35] at hR
        refine lv_bipush (v := (-4 : Int32)) hx hb dX5_put_38 (by decide) ?_
        subst hR
        exact fin _ _ _ _ dX5_put_40 (nar_i _) hP hS
    · rw [if_pos c_20] at hR
      refine lv_bipush (v := (-3 : Int32)) hx hb dX5_put_23 (by decide) ?_
      subst hR
      exact fin _ _ _ _ dX5_put_25 (nar_i _) hP hS
  · rw [if_pos c_4] at hR
    refine lv_iconst (v := (-1 : Int32)) hx hb dX5_put_7 (by decide) ?_
    subst hR
    exact fin _ _ _ _ dX5_put_8 (nar_i _) hP hS
def f_X5_strike (now : Int32) (rains : Int32) (plain : Int32) (key : Int32) (stair : Int32) (air : Int32) (acnt : Int32) (frames : Nat → Int32) (rainsB : Nat → Int32) (a1 : Int32) : (Int32) × (Int32) × (Int32) × (Nat → Int32) × (Nat → Int32) := (if (f_X5_isColumn a1) = (0 : Int32) then ((-1 : Int32), now, acnt, frames, rainsB) else (if (f_X2_canStrike now a1) = (0 : Int32) then ((-3 : Int32), now, acnt, frames, rainsB) else (((f_X1_countHad now) - (f_X1_countHad (f_X2_withStruck plain key stair air now a1))), (f_X2_withStruck plain key stair air now a1), (f_X0_remember acnt frames rainsB now rains).1, (f_X0_remember acnt frames rainsB now rains).2.1, (f_X0_remember acnt frames rainsB now rains).2.2)))
set_option maxHeartbeats 4000000 in
set_option maxRecDepth 100000 in
theorem c_X5_strike (l : Launch) (D : va_G) (cI cZ : ClassId) (q : Nat → Nat) (now rains length poles parts plain key stair air acnt tcnt : Int32) (letters cells kinds frames rainsB abouts stoods kept keptF keptR : Nat → Int32) (seed : Int64) (a1 : Int32) : WrI l yX5_strike cX5_strike 3 .int 3 73 D (tyL cI cZ) (XW cI cZ q now rains length poles parts plain key stair air acnt tcnt letters cells kinds frames rainsB abouts stoods kept keptF keptR seed) [.ref (q 0), .int a1] (f_X5_strike now rains plain key stair air acnt frames rainsB a1).1 (XW cI cZ q (f_X5_strike now rains plain key stair air acnt frames rainsB a1).2.1 rains length poles parts plain key stair air (f_X5_strike now rains plain key stair air acnt frames rainsB a1).2.2.1 tcnt letters cells kinds (f_X5_strike now rains plain key stair air acnt frames rainsB a1).2.2.2.1 (f_X5_strike now rains plain key stair air acnt frames rainsB a1).2.2.2.2 abouts stoods kept keptF keptR seed) := by
  refine WrI.of (by decide) (Nat.le_of_ble_eq_true rfl) ?_
  intro p e s m args below meth c Q A hx hb hml hown hts hP hK hD hS fin ls hl
  have hown : s.vm.findClass RX5 = some m.cls := hown
  have hF : CallFix p m c cX5_strike 3 s args tb RX5 := ⟨hx, hb, hml, hown, hts⟩
  have hl : lv_has ls 3 [(0, .ref (q 0)), (1, .int a1)] := hl
  generalize hR : (f_X5_strike now rains plain key stair air acnt frames rainsB a1) = R at fin
  unfold f_X5_strike at hR
  refine lv_iload_n hx hb dX5_strike_0 rfl (lv_at hl 1 rfl) ?_
  refine sRdI (As := [.int a1]) (rest := []) hF (c_X5_isColumn l D cI cZ q a1) (gdS tm_2_8 tm_2_9 tm_1_1 tm_2_10) de_X5_isColumn ⟨Nat.le_of_ble_eq_true rfl, Nat.le_of_ble_eq_true rfl⟩ va_P_nil hK hl.1 rfl (Nat.le_of_ble_eq_true rfl) dX5_strike_1 ⟨Nat.zero_le _, Nat.zero_le _⟩ ?_
  refine lv_if_ne (tgt := 9) hx hb dX5_strike_4 (by decide) (fun c_4 => ?_) (fun c_4 => ?_)
  · rw [if_neg c_4] at hR
    refine lv_aload_n hx hb dX5_strike_9 rfl (lv_at hl 0 rfl) ?_
    refine va_get (D := D) (ci := 4) (v := .ref (q 2)) (C := RX5) (T := TX5) (N := 10) hx hb hts tbX5 hown hK hP 0 XW_0 rfl 1 (by decide) (hts _ tm_1_102) (fun _ h9 => h9) rfl dX5_strike_10 ?_
    refine lv_aload_n hx hb dX5_strike_13 rfl (lv_at hl 0 rfl) ?_
    refine va_get (D := D) (ci := 4) (v := .int now) (C := RX5) (T := TX5) (N := 10) hx hb hts tbX5 hown hK hP 0 XW_0 rfl 7 (by decide) (hts _ tm_1_108) (fun _ h9 => h9) rfl dX5_strike_14 ?_
    refine lv_iload_n hx hb dX5_strike_17 rfl (lv_at hl 1 rfl) ?_
    refine vRdI (b := (q 2)) (As := [.int now, .int a1]) (rest := []) hF (c_X2_canStrike l D cI cZ q poles parts plain key stair air cells kinds now a1) (gdV tm_2_56 tm_2_57 tm_2_58 tm_1_3 tm_2_59) de_X2_canStrike ⟨Nat.le_of_ble_eq_true rfl, Nat.le_of_ble_eq_true rfl⟩ (XW_P hP) hK (va_recv hK hP (ci := 1) (q0 := 2) rfl XW_2) hl.1 rfl (Nat.le_of_ble_eq_true rfl) dX5_strike_18 ⟨Nat.zero_le _, Nat.zero_le _⟩ ?_
    refine lv_if_ne (tgt := 27) hx hb dX5_strike_21 (by decide) (fun c_21 => ?_) (fun c_21 => ?_)
    · rw [if_neg c_21] at hR
      refine lv_aload_n hx hb dX5_strike_27 rfl (lv_at hl 0 rfl) ?_
      refine va_get (D := D) (ci := 4) (v := .ref (q 3)) (C := RX5) (T := TX5) (N := 10) hx hb hts tbX5 hown hK hP 0 XW_0 rfl 2 (by decide) (hts _ tm_1_103) (fun _ h9 => h9) rfl dX5_strike_28 ?_
      refine lv_aload_n hx hb dX5_strike_31 rfl (lv_at hl 0 rfl) ?_
      refine va_get (D := D) (ci := 4) (v := .int now) (C := RX5) (T := TX5) (N := 10) hx hb hts tbX5 hown hK hP 0 XW_0 rfl 7 (by decide) (hts _ tm_1_108) (fun _ h9 => h9) rfl dX5_strike_32 ?_
      refine lv_aload_n hx hb dX5_strike_35 rfl (lv_at hl 0 rfl) ?_
      refine va_get (D := D) (ci := 4) (v := .int rains) (C := RX5) (T := TX5) (N := 10) hx hb hts tbX5 hown hK hP 0 XW_0 rfl 8 (by decide) (hts _ tm_1_109) (fun _ h9 => h9) rfl dX5_strike_36 ?_
      refine vWrV (b := (q 3)) (As := [.int now, .int rains]) (rest := []) hF (c_X0_remember l D cI cZ q now rains length poles parts plain key stair air acnt tcnt letters cells kinds frames rainsB abouts stoods kept keptF keptR seed now rains) (gdV tm_2_28 tm_2_29 tm_2_30 tm_1_4 tm_2_31) de_X0_remember ⟨Nat.le_of_ble_eq_true rfl, Nat.le_of_ble_eq_true rfl⟩ hP hK (va_recv hK hP (ci := 0) (q0 := 3) rfl XW_3) hl.1 rfl (Nat.le_of_ble_eq_true rfl) dX5_strike_39 ⟨Nat.zero_le _, Nat.zero_le _⟩ hD hS (fun H locs hP hS => ?_)
      have hP : va_P D vwCl (XW cI cZ q now rains length poles parts plain key stair air (f_X0_remember acnt frames rainsB now rains).1 tcnt letters cells kinds (f_X0_remember acnt frames rainsB now rains).2.1 (f_X0_remember acnt frames rainsB now rains).2.2 abouts stoods kept keptF keptR seed) H := hP
      have hD : va_D A (XW cI cZ q now rains length poles parts plain key stair air (f_X0_remember acnt frames rainsB now rains).1 tcnt letters cells kinds (f_X0_remember acnt frames rainsB now rains).2.1 (f_X0_remember acnt frames rainsB now rains).2.2 abouts stoods kept keptF keptR seed) := hD.same rfl
      refine lv_aload_n hx hb dX5_strike_42 rfl (lv_at hl 0 rfl) ?_
      refine va_get (D := D) (ci := 4) (v := .int now) (C := RX5) (T := TX5) (N := 10) hx hb hts tbX5 hown hK hP 0 XW_0 rfl 7 (by decide) (hts _ tm_1_108) (fun _ h9 => h9) rfl dX5_strike_43 ?_
      refine sRdI (As := [.int now]) (rest := []) hF (c_X1_countHad l D cI cZ q now) (gdS tm_2_48 tm_2_49 tm_1_8 tm_2_50) de_X1_countHad ⟨Nat.le_of_ble_eq_true rfl, Nat.le_of_ble_eq_true rfl⟩ va_P_nil hK hl.1 rfl (Nat.le_of_ble_eq_true rfl) dX5_strike_46 ⟨Nat.zero_le _, Nat.zero_le _⟩ ?_
      refine lv_istore_n (lv' := [(2, .int (f_X1_countHad now)), (0, .ref (q 0)), (1, .int a1)]) hx hb dX5_strike_49 rfl hl (by decide) rfl (fun ls hl => ?_)
      refine lv_aload_n hx hb dX5_strike_50 rfl (lv_at hl 1 rfl) ?_
      refine lv_aload_n hx hb dX5_strike_51 rfl (lv_at hl 1 rfl) ?_
      refine va_get (D := D) (ci := 4) (v := .ref (q 2)) (C := RX5) (T := TX5) (N := 10) hx hb hts tbX5 hown hK hP 0 XW_0 rfl 1 (by decide) (hts _ tm_1_102) (fun _ h9 => h9) rfl dX5_strike_52 ?_
      refine lv_aload_n hx hb dX5_strike_55 rfl (lv_at hl 1 rfl) ?_
      refine va_get (D := D) (ci := 4) (v := .int now) (C := RX5) (T := TX5) (N := 10) hx hb hts tbX5 hown hK hP 0 XW_0 rfl 7 (by decide) (hts _ tm_1_108) (fun _ h9 => h9) rfl dX5_strike_56 ?_
      refine lv_iload_n hx hb dX5_strike_59 rfl (lv_at hl 2 rfl) ?_
      refine vRdI (b := (q 2)) (As := [.int now, .int a1]) (rest := [.ref (q 0)]) hF (c_X2_withStruck l D cI cZ q poles parts plain key stair air cells kinds now a1) (gdV tm_2_60 tm_2_61 tm_2_62 tm_1_3 tm_2_63) de_X2_withStruck ⟨Nat.le_of_ble_eq_true rfl, Nat.le_of_ble_eq_true rfl⟩ (XW_P hP) hK (va_recv hK hP (ci := 1) (q0 := 2) rfl XW_2) hl.1 rfl (Nat.le_of_ble_eq_true rfl) dX5_strike_60 ⟨Nat.zero_le _, Nat.zero_le _⟩ ?_
      refine va_put (D := D) (ci := 4) (v := .int (f_X2_withStruck plain key stair air now a1)) (ty := .int) (C := RX5) (T := TX5) (N := 10) hx hb hts tbX5 tyX5 tyX5_ok nmX5 hown hK hP hD hS 0 XW_0 rfl 7 (by decide) (hts _ tm_1_108) (fun _ h9 => h9) rfl (by decide +kernel) rfl rfl (Nat.le_of_ble_eq_true rfl) dX5_strike_63 (fun H locs hP hD hS => ?_)
      have hP : va_P D vwCl (XW cI cZ q (f_X2_withStruck plain key stair air now a1) rains length poles parts plain key stair air (f_X0_remember acnt frames rainsB now rains).1 tcnt letters cells kinds (f_X0_remember acnt frames rainsB now rains).2.1 (f_X0_remember acnt frames rainsB now rains).2.2 abouts stoods kept keptF keptR seed) H := hP
      have hD : va_D A (XW cI cZ q (f_X2_withStruck plain key stair air now a1) rains length poles parts plain key stair air (f_X0_remember acnt frames rainsB now rains).1 tcnt letters cells kinds (f_X0_remember acnt frames rainsB now rains).2.1 (f_X0_remember acnt frames rainsB now rains).2.2 abouts stoods kept keptF keptR seed) := hD.same rfl
      refine lv_iload_n hx hb dX5_strike_66 rfl (lv_at hl 0 rfl) ?_
      refine lv_aload_n hx hb dX5_strike_67 rfl (lv_at hl 1 rfl) ?_
      refine va_get (D := D) (ci := 4) (v := .int (f_X2_withStruck plain key stair air now a1)) (C := RX5) (T := TX5) (N := 10) hx hb hts tbX5 hown hK hP 0 XW_0 rfl 7 (by decide) (hts _ tm_1_108) (fun _ h9 => h9) rfl dX5_strike_68 ?_
      refine sRdI (As := [.int (f_X2_withStruck plain key stair air now a1)]) (rest := [.int (f_X1_countHad now)]) hF (c_X1_countHad l D cI cZ q (f_X2_withStruck plain key stair air now a1)) (gdS tm_2_48 tm_2_49 tm_1_8 tm_2_50) de_X1_countHad ⟨Nat.le_of_ble_eq_true rfl, Nat.le_of_ble_eq_true rfl⟩ va_P_nil hK hl.1 rfl (Nat.le_of_ble_eq_true rfl) dX5_strike_71 ⟨Nat.zero_le _, Nat.zero_le _⟩ ?_
      refine lv_isub hx hb dX5_strike_74 ?_
      subst hR
      exact fin _ _ _ _ dX5_strike_75 (nar_i _) hP hS
    · rw [if_pos c_21] at hR
      refine lv_bipush (v := (-3 : Int32)) hx hb dX5_strike_24 (by decide) ?_
      subst hR
      exact fin _ _ _ _ dX5_strike_26 (nar_i _) hP hS
  · rw [if_pos c_4] at hR
    refine lv_iconst (v := (-1 : Int32)) hx hb dX5_strike_7 (by decide) ?_
    subst hR
    exact fin _ _ _ _ dX5_strike_8 (nar_i _) hP hS
def f_X5_rain (now : Int32) (rains : Int32) (plain : Int32) (key : Int32) (stair : Int32) (air : Int32) (acnt : Int32) (frames : Nat → Int32) (rainsB : Nat → Int32) : (Int32) × (Int32) × (Int32) × (Int32) × (Nat → Int32) × (Nat → Int32) := (((f_X1_countHad now) - (f_X1_countHad (f_X2_withRain plain key stair air now))), (f_X2_withRain plain key stair air now), (rains + (1 : Int32)), (f_X0_remember acnt frames rainsB now rains).1, (f_X0_remember acnt frames rainsB now rains).2.1, (f_X0_remember acnt frames rainsB now rains).2.2)
set_option maxHeartbeats 4000000 in
set_option maxRecDepth 100000 in
theorem c_X5_rain (l : Launch) (D : va_G) (cI cZ : ClassId) (q : Nat → Nat) (now rains length poles parts plain key stair air acnt tcnt : Int32) (letters cells kinds frames rainsB abouts stoods kept keptF keptR : Nat → Int32) (seed : Int64) : WrI l yX5_rain cX5_rain 2 .int 3 72 D (tyL cI cZ) (XW cI cZ q now rains length poles parts plain key stair air acnt tcnt letters cells kinds frames rainsB abouts stoods kept keptF keptR seed) [.ref (q 0)] (f_X5_rain now rains plain key stair air acnt frames rainsB).1 (XW cI cZ q (f_X5_rain now rains plain key stair air acnt frames rainsB).2.1 (f_X5_rain now rains plain key stair air acnt frames rainsB).2.2.1 length poles parts plain key stair air (f_X5_rain now rains plain key stair air acnt frames rainsB).2.2.2.1 tcnt letters cells kinds (f_X5_rain now rains plain key stair air acnt frames rainsB).2.2.2.2.1 (f_X5_rain now rains plain key stair air acnt frames rainsB).2.2.2.2.2 abouts stoods kept keptF keptR seed) := by
  refine WrI.of (by decide) (Nat.le_of_ble_eq_true rfl) ?_
  intro p e s m args below meth c Q A hx hb hml hown hts hP hK hD hS fin ls hl
  have hown : s.vm.findClass RX5 = some m.cls := hown
  have hF : CallFix p m c cX5_rain 2 s args tb RX5 := ⟨hx, hb, hml, hown, hts⟩
  have hl : lv_has ls 2 [(0, .ref (q 0))] := hl
  generalize hR : (f_X5_rain now rains plain key stair air acnt frames rainsB) = R at fin
  unfold f_X5_rain at hR
  refine lv_aload_n hx hb dX5_rain_0 rfl (lv_at hl 0 rfl) ?_
  refine va_get (D := D) (ci := 4) (v := .ref (q 3)) (C := RX5) (T := TX5) (N := 10) hx hb hts tbX5 hown hK hP 0 XW_0 rfl 2 (by decide) (hts _ tm_1_103) (fun _ h9 => h9) rfl dX5_rain_1 ?_
  refine lv_aload_n hx hb dX5_rain_4 rfl (lv_at hl 0 rfl) ?_
  refine va_get (D := D) (ci := 4) (v := .int now) (C := RX5) (T := TX5) (N := 10) hx hb hts tbX5 hown hK hP 0 XW_0 rfl 7 (by decide) (hts _ tm_1_108) (fun _ h9 => h9) rfl dX5_rain_5 ?_
  refine lv_aload_n hx hb dX5_rain_8 rfl (lv_at hl 0 rfl) ?_
  refine va_get (D := D) (ci := 4) (v := .int rains) (C := RX5) (T := TX5) (N := 10) hx hb hts tbX5 hown hK hP 0 XW_0 rfl 8 (by decide) (hts _ tm_1_109) (fun _ h9 => h9) rfl dX5_rain_9 ?_
  refine vWrV (b := (q 3)) (As := [.int now, .int rains]) (rest := []) hF (c_X0_remember l D cI cZ q now rains length poles parts plain key stair air acnt tcnt letters cells kinds frames rainsB abouts stoods kept keptF keptR seed now rains) (gdV tm_2_28 tm_2_29 tm_2_30 tm_1_4 tm_2_31) de_X0_remember ⟨Nat.le_of_ble_eq_true rfl, Nat.le_of_ble_eq_true rfl⟩ hP hK (va_recv hK hP (ci := 0) (q0 := 3) rfl XW_3) hl.1 rfl (Nat.le_of_ble_eq_true rfl) dX5_rain_12 ⟨Nat.zero_le _, Nat.zero_le _⟩ hD hS (fun H locs hP hS => ?_)
  have hP : va_P D vwCl (XW cI cZ q now rains length poles parts plain key stair air (f_X0_remember acnt frames rainsB now rains).1 tcnt letters cells kinds (f_X0_remember acnt frames rainsB now rains).2.1 (f_X0_remember acnt frames rainsB now rains).2.2 abouts stoods kept keptF keptR seed) H := hP
  have hD : va_D A (XW cI cZ q now rains length poles parts plain key stair air (f_X0_remember acnt frames rainsB now rains).1 tcnt letters cells kinds (f_X0_remember acnt frames rainsB now rains).2.1 (f_X0_remember acnt frames rainsB now rains).2.2 abouts stoods kept keptF keptR seed) := hD.same rfl
  refine lv_aload_n hx hb dX5_rain_15 rfl (lv_at hl 0 rfl) ?_
  refine va_get (D := D) (ci := 4) (v := .int now) (C := RX5) (T := TX5) (N := 10) hx hb hts tbX5 hown hK hP 0 XW_0 rfl 7 (by decide) (hts _ tm_1_108) (fun _ h9 => h9) rfl dX5_rain_16 ?_
  refine sRdI (As := [.int now]) (rest := []) hF (c_X1_countHad l D cI cZ q now) (gdS tm_2_48 tm_2_49 tm_1_8 tm_2_50) de_X1_countHad ⟨Nat.le_of_ble_eq_true rfl, Nat.le_of_ble_eq_true rfl⟩ va_P_nil hK hl.1 rfl (Nat.le_of_ble_eq_true rfl) dX5_rain_19 ⟨Nat.zero_le _, Nat.zero_le _⟩ ?_
  refine lv_istore_n (lv' := [(1, .int (f_X1_countHad now)), (0, .ref (q 0))]) hx hb dX5_rain_22 rfl hl (by decide) rfl (fun ls hl => ?_)
  refine lv_aload_n hx hb dX5_rain_23 rfl (lv_at hl 1 rfl) ?_
  refine lv_aload_n hx hb dX5_rain_24 rfl (lv_at hl 1 rfl) ?_
  refine va_get (D := D) (ci := 4) (v := .ref (q 2)) (C := RX5) (T := TX5) (N := 10) hx hb hts tbX5 hown hK hP 0 XW_0 rfl 1 (by decide) (hts _ tm_1_102) (fun _ h9 => h9) rfl dX5_rain_25 ?_
  refine lv_aload_n hx hb dX5_rain_28 rfl (lv_at hl 1 rfl) ?_
  refine va_get (D := D) (ci := 4) (v := .int now) (C := RX5) (T := TX5) (N := 10) hx hb hts tbX5 hown hK hP 0 XW_0 rfl 7 (by decide) (hts _ tm_1_108) (fun _ h9 => h9) rfl dX5_rain_29 ?_
  refine vRdI (b := (q 2)) (As := [.int now]) (rest := [.ref (q 0)]) hF (c_X2_withRain l D cI cZ q poles parts plain key stair air cells kinds now) (gdV tm_2_69 tm_2_70 tm_2_71 tm_1_3 tm_2_72) de_X2_withRain ⟨Nat.le_of_ble_eq_true rfl, Nat.le_of_ble_eq_true rfl⟩ (XW_P hP) hK (va_recv hK hP (ci := 1) (q0 := 2) rfl XW_2) hl.1 rfl (Nat.le_of_ble_eq_true rfl) dX5_rain_32 ⟨Nat.zero_le _, Nat.zero_le _⟩ ?_
  refine va_put (D := D) (ci := 4) (v := .int (f_X2_withRain plain key stair air now)) (ty := .int) (C := RX5) (T := TX5) (N := 10) hx hb hts tbX5 tyX5 tyX5_ok nmX5 hown hK hP hD hS 0 XW_0 rfl 7 (by decide) (hts _ tm_1_108) (fun _ h9 => h9) rfl (by decide +kernel) rfl rfl (Nat.le_of_ble_eq_true rfl) dX5_rain_35 (fun H locs hP hD hS => ?_)
  have hP : va_P D vwCl (XW cI cZ q (f_X2_withRain plain key stair air now) rains length poles parts plain key stair air (f_X0_remember acnt frames rainsB now rains).1 tcnt letters cells kinds (f_X0_remember acnt frames rainsB now rains).2.1 (f_X0_remember acnt frames rainsB now rains).2.2 abouts stoods kept keptF keptR seed) H := hP
  have hD : va_D A (XW cI cZ q (f_X2_withRain plain key stair air now) rains length poles parts plain key stair air (f_X0_remember acnt frames rainsB now rains).1 tcnt letters cells kinds (f_X0_remember acnt frames rainsB now rains).2.1 (f_X0_remember acnt frames rainsB now rains).2.2 abouts stoods kept keptF keptR seed) := hD.same rfl
  refine lv_aload_n hx hb dX5_rain_38 rfl (lv_at hl 1 rfl) ?_
  refine lv_dup hx hb dX5_rain_39 rfl ?_
  refine va_get (D := D) (ci := 4) (v := .int rains) (C := RX5) (T := TX5) (N := 10) hx hb hts tbX5 hown hK hP 0 XW_0 rfl 8 (by decide) (hts _ tm_1_109) (fun _ h9 => h9) rfl dX5_rain_40 ?_
  refine lv_iconst (v := (1 : Int32)) hx hb dX5_rain_43 (by decide) ?_
  refine lv_iadd hx hb dX5_rain_44 ?_
  refine va_put (D := D) (ci := 4) (v := .int (rains + (1 : Int32))) (ty := .int) (C := RX5) (T := TX5) (N := 10) hx hb hts tbX5 tyX5 tyX5_ok nmX5 hown hK hP hD hS 0 XW_0 rfl 8 (by decide) (hts _ tm_1_109) (fun _ h9 => h9) rfl (by decide +kernel) rfl rfl (Nat.le_of_ble_eq_true rfl) dX5_rain_45 (fun H locs hP hD hS => ?_)
  have hP : va_P D vwCl (XW cI cZ q (f_X2_withRain plain key stair air now) (rains + (1 : Int32)) length poles parts plain key stair air (f_X0_remember acnt frames rainsB now rains).1 tcnt letters cells kinds (f_X0_remember acnt frames rainsB now rains).2.1 (f_X0_remember acnt frames rainsB now rains).2.2 abouts stoods kept keptF keptR seed) H := hP
  have hD : va_D A (XW cI cZ q (f_X2_withRain plain key stair air now) (rains + (1 : Int32)) length poles parts plain key stair air (f_X0_remember acnt frames rainsB now rains).1 tcnt letters cells kinds (f_X0_remember acnt frames rainsB now rains).2.1 (f_X0_remember acnt frames rainsB now rains).2.2 abouts stoods kept keptF keptR seed) := hD.same rfl
  refine lv_iload_n hx hb dX5_rain_48 rfl (lv_at hl 0 rfl) ?_
  refine lv_aload_n hx hb dX5_rain_49 rfl (lv_at hl 1 rfl) ?_
  refine va_get (D := D) (ci := 4) (v := .int (f_X2_withRain plain key stair air now)) (C := RX5) (T := TX5) (N := 10) hx hb hts tbX5 hown hK hP 0 XW_0 rfl 7 (by decide) (hts _ tm_1_108) (fun _ h9 => h9) rfl dX5_rain_50 ?_
  refine sRdI (As := [.int (f_X2_withRain plain key stair air now)]) (rest := [.int (f_X1_countHad now)]) hF (c_X1_countHad l D cI cZ q (f_X2_withRain plain key stair air now)) (gdS tm_2_48 tm_2_49 tm_1_8 tm_2_50) de_X1_countHad ⟨Nat.le_of_ble_eq_true rfl, Nat.le_of_ble_eq_true rfl⟩ va_P_nil hK hl.1 rfl (Nat.le_of_ble_eq_true rfl) dX5_rain_53 ⟨Nat.zero_le _, Nat.zero_le _⟩ ?_
  refine lv_isub hx hb dX5_rain_56 ?_
  subst hR
  exact fin _ _ _ _ dX5_rain_57 (nar_i _) hP hS
def f_X5_undo (now : Int32) (rains : Int32) (acnt : Int32) (frames : Nat → Int32) (rainsB : Nat → Int32) : (Int32) × (Int32) × (Int32) × (Int32) := (if acnt = (0 : Int32) then ((-3 : Int32), now, rains, acnt) else ((acnt - (1 : Int32)), (f_X0_lastFrame acnt frames), (f_X0_lastRains acnt rainsB), (acnt - (1 : Int32))))
set_option maxHeartbeats 4000000 in
set_option maxRecDepth 100000 in
theorem c_X5_undo (l : Launch) (D : va_G) (cI cZ : ClassId) (q : Nat → Nat) (now rains length poles parts plain key stair air acnt tcnt : Int32) (letters cells kinds frames rainsB abouts stoods kept keptF keptR : Nat → Int32) (seed : Int64) : WrI l yX5_undo cX5_undo 1 .int 1 20 D (tyL cI cZ) (XW cI cZ q now rains length poles parts plain key stair air acnt tcnt letters cells kinds frames rainsB abouts stoods kept keptF keptR seed) [.ref (q 0)] (f_X5_undo now rains acnt frames rainsB).1 (XW cI cZ q (f_X5_undo now rains acnt frames rainsB).2.1 (f_X5_undo now rains acnt frames rainsB).2.2.1 length poles parts plain key stair air (f_X5_undo now rains acnt frames rainsB).2.2.2 tcnt letters cells kinds frames rainsB abouts stoods kept keptF keptR seed) := by
  refine WrI.of (by decide) (Nat.le_of_ble_eq_true rfl) ?_
  intro p e s m args below meth c Q A hx hb hml hown hts hP hK hD hS fin ls hl
  have hown : s.vm.findClass RX5 = some m.cls := hown
  have hF : CallFix p m c cX5_undo 1 s args tb RX5 := ⟨hx, hb, hml, hown, hts⟩
  have hl : lv_has ls 1 [(0, .ref (q 0))] := hl
  generalize hR : (f_X5_undo now rains acnt frames rainsB) = R at fin
  unfold f_X5_undo at hR
  refine lv_aload_n hx hb dX5_undo_0 rfl (lv_at hl 0 rfl) ?_
  refine va_get (D := D) (ci := 4) (v := .ref (q 3)) (C := RX5) (T := TX5) (N := 10) hx hb hts tbX5 hown hK hP 0 XW_0 rfl 2 (by decide) (hts _ tm_1_103) (fun _ h9 => h9) rfl dX5_undo_1 ?_
  refine va_get (D := D) (ci := 0) (v := .int acnt) (C := RX0) (T := TX0) (N := 3) hx hb hts tbX0 hown hK hP 3 XW_3 rfl 2 (by decide) (hts _ tm_1_75) (fun _ h9 => h9) rfl dX5_undo_4 ?_
  refine lv_if_ne (tgt := 13) hx hb dX5_undo_7 (by decide) (fun c_7 => ?_) (fun c_7 => ?_)
  · rw [if_neg c_7] at hR
    refine lv_aload_n hx hb dX5_undo_13 rfl (lv_at hl 0 rfl) ?_
    refine lv_aload_n hx hb dX5_undo_14 rfl (lv_at hl 0 rfl) ?_
    refine va_get (D := D) (ci := 4) (v := .ref (q 3)) (C := RX5) (T := TX5) (N := 10) hx hb hts tbX5 hown hK hP 0 XW_0 rfl 2 (by decide) (hts _ tm_1_103) (fun _ h9 => h9) rfl dX5_undo_15 ?_
    refine vRdI (b := (q 3)) (As := []) (rest := [.ref (q 0)]) hF (c_X0_lastFrame l D cI cZ q acnt frames rainsB) (gdV tm_2_77 tm_2_78 tm_2_79 tm_1_4 tm_2_80) de_X0_lastFrame ⟨Nat.le_of_ble_eq_true rfl, Nat.le_of_ble_eq_true rfl⟩ (XW_A hP) hK (va_recv hK hP (ci := 0) (q0 := 3) rfl XW_3) hl.1 rfl (Nat.le_of_ble_eq_true rfl) dX5_undo_18 ⟨Nat.zero_le _, Nat.zero_le _⟩ ?_
    refine va_put (D := D) (ci := 4) (v := .int (f_X0_lastFrame acnt frames)) (ty := .int) (C := RX5) (T := TX5) (N := 10) hx hb hts tbX5 tyX5 tyX5_ok nmX5 hown hK hP hD hS 0 XW_0 rfl 7 (by decide) (hts _ tm_1_108) (fun _ h9 => h9) rfl (by decide +kernel) rfl rfl (Nat.le_of_ble_eq_true rfl) dX5_undo_21 (fun H locs hP hD hS => ?_)
    have hP : va_P D vwCl (XW cI cZ q (f_X0_lastFrame acnt frames) rains length poles parts plain key stair air acnt tcnt letters cells kinds frames rainsB abouts stoods kept keptF keptR seed) H := hP
    have hD : va_D A (XW cI cZ q (f_X0_lastFrame acnt frames) rains length poles parts plain key stair air acnt tcnt letters cells kinds frames rainsB abouts stoods kept keptF keptR seed) := hD.same rfl
    refine lv_aload_n hx hb dX5_undo_24 rfl (lv_at hl 0 rfl) ?_
    refine lv_aload_n hx hb dX5_undo_25 rfl (lv_at hl 0 rfl) ?_
    refine va_get (D := D) (ci := 4) (v := .ref (q 3)) (C := RX5) (T := TX5) (N := 10) hx hb hts tbX5 hown hK hP 0 XW_0 rfl 2 (by decide) (hts _ tm_1_103) (fun _ h9 => h9) rfl dX5_undo_26 ?_
    refine vRdI (b := (q 3)) (As := []) (rest := [.ref (q 0)]) hF (c_X0_lastRains l D cI cZ q acnt frames rainsB) (gdV tm_2_81 tm_2_82 tm_2_83 tm_1_4 tm_2_84) de_X0_lastRains ⟨Nat.le_of_ble_eq_true rfl, Nat.le_of_ble_eq_true rfl⟩ (XW_A hP) hK (va_recv hK hP (ci := 0) (q0 := 3) rfl XW_3) hl.1 rfl (Nat.le_of_ble_eq_true rfl) dX5_undo_29 ⟨Nat.zero_le _, Nat.zero_le _⟩ ?_
    refine va_put (D := D) (ci := 4) (v := .int (f_X0_lastRains acnt rainsB)) (ty := .int) (C := RX5) (T := TX5) (N := 10) hx hb hts tbX5 tyX5 tyX5_ok nmX5 hown hK hP hD hS 0 XW_0 rfl 8 (by decide) (hts _ tm_1_109) (fun _ h9 => h9) rfl (by decide +kernel) rfl rfl (Nat.le_of_ble_eq_true rfl) dX5_undo_32 (fun H locs hP hD hS => ?_)
    have hP : va_P D vwCl (XW cI cZ q (f_X0_lastFrame acnt frames) (f_X0_lastRains acnt rainsB) length poles parts plain key stair air acnt tcnt letters cells kinds frames rainsB abouts stoods kept keptF keptR seed) H := hP
    have hD : va_D A (XW cI cZ q (f_X0_lastFrame acnt frames) (f_X0_lastRains acnt rainsB) length poles parts plain key stair air acnt tcnt letters cells kinds frames rainsB abouts stoods kept keptF keptR seed) := hD.same rfl
    refine lv_aload_n hx hb dX5_undo_35 rfl (lv_at hl 0 rfl) ?_
    refine va_get (D := D) (ci := 4) (v := .ref (q 3)) (C := RX5) (T := TX5) (N := 10) hx hb hts tbX5 hown hK hP 0 XW_0 rfl 2 (by decide) (hts _ tm_1_103) (fun _ h9 => h9) rfl dX5_undo_36 ?_
    refine lv_dup hx hb dX5_undo_39 rfl ?_
    refine va_get (D := D) (ci := 0) (v := .int acnt) (C := RX0) (T := TX0) (N := 3) hx hb hts tbX0 hown hK hP 3 XW_3 rfl 2 (by decide) (hts _ tm_1_75) (fun _ h9 => h9) rfl dX5_undo_40 ?_
    refine lv_iconst (v := (1 : Int32)) hx hb dX5_undo_43 (by decide) ?_
    refine lv_isub hx hb dX5_undo_44 ?_
    refine va_put (D := D) (ci := 0) (v := .int (acnt - (1 : Int32))) (ty := .int) (C := RX0) (T := TX0) (N := 3) hx hb hts tbX0 tyX0 tyX0_ok nmX0 hown hK hP hD hS 3 XW_3 rfl 2 (by decide) (hts _ tm_1_75) (fun _ h9 => h9) rfl (by decide +kernel) rfl rfl (Nat.le_of_ble_eq_true rfl) dX5_undo_45 (fun H locs hP hD hS => ?_)
    have hP : va_P D vwCl (XW cI cZ q (f_X0_lastFrame acnt frames) (f_X0_lastRains acnt rainsB) length poles parts plain key stair air (acnt - (1 : Int32)) tcnt letters cells kinds frames rainsB abouts stoods kept keptF keptR seed) H := hP
    have hD : va_D A (XW cI cZ q (f_X0_lastFrame acnt frames) (f_X0_lastRains acnt rainsB) length poles parts plain key stair air (acnt - (1 : Int32)) tcnt letters cells kinds frames rainsB abouts stoods kept keptF keptR seed) := hD.same rfl
    refine lv_aload_n hx hb dX5_undo_48 rfl (lv_at hl 0 rfl) ?_
    refine va_get (D := D) (ci := 4) (v := .ref (q 3)) (C := RX5) (T := TX5) (N := 10) hx hb hts tbX5 hown hK hP 0 XW_0 rfl 2 (by decide) (hts _ tm_1_103) (fun _ h9 => h9) rfl dX5_undo_49 ?_
    refine va_get (D := D) (ci := 0) (v := .int (acnt - (1 : Int32))) (C := RX0) (T := TX0) (N := 3) hx hb hts tbX0 hown hK hP 3 XW_3 rfl 2 (by decide) (hts _ tm_1_75) (fun _ h9 => h9) rfl dX5_undo_52 ?_
    subst hR
    exact fin _ _ _ _ dX5_undo_55 (nar_i _) hP hS
  · rw [if_pos c_7] at hR
    refine lv_bipush (v := (-3 : Int32)) hx hb dX5_undo_10 (by decide) ?_
    subst hR
    exact fin _ _ _ _ dX5_undo_12 (nar_i _) hP hS
def f_X5_loses (now : Int32) (plain : Int32) (key : Int32) (stair : Int32) (air : Int32) (cells : Nat → Int32) (a1 : Int32) : Int32 := (if (f_X5_isColumn a1) = (0 : Int32) then (-1 : Int32) else (if (f_X2_canStrike now a1) = (0 : Int32) then (-3 : Int32) else (f_X2_partsAt cells ((f_X1_had now) &&& ((f_X1_had (f_X2_withStruck plain key stair air now a1)) ^^^ (-1 : Int32))))))
set_option maxHeartbeats 4000000 in
set_option maxRecDepth 100000 in
theorem c_X5_loses (l : Launch) (D : va_G) (cI cZ : ClassId) (q : Nat → Nat) (now rains length poles parts plain key stair air acnt tcnt : Int32) (letters cells kinds frames rainsB abouts stoods kept keptF keptR : Nat → Int32) (seed : Int64) (a1 : Int32) : RdI l yX5_loses cX5_loses 3 .int 3 73 D (tyL cI cZ) (XW cI cZ q now rains length poles parts plain key stair air acnt tcnt letters cells kinds frames rainsB abouts stoods kept keptF keptR seed) [.ref (q 0), .int a1] (f_X5_loses now plain key stair air cells a1) := by
  refine RdI.of (by decide) (Nat.le_of_ble_eq_true rfl) ?_
  intro p e s m args below meth c Q hx hb hml hown hts hP hK fin ls hl
  have hown : s.vm.findClass RX5 = some m.cls := hown
  have hF : CallFix p m c cX5_loses 3 s args tb RX5 := ⟨hx, hb, hml, hown, hts⟩
  have hl : lv_has ls 3 [(0, .ref (q 0)), (1, .int a1)] := hl
  generalize hR : (f_X5_loses now plain key stair air cells a1) = R at fin
  unfold f_X5_loses at hR
  refine lv_iload_n hx hb dX5_loses_0 rfl (lv_at hl 1 rfl) ?_
  refine sRdI (As := [.int a1]) (rest := []) hF (c_X5_isColumn l D cI cZ q a1) (gdS tm_2_8 tm_2_9 tm_1_1 tm_2_10) de_X5_isColumn ⟨Nat.le_of_ble_eq_true rfl, Nat.le_of_ble_eq_true rfl⟩ va_P_nil hK hl.1 rfl (Nat.le_of_ble_eq_true rfl) dX5_loses_1 ⟨Nat.zero_le _, Nat.zero_le _⟩ ?_
  refine lv_if_ne (tgt := 9) hx hb dX5_loses_4 (by decide) (fun c_4 => ?_) (fun c_4 => ?_)
  · rw [if_neg c_4] at hR
    refine lv_aload_n hx hb dX5_loses_9 rfl (lv_at hl 0 rfl) ?_
    refine va_get (D := D) (ci := 4) (v := .ref (q 2)) (C := RX5) (T := TX5) (N := 10) hx hb hts tbX5 hown hK hP 0 XW_0 rfl 1 (by decide) (hts _ tm_1_102) (fun _ h9 => h9) rfl dX5_loses_10 ?_
    refine lv_aload_n hx hb dX5_loses_13 rfl (lv_at hl 0 rfl) ?_
    refine va_get (D := D) (ci := 4) (v := .int now) (C := RX5) (T := TX5) (N := 10) hx hb hts tbX5 hown hK hP 0 XW_0 rfl 7 (by decide) (hts _ tm_1_108) (fun _ h9 => h9) rfl dX5_loses_14 ?_
    refine lv_iload_n hx hb dX5_loses_17 rfl (lv_at hl 1 rfl) ?_
    refine vRdI (b := (q 2)) (As := [.int now, .int a1]) (rest := []) hF (c_X2_canStrike l D cI cZ q poles parts plain key stair air cells kinds now a1) (gdV tm_2_56 tm_2_57 tm_2_58 tm_1_3 tm_2_59) de_X2_canStrike ⟨Nat.le_of_ble_eq_true rfl, Nat.le_of_ble_eq_true rfl⟩ (XW_P hP) hK (va_recv hK hP (ci := 1) (q0 := 2) rfl XW_2) hl.1 rfl (Nat.le_of_ble_eq_true rfl) dX5_loses_18 ⟨Nat.zero_le _, Nat.zero_le _⟩ ?_
    refine lv_if_ne (tgt := 27) hx hb dX5_loses_21 (by decide) (fun c_21 => ?_) (fun c_21 => ?_)
    · rw [if_neg c_21] at hR
      refine lv_aload_n hx hb dX5_loses_27 rfl (lv_at hl 0 rfl) ?_
      refine va_get (D := D) (ci := 4) (v := .ref (q 2)) (C := RX5) (T := TX5) (N := 10) hx hb hts tbX5 hown hK hP 0 XW_0 rfl 1 (by decide) (hts _ tm_1_102) (fun _ h9 => h9) rfl dX5_loses_28 ?_
      refine lv_aload_n hx hb dX5_loses_31 rfl (lv_at hl 0 rfl) ?_
      refine va_get (D := D) (ci := 4) (v := .int now) (C := RX5) (T := TX5) (N := 10) hx hb hts tbX5 hown hK hP 0 XW_0 rfl 7 (by decide) (hts _ tm_1_108) (fun _ h9 => h9) rfl dX5_loses_32 ?_
      refine lv_iload_n hx hb dX5_loses_35 rfl (lv_at hl 1 rfl) ?_
      refine vRdI (b := (q 2)) (As := [.int now, .int a1]) (rest := []) hF (c_X2_withStruck l D cI cZ q poles parts plain key stair air cells kinds now a1) (gdV tm_2_60 tm_2_61 tm_2_62 tm_1_3 tm_2_63) de_X2_withStruck ⟨Nat.le_of_ble_eq_true rfl, Nat.le_of_ble_eq_true rfl⟩ (XW_P hP) hK (va_recv hK hP (ci := 1) (q0 := 2) rfl XW_2) hl.1 rfl (Nat.le_of_ble_eq_true rfl) dX5_loses_36 ⟨Nat.zero_le _, Nat.zero_le _⟩ ?_
      refine lv_istore_n (lv' := [(2, .int (f_X2_withStruck plain key stair air now a1)), (0, .ref (q 0)), (1, .int a1)]) hx hb dX5_loses_39 rfl hl (by decide) rfl (fun ls hl => ?_)
      refine lv_aload_n hx hb dX5_loses_40 rfl (lv_at hl 1 rfl) ?_
      refine va_get (D := D) (ci := 4) (v := .ref (q 2)) (C := RX5) (T := TX5) (N := 10) hx hb hts tbX5 hown hK hP 0 XW_0 rfl 1 (by decide) (hts _ tm_1_102) (fun _ h9 => h9) rfl dX5_loses_41 ?_
      refine lv_aload_n hx hb dX5_loses_44 rfl (lv_at hl 1 rfl) ?_
      refine va_get (D := D) (ci := 4) (v := .int now) (C := RX5) (T := TX5) (N := 10) hx hb hts tbX5 hown hK hP 0 XW_0 rfl 7 (by decide) (hts _ tm_1_108) (fun _ h9 => h9) rfl dX5_loses_45 ?_
      refine sRdI (As := [.int now]) (rest := [.ref (q 2)]) hF (c_X1_had l D cI cZ q now) (gdS tm_1_211 tm_1_212 tm_1_8 tm_1_213) de_X1_had ⟨Nat.le_of_ble_eq_true rfl, Nat.le_of_ble_eq_true rfl⟩ va_P_nil hK hl.1 rfl (Nat.le_of_ble_eq_true rfl) dX5_loses_48 ⟨Nat.zero_le _, Nat.zero_le _⟩ ?_
      refine lv_iload_n hx hb dX5_loses_51 rfl (lv_at hl 0 rfl) ?_
      refine sRdI (As := [.int (f_X2_withStruck plain key stair air now a1)]) (rest := [.int (f_X1_had now), .ref (q 2)]) hF (c_X1_had l D cI cZ q (f_X2_withStruck plain key stair air now a1)) (gdS tm_1_211 tm_1_212 tm_1_8 tm_1_213) de_X1_had ⟨Nat.le_of_ble_eq_true rfl, Nat.le_of_ble_eq_true rfl⟩ va_P_nil hK hl.1 rfl (Nat.le_of_ble_eq_true rfl) dX5_loses_52 ⟨Nat.zero_le _, Nat.zero_le _⟩ ?_
      refine lv_iconst (v := (-1 : Int32)) hx hb dX5_loses_55 (by decide) ?_
      refine lv_ixor hx hb dX5_loses_56 ?_
      refine lv_iand hx hb dX5_loses_57 ?_
      refine vRdI (b := (q 2)) (As := [.int ((f_X1_had now) &&& ((f_X1_had (f_X2_withStruck plain key stair air now a1)) ^^^ (-1 : Int32)))]) (rest := []) hF (c_X2_partsAt l D cI cZ q poles parts plain key stair air cells kinds ((f_X1_had now) &&& ((f_X1_had (f_X2_withStruck plain key stair air now a1)) ^^^ (-1 : Int32)))) (gdV tm_1_214 tm_1_215 tm_1_216 tm_1_3 tm_1_217) de_X2_partsAt ⟨Nat.le_of_ble_eq_true rfl, Nat.le_of_ble_eq_true rfl⟩ (XW_P hP) hK (va_recv hK hP (ci := 1) (q0 := 2) rfl XW_2) hl.1 rfl (Nat.le_of_ble_eq_true rfl) dX5_loses_58 ⟨Nat.zero_le _, Nat.zero_le _⟩ ?_
      subst hR
      exact fin _ _ dX5_loses_61 (nar_i _)
    · rw [if_pos c_21] at hR
      refine lv_bipush (v := (-3 : Int32)) hx hb dX5_loses_24 (by decide) ?_
      subst hR
      exact fin _ _ dX5_loses_26 (nar_i _)
  · rw [if_pos c_4] at hR
    refine lv_iconst (v := (-1 : Int32)) hx hb dX5_loses_7 (by decide) ?_
    subst hR
    exact fin _ _ dX5_loses_8 (nar_i _)
def f_X5_down_l16 (now : Int32) (plain : Int32) (key : Int32) (stair : Int32) (air : Int32) (a1 : Int32) : Nat → Nat → (Int32) → Int32
  | 0, i_16, fr16 => (f_X1_height fr16 a1)
  | d_16 + 1, i_16, fr16 => (if (f_X2_canStrike fr16 a1) = (0 : Int32) then (f_X1_height fr16 a1) else (if (f_X1_had (f_X2_withStruck plain key stair air fr16 a1)) = (f_X1_had now) then (f_X5_down_l16 now plain key stair air a1 d_16 (i_16 + 1) (f_X2_withStruck plain key stair air fr16 a1)) else (f_X1_height fr16 a1)))
theorem f_X5_down_l16_z {now : Int32} {plain : Int32} {key : Int32} {stair : Int32} {air : Int32} {a1 : Int32} {i_16 : Nat} {fr16 : Int32} : f_X5_down_l16 now plain key stair air a1 0 i_16 fr16 = (f_X1_height fr16 a1) := by rw [f_X5_down_l16]
theorem f_X5_down_l16_s {now : Int32} {plain : Int32} {key : Int32} {stair : Int32} {air : Int32} {a1 : Int32} {d_16 : Nat} {i_16 : Nat} {fr16 : Int32} : f_X5_down_l16 now plain key stair air a1 (d_16 + 1) i_16 fr16 = (if (f_X2_canStrike fr16 a1) = (0 : Int32) then (f_X1_height fr16 a1) else (if (f_X1_had (f_X2_withStruck plain key stair air fr16 a1)) = (f_X1_had now) then (f_X5_down_l16 now plain key stair air a1 d_16 (i_16 + 1) (f_X2_withStruck plain key stair air fr16 a1)) else (f_X1_height fr16 a1))) := by rw [f_X5_down_l16]
def f_X5_down (now : Int32) (plain : Int32) (key : Int32) (stair : Int32) (air : Int32) (a1 : Int32) : Int32 := (if (f_X5_isColumn a1) = (0 : Int32) then (-1 : Int32) else (f_X5_down_l16 now plain key stair air a1 4 0 now))
set_option maxHeartbeats 4000000 in
set_option maxRecDepth 100000 in
theorem c_X5_down (l : Launch) (D : va_G) (cI cZ : ClassId) (q : Nat → Nat) (now rains length poles parts plain key stair air acnt tcnt : Int32) (letters cells kinds frames rainsB abouts stoods kept keptF keptR : Nat → Int32) (seed : Int64) (a1 : Int32) : RdI l yX5_down cX5_down 5 .int 3 73 D (tyL cI cZ) (XW cI cZ q now rains length poles parts plain key stair air acnt tcnt letters cells kinds frames rainsB abouts stoods kept keptF keptR seed) [.ref (q 0), .int a1] (f_X5_down now plain key stair air a1) := by
  refine RdI.of (by decide) (Nat.le_of_ble_eq_true rfl) ?_
  intro p e s m args below meth c Q hx hb hml hown hts hP hK fin ls hl
  have hown : s.vm.findClass RX5 = some m.cls := hown
  have hF : CallFix p m c cX5_down 5 s args tb RX5 := ⟨hx, hb, hml, hown, hts⟩
  have hl : lv_has ls 5 [(0, .ref (q 0)), (1, .int a1)] := hl
  generalize hR : (f_X5_down now plain key stair air a1) = R at fin
  unfold f_X5_down at hR
  refine lv_iload_n hx hb dX5_down_0 rfl (lv_at hl 1 rfl) ?_
  refine sRdI (As := [.int a1]) (rest := []) hF (c_X5_isColumn l D cI cZ q a1) (gdS tm_2_8 tm_2_9 tm_1_1 tm_2_10) de_X5_isColumn ⟨Nat.le_of_ble_eq_true rfl, Nat.le_of_ble_eq_true rfl⟩ va_P_nil hK hl.1 rfl (Nat.le_of_ble_eq_true rfl) dX5_down_1 ⟨Nat.zero_le _, Nat.zero_le _⟩ ?_
  refine lv_if_ne (tgt := 9) hx hb dX5_down_4 (by decide) (fun c_4 => ?_) (fun c_4 => ?_)
  · rw [if_neg c_4] at hR
    refine lv_aload_n hx hb dX5_down_9 rfl (lv_at hl 0 rfl) ?_
    refine va_get (D := D) (ci := 4) (v := .int now) (C := RX5) (T := TX5) (N := 10) hx hb hts tbX5 hown hK hP 0 XW_0 rfl 7 (by decide) (hts _ tm_1_108) (fun _ h9 => h9) rfl dX5_down_10 ?_
    refine lv_istore_n (lv' := [(2, .int now), (0, .ref (q 0)), (1, .int a1)]) hx hb dX5_down_13 rfl hl (by decide) rfl (fun ls hl => ?_)
    refine lv_iconst (v := (0 : Int32)) hx hb dX5_down_14 (by decide) ?_
    refine lv_istore_n (lv' := [(3, .int (0 : Int32)), (2, .int now), (0, .ref (q 0)), (1, .int a1)]) hx hb dX5_down_15 rfl hl (by decide) rfl (fun ls hl => ?_)
    have key_16 : ∀ (d_16 i_16 : Nat) (fr16 : Int32) (ls : Array Slot), i_16 + d_16 = 4 → f_X5_down_l16 now plain key stair air a1 d_16 i_16 fr16 = R → lv_has ls 5 [(3, .int (nI i_16)), (2, .int fr16), (0, .ref (q 0)), (1, .int a1)] → W p l e (rmO 3 73) s m args below meth c s.heap [] 0 0 Q (F0 m 16 ls []) := by
      intro d_16
      induction d_16 with
      | zero =>
        intro i_16 fr16 ls hi_16 hR hl
        rw [f_X5_down_l16_z] at hR
        refine lv_iload_n hx hb dX5_down_16 rfl (lv_at hl 0 rfl) ?_
        refine lv_iconst (v := (4 : Int32)) hx hb dX5_down_17 (by decide) ?_
        refine lv_icmp_ge (tgt := 71) hx hb dX5_down_18 (by decide) (fun c_18 => ?_) (fun c_18 => absurd (nI_le (a := 4) (by omega) (by omega)) c_18)
        refine lv_iload_n hx hb dX5_down_71 rfl (lv_at hl 1 rfl) ?_
        refine lv_iload_n hx hb dX5_down_72 rfl (lv_at hl 3 rfl) ?_
        refine sRdI (As := [.int fr16, .int a1]) (rest := []) hF (c_X1_height l D cI cZ q fr16 a1) (gdS tm_2_11 tm_2_12 tm_1_8 tm_2_13) de_X1_height ⟨Nat.le_of_ble_eq_true rfl, Nat.le_of_ble_eq_true rfl⟩ va_P_nil hK hl.1 rfl (Nat.le_of_ble_eq_true rfl) dX5_down_73 ⟨Nat.zero_le _, Nat.zero_le _⟩ ?_
        subst hR
        exact fin _ _ dX5_down_76 (nar_i _)
      | succ d_16 ih_16 =>
        intro i_16 fr16 ls hi_16 hR hl
        rw [f_X5_down_l16_s] at hR
        refine lv_iload_n hx hb dX5_down_16 rfl (lv_at hl 0 rfl) ?_
        refine lv_iconst (v := (4 : Int32)) hx hb dX5_down_17 (by decide) ?_
        refine lv_icmp_ge (tgt := 71) hx hb dX5_down_18 (by decide) (fun c_18 => absurd c_18 (nI_ge (b := 4) (by omega) (by omega))) (fun c_18 => ?_)
        refine lv_aload_n hx hb dX5_down_21 rfl (lv_at hl 2 rfl) ?_
        refine va_get (D := D) (ci := 4) (v := .ref (q 2)) (C := RX5) (T := TX5) (N := 10) hx hb hts tbX5 hown hK hP 0 XW_0 rfl 1 (by decide) (hts _ tm_1_102) (fun _ h9 => h9) rfl dX5_down_22 ?_
        refine lv_iload_n hx hb dX5_down_25 rfl (lv_at hl 1 rfl) ?_
        refine lv_iload_n hx hb dX5_down_26 rfl (lv_at hl 3 rfl) ?_
        refine vRdI (b := (q 2)) (As := [.int fr16, .int a1]) (rest := []) hF (c_X2_canStrike l D cI cZ q poles parts plain key stair air cells kinds fr16 a1) (gdV tm_2_56 tm_2_57 tm_2_58 tm_1_3 tm_2_59) de_X2_canStrike ⟨Nat.le_of_ble_eq_true rfl, Nat.le_of_ble_eq_true rfl⟩ (XW_P hP) hK (va_recv hK hP (ci := 1) (q0 := 2) rfl XW_2) hl.1 rfl (Nat.le_of_ble_eq_true rfl) dX5_down_27 ⟨Nat.zero_le _, Nat.zero_le _⟩ ?_
        refine lv_if_eq (tgt := 71) hx hb dX5_down_30 (by decide) (fun c_30 => ?_) (fun c_30 => ?_)
        · rw [if_pos c_30] at hR
          refine lv_iload_n hx hb dX5_down_71 rfl (lv_at hl 1 rfl) ?_
          refine lv_iload_n hx hb dX5_down_72 rfl (lv_at hl 3 rfl) ?_
          refine sRdI (As := [.int fr16, .int a1]) (rest := []) hF (c_X1_height l D cI cZ q fr16 a1) (gdS tm_2_11 tm_2_12 tm_1_8 tm_2_13) de_X1_height ⟨Nat.le_of_ble_eq_true rfl, Nat.le_of_ble_eq_true rfl⟩ va_P_nil hK hl.1 rfl (Nat.le_of_ble_eq_true rfl) dX5_down_73 ⟨Nat.zero_le _, Nat.zero_le _⟩ ?_
          subst hR
          exact fin _ _ dX5_down_76 (nar_i _)
        · rw [if_neg c_30] at hR
          refine lv_aload_n hx hb dX5_down_33 rfl (lv_at hl 2 rfl) ?_
          refine va_get (D := D) (ci := 4) (v := .ref (q 2)) (C := RX5) (T := TX5) (N := 10) hx hb hts tbX5 hown hK hP 0 XW_0 rfl 1 (by decide) (hts _ tm_1_102) (fun _ h9 => h9) rfl dX5_down_34 ?_
          refine lv_iload_n hx hb dX5_down_37 rfl (lv_at hl 1 rfl) ?_
          refine lv_iload_n hx hb dX5_down_38 rfl (lv_at hl 3 rfl) ?_
          refine vRdI (b := (q 2)) (As := [.int fr16, .int a1]) (rest := []) hF (c_X2_withStruck l D cI cZ q poles parts plain key stair air cells kinds fr16 a1) (gdV tm_2_60 tm_2_61 tm_2_62 tm_1_3 tm_2_63) de_X2_withStruck ⟨Nat.le_of_ble_eq_true rfl, Nat.le_of_ble_eq_true rfl⟩ (XW_P hP) hK (va_recv hK hP (ci := 1) (q0 := 2) rfl XW_2) hl.1 rfl (Nat.le_of_ble_eq_true rfl) dX5_down_39 ⟨Nat.zero_le _, Nat.zero_le _⟩ ?_
          refine lv_istore (lv' := [(4, .int (f_X2_withStruck plain key stair air fr16 a1)), (3, .int (nI i_16)), (2, .int fr16), (0, .ref (q 0)), (1, .int a1)]) hx hb dX5_down_42 hl (by decide) rfl (fun ls hl => ?_)
          refine lv_iload hx hb dX5_down_44 (lv_at hl 0 rfl) ?_
          refine sRdI (As := [.int (f_X2_withStruck plain key stair air fr16 a1)]) (rest := []) hF (c_X1_had l D cI cZ q (f_X2_withStruck plain key stair air fr16 a1)) (gdS tm_1_211 tm_1_212 tm_1_8 tm_1_213) de_X1_had ⟨Nat.le_of_ble_eq_true rfl, Nat.le_of_ble_eq_true rfl⟩ va_P_nil hK hl.1 rfl (Nat.le_of_ble_eq_true rfl) dX5_down_46 ⟨Nat.zero_le _, Nat.zero_le _⟩ ?_
          refine lv_aload_n hx hb dX5_down_49 rfl (lv_at hl 3 rfl) ?_
          refine va_get (D := D) (ci := 4) (v := .int now) (C := RX5) (T := TX5) (N := 10) hx hb hts tbX5 hown hK hP 0 XW_0 rfl 7 (by decide) (hts _ tm_1_108) (fun _ h9 => h9) rfl dX5_down_50 ?_
          refine sRdI (As := [.int now]) (rest := [.int (f_X1_had (f_X2_withStruck plain key stair air fr16 a1))]) hF (c_X1_had l D cI cZ q now) (gdS tm_1_211 tm_1_212 tm_1_8 tm_1_213) de_X1_had ⟨Nat.le_of_ble_eq_true rfl, Nat.le_of_ble_eq_true rfl⟩ va_P_nil hK hl.1 rfl (Nat.le_of_ble_eq_true rfl) dX5_down_53 ⟨Nat.zero_le _, Nat.zero_le _⟩ ?_
          refine lv_icmp_eq (tgt := 62) hx hb dX5_down_56 (by decide) (fun c_56 => ?_) (fun c_56 => ?_)
          · rw [if_pos c_56] at hR
            refine lv_iload hx hb dX5_down_62 (lv_at hl 0 rfl) ?_
            refine lv_istore_n (lv' := [(2, .int (f_X2_withStruck plain key stair air fr16 a1)), (4, .int (f_X2_withStruck plain key stair air fr16 a1)), (3, .int (nI i_16)), (0, .ref (q 0)), (1, .int a1)]) hx hb dX5_down_64 rfl hl (by decide) rfl (fun ls hl => ?_)
            refine lv_iinc (v := (nI (i_16 + 1))) (lv' := [(3, .int (nI (i_16 + 1))), (2, .int (f_X2_withStruck plain key stair air fr16 a1)), (4, .int (f_X2_withStruck plain key stair air fr16 a1)), (0, .ref (q 0)), (1, .int a1)]) hx hb dX5_down_65 hl (k := 2) rfl (nI_up i_16) (by decide) rfl (fun ls hl => ?_)
            refine lv_goto (tgt := 16) hx hb dX5_down_68 (by decide) ?_
            exact ih_16 (i_16 + 1) (f_X2_withStruck plain key stair air fr16 a1) ls (by omega) hR (lv_sub hl [0, 1, 3, 4] rfl)
          · rw [if_neg c_56] at hR
            refine lv_goto (tgt := 71) hx hb dX5_down_59 (by decide) ?_
            refine lv_iload_n hx hb dX5_down_71 rfl (lv_at hl 2 rfl) ?_
            refine lv_iload_n hx hb dX5_down_72 rfl (lv_at hl 4 rfl) ?_
            refine sRdI (As := [.int fr16, .int a1]) (rest := []) hF (c_X1_height l D cI cZ q fr16 a1) (gdS tm_2_11 tm_2_12 tm_1_8 tm_2_13) de_X1_height ⟨Nat.le_of_ble_eq_true rfl, Nat.le_of_ble_eq_true rfl⟩ va_P_nil hK hl.1 rfl (Nat.le_of_ble_eq_true rfl) dX5_down_73 ⟨Nat.zero_le _, Nat.zero_le _⟩ ?_
            subst hR
            exact fin _ _ dX5_down_76 (nar_i _)
    exact key_16 4 0 now ls (by omega) hR (lv_sub hl [0, 1, 2, 3] rfl)
  · rw [if_pos c_4] at hR
    refine lv_iconst (v := (-1 : Int32)) hx hb dX5_down_7 (by decide) ?_
    subst hR
    exact fin _ _ dX5_down_8 (nar_i _)
