theorem de_X0_lastFrame : deOK yX0_lastFrame 0 := by decide +kernel
theorem de_X0_lastRains : deOK yX0_lastRains 0 := by decide +kernel
theorem de_X0_forgetFirst : deOK yX0_forgetFirst 0 := by decide +kernel
theorem de_X0_remember : deOK yX0_remember 2 := by decide +kernel
def f_X0_lastFrame (acnt : Int32) (frames : Nat → Int32) : Int32 := (if acnt ≤ (0 : Int32) then (0 : Int32) else (if (14 : Int32) < acnt then (0 : Int32) else (frames (acnt - (1 : Int32)).toNatClampNeg)))
set_option maxHeartbeats 4000000 in
set_option maxRecDepth 100000 in
theorem c_X0_lastFrame (l : Launch) (D : va_G) (cI cZ : ClassId) (q : Nat → Nat) (acnt : Int32) (frames rainsB : Nat → Int32) : RdI l yX0_lastFrame cX0_lastFrame 1 .int 0 0 D (tyL cI cZ) (AW cI cZ q acnt frames rainsB) [.ref (q 3)] (f_X0_lastFrame acnt frames) := by
  refine RdI.of (by decide) (Nat.le_of_ble_eq_true rfl) ?_
  intro p e s m args below meth c Q hx hb hml hown hts hP hK fin ls hl
  have hown : s.vm.findClass RX0 = some m.cls := hown
  have hF : CallFix p m c cX0_lastFrame 1 s args tb RX0 := ⟨hx, hb, hml, hown, hts⟩
  have hl : lv_has ls 1 [(0, .ref (q 3))] := hl
  generalize hR : (f_X0_lastFrame acnt frames) = R at fin
  unfold f_X0_lastFrame at hR
  refine lv_aload_n hx hb dX0_lastFrame_0 rfl (lv_at hl 0 rfl) ?_
  refine va_get (D := D) (ci := 0) (v := .int acnt) (C := RX0) (T := TX0) (N := 3) hx hb hts tbX0 hown hK hP 0 AW_0 rfl 2 (by decide) (hts _ tm_1_74) (fun _ h9 => h9) rfl dX0_lastFrame_1 ?_
  refine lv_if_le (tgt := 30) hx hb dX0_lastFrame_4 (by decide) (fun c_4 => ?_) (fun c_4 => ?_)
  · rw [if_pos c_4] at hR
    refine lv_iconst (v := (0 : Int32)) hx hb dX0_lastFrame_30 (by decide) ?_
    subst hR
    exact fin _ _ dX0_lastFrame_31 (nar_i _)
  · rw [if_neg c_4] at hR
    refine lv_aload_n hx hb dX0_lastFrame_7 rfl (lv_at hl 0 rfl) ?_
    refine va_get (D := D) (ci := 0) (v := .int acnt) (C := RX0) (T := TX0) (N := 3) hx hb hts tbX0 hown hK hP 0 AW_0 rfl 2 (by decide) (hts _ tm_1_74) (fun _ h9 => h9) rfl dX0_lastFrame_8 ?_
    refine lv_bipush (v := (14 : Int32)) hx hb dX0_lastFrame_11 (by decide) ?_
    refine lv_icmp_gt (tgt := 30) hx hb dX0_lastFrame_13 (by decide) (fun c_13 => ?_) (fun c_13 => ?_)
    · rw [if_pos c_13] at hR
      refine lv_iconst (v := (0 : Int32)) hx hb dX0_lastFrame_30 (by decide) ?_
      subst hR
      exact fin _ _ dX0_lastFrame_31 (nar_i _)
    · rw [if_neg c_13] at hR
      refine lv_aload_n hx hb dX0_lastFrame_16 rfl (lv_at hl 0 rfl) ?_
      refine va_get (D := D) (ci := 0) (v := .ref (q 8)) (C := RX0) (T := TX0) (N := 3) hx hb hts tbX0 hown hK hP 0 AW_0 rfl 0 (by decide) (hts _ tm_1_72) (fun _ h9 => h9) rfl dX0_lastFrame_17 ?_
      refine lv_aload_n hx hb dX0_lastFrame_20 rfl (lv_at hl 0 rfl) ?_
      refine va_get (D := D) (ci := 0) (v := .int acnt) (C := RX0) (T := TX0) (N := 3) hx hb hts tbX0 hown hK hP 0 AW_0 rfl 2 (by decide) (hts _ tm_1_74) (fun _ h9 => h9) rfl dX0_lastFrame_21 ?_
      refine lv_iconst (v := (1 : Int32)) hx hb dX0_lastFrame_24 (by decide) ?_
      refine lv_isub hx hb dX0_lastFrame_25 ?_
      refine va_iald hx hb hK hP 1 0 AW_1 rfl (vi_c (b := 14) (by decide) c_4 c_13) dX0_lastFrame_26 ?_
      refine lv_goto (tgt := 31) hx hb dX0_lastFrame_27 (by decide) ?_
      subst hR
      exact fin _ _ dX0_lastFrame_31 (nar_i _)
def f_X0_lastRains (acnt : Int32) (rainsB : Nat → Int32) : Int32 := (if acnt ≤ (0 : Int32) then (0 : Int32) else (if (14 : Int32) < acnt then (0 : Int32) else (rainsB (acnt - (1 : Int32)).toNatClampNeg)))
set_option maxHeartbeats 4000000 in
set_option maxRecDepth 100000 in
theorem c_X0_lastRains (l : Launch) (D : va_G) (cI cZ : ClassId) (q : Nat → Nat) (acnt : Int32) (frames rainsB : Nat → Int32) : RdI l yX0_lastRains cX0_lastRains 1 .int 0 0 D (tyL cI cZ) (AW cI cZ q acnt frames rainsB) [.ref (q 3)] (f_X0_lastRains acnt rainsB) := by
  refine RdI.of (by decide) (Nat.le_of_ble_eq_true rfl) ?_
  intro p e s m args below meth c Q hx hb hml hown hts hP hK fin ls hl
  have hown : s.vm.findClass RX0 = some m.cls := hown
  have hF : CallFix p m c cX0_lastRains 1 s args tb RX0 := ⟨hx, hb, hml, hown, hts⟩
  have hl : lv_has ls 1 [(0, .ref (q 3))] := hl
  generalize hR : (f_X0_lastRains acnt rainsB) = R at fin
  unfold f_X0_lastRains at hR
  refine lv_aload_n hx hb dX0_lastRains_0 rfl (lv_at hl 0 rfl) ?_
  refine va_get (D := D) (ci := 0) (v := .int acnt) (C := RX0) (T := TX0) (N := 3) hx hb hts tbX0 hown hK hP 0 AW_0 rfl 2 (by decide) (hts _ tm_1_74) (fun _ h9 => h9) rfl dX0_lastRains_1 ?_
  refine lv_if_le (tgt := 30) hx hb dX0_lastRains_4 (by decide) (fun c_4 => ?_) (fun c_4 => ?_)
  · rw [if_pos c_4] at hR
    refine lv_iconst (v := (0 : Int32)) hx hb dX0_lastRains_30 (by decide) ?_
    subst hR
    exact fin _ _ dX0_lastRains_31 (nar_i _)
  · rw [if_neg c_4] at hR
    refine lv_aload_n hx hb dX0_lastRains_7 rfl (lv_at hl 0 rfl) ?_
    refine va_get (D := D) (ci := 0) (v := .int acnt) (C := RX0) (T := TX0) (N := 3) hx hb hts tbX0 hown hK hP 0 AW_0 rfl 2 (by decide) (hts _ tm_1_74) (fun _ h9 => h9) rfl dX0_lastRains_8 ?_
    refine lv_bipush (v := (14 : Int32)) hx hb dX0_lastRains_11 (by decide) ?_
    refine lv_icmp_gt (tgt := 30) hx hb dX0_lastRains_13 (by decide) (fun c_13 => ?_) (fun c_13 => ?_)
    · rw [if_pos c_13] at hR
      refine lv_iconst (v := (0 : Int32)) hx hb dX0_lastRains_30 (by decide) ?_
      subst hR
      exact fin _ _ dX0_lastRains_31 (nar_i _)
    · rw [if_neg c_13] at hR
      refine lv_aload_n hx hb dX0_lastRains_16 rfl (lv_at hl 0 rfl) ?_
      refine va_get (D := D) (ci := 0) (v := .ref (q 9)) (C := RX0) (T := TX0) (N := 3) hx hb hts tbX0 hown hK hP 0 AW_0 rfl 1 (by decide) (hts _ tm_1_73) (fun _ h9 => h9) rfl dX0_lastRains_17 ?_
      refine lv_aload_n hx hb dX0_lastRains_20 rfl (lv_at hl 0 rfl) ?_
      refine va_get (D := D) (ci := 0) (v := .int acnt) (C := RX0) (T := TX0) (N := 3) hx hb hts tbX0 hown hK hP 0 AW_0 rfl 2 (by decide) (hts _ tm_1_74) (fun _ h9 => h9) rfl dX0_lastRains_21 ?_
      refine lv_iconst (v := (1 : Int32)) hx hb dX0_lastRains_24 (by decide) ?_
      refine lv_isub hx hb dX0_lastRains_25 ?_
      refine va_iald hx hb hK hP 2 0 AW_2 rfl (vi_c (b := 14) (by decide) c_4 c_13) dX0_lastRains_26 ?_
      refine lv_goto (tgt := 31) hx hb dX0_lastRains_27 (by decide) ?_
      subst hR
      exact fin _ _ dX0_lastRains_31 (nar_i _)
def f_X0_forgetFirst_l2  : Nat → Nat → (Nat → Int32) → (Nat → Int32) → (Nat → Int32) × (Nat → Int32)
  | 0, i_2, fra, rab => (fra, rab)
  | d_2 + 1, i_2, fra, rab => (f_X0_forgetFirst_l2  d_2 (i_2 + 1) (upd fra (i_2 - 1) (fra i_2)) (upd rab (i_2 - 1) (rab i_2)))
theorem f_X0_forgetFirst_l2_z  {i_2 : Nat} {fra : Nat → Int32} {rab : Nat → Int32} : f_X0_forgetFirst_l2  0 i_2 fra rab = (fra, rab) := by rw [f_X0_forgetFirst_l2]
theorem f_X0_forgetFirst_l2_s  {d_2 : Nat} {i_2 : Nat} {fra : Nat → Int32} {rab : Nat → Int32} : f_X0_forgetFirst_l2  (d_2 + 1) i_2 fra rab = (f_X0_forgetFirst_l2  d_2 (i_2 + 1) (upd fra (i_2 - 1) (fra i_2)) (upd rab (i_2 - 1) (rab i_2))) := by rw [f_X0_forgetFirst_l2]
def f_X0_forgetFirst (frames : Nat → Int32) (rainsB : Nat → Int32) : (Int32) × (Nat → Int32) × (Nat → Int32) := ((13 : Int32), (f_X0_forgetFirst_l2  13 1 frames rainsB).1, (f_X0_forgetFirst_l2  13 1 frames rainsB).2)
set_option maxHeartbeats 4000000 in
set_option maxRecDepth 100000 in
theorem c_X0_forgetFirst (l : Launch) (D : va_G) (cI cZ : ClassId) (q : Nat → Nat) (now rains length poles parts plain key stair air acnt tcnt : Int32) (letters cells kinds frames rainsB abouts stoods kept keptF keptR : Nat → Int32) (seed : Int64) : WrV l yX0_forgetFirst cX0_forgetFirst 2 0 0 D (tyL cI cZ) (XW cI cZ q now rains length poles parts plain key stair air acnt tcnt letters cells kinds frames rainsB abouts stoods kept keptF keptR seed) [.ref (q 3)] (XW cI cZ q now rains length poles parts plain key stair air (f_X0_forgetFirst frames rainsB).1 tcnt letters cells kinds (f_X0_forgetFirst frames rainsB).2.1 (f_X0_forgetFirst frames rainsB).2.2 abouts stoods kept keptF keptR seed) := by
  refine WrV.of (by decide) (Nat.le_of_ble_eq_true rfl) ?_
  intro p e s m args below meth c Q A hx hb hml hown hts hP hK hD hS fin ls hl
  have hown : s.vm.findClass RX0 = some m.cls := hown
  have hF : CallFix p m c cX0_forgetFirst 2 s args tb RX0 := ⟨hx, hb, hml, hown, hts⟩
  have hl : lv_has ls 2 [(0, .ref (q 3))] := hl
  generalize hR : (f_X0_forgetFirst frames rainsB) = R at fin
  unfold f_X0_forgetFirst at hR
  refine lv_iconst (v := (1 : Int32)) hx hb dX0_forgetFirst_0 (by decide) ?_
  refine lv_istore_n (lv' := [(1, .int (1 : Int32)), (0, .ref (q 3))]) hx hb dX0_forgetFirst_1 rfl hl (by decide) rfl (fun ls hl => ?_)
  obtain ⟨T_2, hT_2⟩ : ∃ z, f_X0_forgetFirst_l2  13 1 frames rainsB = z := ⟨_, rfl⟩
  rw [hT_2] at hR
  have key_2 : ∀ (d_2 i_2 : Nat) (fra : Nat → Int32) (rab : Nat → Int32) (ls : Array Slot) (H : Heap) (locs : List Loc), i_2 + d_2 = 14 → 1 ≤ i_2 → f_X0_forgetFirst_l2  d_2 i_2 fra rab = T_2 → lv_has ls 2 [(1, .int (nI i_2)), (0, .ref (q 3))] → va_P D vwCl (XW cI cZ q now rains length poles parts plain key stair air acnt tcnt letters cells kinds fra rab abouts stoods kept keptF keptR seed) H → va_S A s.heap H locs → W p l e (rmO 0 0) s m args below meth c H locs 0 0 Q (F0 m 2 ls []) := by
    intro d_2
    induction d_2 with
    | zero =>
      intro i_2 fra rab ls H locs hi_2 h1_2 hT_2 hl hP hS
      have hD : va_D A (XW cI cZ q now rains length poles parts plain key stair air acnt tcnt letters cells kinds fra rab abouts stoods kept keptF keptR seed) := hD.same rfl
      rw [f_X0_forgetFirst_l2_z] at hT_2
      refine lv_iload_n hx hb dX0_forgetFirst_2 rfl (lv_at hl 0 rfl) ?_
      refine lv_bipush (v := (14 : Int32)) hx hb dX0_forgetFirst_3 (by decide) ?_
      refine lv_icmp_ge (tgt := 42) hx hb dX0_forgetFirst_5 (by decide) (fun c_5 => ?_) (fun c_5 => absurd (nI_le (a := 14) (by omega) (by omega)) c_5)
      subst hT_2
      try dsimp only at hR
      refine lv_aload_n hx hb dX0_forgetFirst_42 rfl (lv_at hl 1 rfl) ?_
      refine lv_bipush (v := (13 : Int32)) hx hb dX0_forgetFirst_43 (by decide) ?_
      refine va_put (D := D) (ci := 0) (v := .int (13 : Int32)) (ty := .int) (C := RX0) (T := TX0) (N := 3) hx hb hts tbX0 tyX0 tyX0_ok nmX0 hown hK hP hD hS 3 XW_3 rfl 2 (by decide) (hts _ tm_1_74) (fun _ h9 => h9) rfl (by decide +kernel) rfl rfl (Nat.le_of_ble_eq_true rfl) dX0_forgetFirst_45 (fun H locs hP hD hS => ?_)
      have hP : va_P D vwCl (XW cI cZ q now rains length poles parts plain key stair air (13 : Int32) tcnt letters cells kinds fra rab abouts stoods kept keptF keptR seed) H := hP
      have hD : va_D A (XW cI cZ q now rains length poles parts plain key stair air (13 : Int32) tcnt letters cells kinds fra rab abouts stoods kept keptF keptR seed) := hD.same rfl
      subst hR
      exact fin _ _ _ _ dX0_forgetFirst_48 hP hS
    | succ d_2 ih_2 =>
      intro i_2 fra rab ls H locs hi_2 h1_2 hT_2 hl hP hS
      have hD : va_D A (XW cI cZ q now rains length poles parts plain key stair air acnt tcnt letters cells kinds fra rab abouts stoods kept keptF keptR seed) := hD.same rfl
      rw [f_X0_forgetFirst_l2_s] at hT_2
      refine lv_iload_n hx hb dX0_forgetFirst_2 rfl (lv_at hl 0 rfl) ?_
      refine lv_bipush (v := (14 : Int32)) hx hb dX0_forgetFirst_3 (by decide) ?_
      refine lv_icmp_ge (tgt := 42) hx hb dX0_forgetFirst_5 (by decide) (fun c_5 => absurd c_5 (nI_ge (b := 14) (by omega) (by omega))) (fun c_5 => ?_)
      refine lv_aload_n hx hb dX0_forgetFirst_8 rfl (lv_at hl 1 rfl) ?_
      refine va_get (D := D) (ci := 0) (v := .ref (q 8)) (C := RX0) (T := TX0) (N := 3) hx hb hts tbX0 hown hK hP 3 XW_3 rfl 0 (by decide) (hts _ tm_1_72) (fun _ h9 => h9) rfl dX0_forgetFirst_9 ?_
      refine lv_iload_n hx hb dX0_forgetFirst_12 rfl (lv_at hl 0 rfl) ?_
      refine lv_iconst (v := (1 : Int32)) hx hb dX0_forgetFirst_13 (by decide) ?_
      refine lv_isub hx hb dX0_forgetFirst_14 ?_
      refine lv_rw (z := (nI (i_2 - 1))) (pk_sub (b := 1) (show 1 ≤ i_2 by omega)) ?_
      refine lv_aload_n hx hb dX0_forgetFirst_15 rfl (lv_at hl 1 rfl) ?_
      refine va_get (D := D) (ci := 0) (v := .ref (q 8)) (C := RX0) (T := TX0) (N := 3) hx hb hts tbX0 hown hK hP 3 XW_3 rfl 0 (by decide) (hts _ tm_1_72) (fun _ h9 => h9) rfl dX0_forgetFirst_16 ?_
      refine lv_iload_n hx hb dX0_forgetFirst_19 rfl (lv_at hl 0 rfl) ?_
      refine va_iald hx hb hK hP 8 0 XW_8 rfl (vp_in_nI (show i_2 < 14 by omega) (by omega)) dX0_forgetFirst_20 ?_
      refine lv_rw (z := (fra i_2)) (congrArg fra (nI_clamp (show i_2 < 2 ^ 31 by omega))) ?_
      refine va_iast hx hb hK hP hD hS 8 0 XW_8 rfl (vp_in_nI (show (i_2 - 1) < 14 by omega) (by omega)) dX0_forgetFirst_21 (fun H locs hP hD hS => ?_)
      have hP : va_P D vwCl (XW cI cZ q now rains length poles parts plain key stair air acnt tcnt letters cells kinds (upd fra (nI (i_2 - 1)).toNatClampNeg (fra i_2)) rab abouts stoods kept keptF keptR seed) H := hP
      rw [(nI_clamp (show (i_2 - 1) < 2 ^ 31 by omega))] at hP
      have hD : va_D A (XW cI cZ q now rains length poles parts plain key stair air acnt tcnt letters cells kinds (upd fra (i_2 - 1) (fra i_2)) rab abouts stoods kept keptF keptR seed) := hD.same rfl
      refine lv_aload_n hx hb dX0_forgetFirst_22 rfl (lv_at hl 1 rfl) ?_
      refine va_get (D := D) (ci := 0) (v := .ref (q 9)) (C := RX0) (T := TX0) (N := 3) hx hb hts tbX0 hown hK hP 3 XW_3 rfl 1 (by decide) (hts _ tm_1_73) (fun _ h9 => h9) rfl dX0_forgetFirst_23 ?_
      refine lv_iload_n hx hb dX0_forgetFirst_26 rfl (lv_at hl 0 rfl) ?_
      refine lv_iconst (v := (1 : Int32)) hx hb dX0_forgetFirst_27 (by decide) ?_
      refine lv_isub hx hb dX0_forgetFirst_28 ?_
      refine lv_rw (z := (nI (i_2 - 1))) (pk_sub (b := 1) (show 1 ≤ i_2 by omega)) ?_
      refine lv_aload_n hx hb dX0_forgetFirst_29 rfl (lv_at hl 1 rfl) ?_
      refine va_get (D := D) (ci := 0) (v := .ref (q 9)) (C := RX0) (T := TX0) (N := 3) hx hb hts tbX0 hown hK hP 3 XW_3 rfl 1 (by decide) (hts _ tm_1_73) (fun _ h9 => h9) rfl dX0_forgetFirst_30 ?_
      refine lv_iload_n hx hb dX0_forgetFirst_33 rfl (lv_at hl 0 rfl) ?_
      refine va_iald hx hb hK hP 9 0 XW_9 rfl (vp_in_nI (show i_2 < 14 by omega) (by omega)) dX0_forgetFirst_34 ?_
      refine lv_rw (z := (rab i_2)) (congrArg rab (nI_clamp (show i_2 < 2 ^ 31 by omega))) ?_
      refine va_iast hx hb hK hP hD hS 9 0 XW_9 rfl (vp_in_nI (show (i_2 - 1) < 14 by omega) (by omega)) dX0_forgetFirst_35 (fun H locs hP hD hS => ?_)
      have hP : va_P D vwCl (XW cI cZ q now rains length poles parts plain key stair air acnt tcnt letters cells kinds (upd fra (i_2 - 1) (fra i_2)) (upd rab (nI (i_2 - 1)).toNatClampNeg (rab i_2)) abouts stoods kept keptF keptR seed) H := hP
      rw [(nI_clamp (show (i_2 - 1) < 2 ^ 31 by omega))] at hP
      have hD : va_D A (XW cI cZ q now rains length poles parts plain key stair air acnt tcnt letters cells kinds (upd fra (i_2 - 1) (fra i_2)) (upd rab (i_2 - 1) (rab i_2)) abouts stoods kept keptF keptR seed) := hD.same rfl
      refine lv_iinc (v := (nI (i_2 + 1))) (lv' := [(1, .int (nI (i_2 + 1))), (0, .ref (q 3))]) hx hb dX0_forgetFirst_36 hl (k := 0) rfl (nI_up i_2) (by decide) rfl (fun ls hl => ?_)
      refine lv_goto (tgt := 2) hx hb dX0_forgetFirst_39 (by decide) ?_
      exact ih_2 (i_2 + 1) (upd fra (i_2 - 1) (fra i_2)) (upd rab (i_2 - 1) (rab i_2)) ls _ _ (by omega) (by omega) hT_2 (lv_sub hl [0, 1] rfl) hP hS
  exact key_2 13 1 frames rainsB ls _ _ (by omega) (by omega) hT_2 (lv_sub hl [0, 1] rfl) hP hS
def f_X0_remember (acnt : Int32) (frames : Nat → Int32) (rainsB : Nat → Int32) (a1 : Int32) (a2 : Int32) : (Int32) × (Nat → Int32) × (Nat → Int32) := (if acnt < (14 : Int32) then (if acnt < (0 : Int32) then (acnt, frames, rainsB) else (if (14 : Int32) ≤ acnt then (acnt, frames, rainsB) else ((acnt + (1 : Int32)), (upd frames acnt.toNatClampNeg a1), (upd rainsB acnt.toNatClampNeg a2)))) else (if (f_X0_forgetFirst frames rainsB).1 < (0 : Int32) then ((f_X0_forgetFirst frames rainsB).1, (f_X0_forgetFirst frames rainsB).2.1, (f_X0_forgetFirst frames rainsB).2.2) else (if (14 : Int32) ≤ (f_X0_forgetFirst frames rainsB).1 then ((f_X0_forgetFirst frames rainsB).1, (f_X0_forgetFirst frames rainsB).2.1, (f_X0_forgetFirst frames rainsB).2.2) else (((f_X0_forgetFirst frames rainsB).1 + (1 : Int32)), (upd (f_X0_forgetFirst frames rainsB).2.1 (f_X0_forgetFirst frames rainsB).1.toNatClampNeg a1), (upd (f_X0_forgetFirst frames rainsB).2.2 (f_X0_forgetFirst frames rainsB).1.toNatClampNeg a2)))))
set_option maxHeartbeats 4000000 in
set_option maxRecDepth 100000 in
theorem c_X0_remember (l : Launch) (D : va_G) (cI cZ : ClassId) (q : Nat → Nat) (now rains length poles parts plain key stair air acnt tcnt : Int32) (letters cells kinds frames rainsB abouts stoods kept keptF keptR : Nat → Int32) (seed : Int64) (a1 : Int32) (a2 : Int32) : WrV l yX0_remember cX0_remember 3 1 21 D (tyL cI cZ) (XW cI cZ q now rains length poles parts plain key stair air acnt tcnt letters cells kinds frames rainsB abouts stoods kept keptF keptR seed) [.ref (q 3), .int a1, .int a2] (XW cI cZ q now rains length poles parts plain key stair air (f_X0_remember acnt frames rainsB a1 a2).1 tcnt letters cells kinds (f_X0_remember acnt frames rainsB a1 a2).2.1 (f_X0_remember acnt frames rainsB a1 a2).2.2 abouts stoods kept keptF keptR seed) := by
  refine WrV.of (by decide) (Nat.le_of_ble_eq_true rfl) ?_
  intro p e s m args below meth c Q A hx hb hml hown hts hP hK hD hS fin ls hl
  have hown : s.vm.findClass RX0 = some m.cls := hown
  have hF : CallFix p m c cX0_remember 3 s args tb RX0 := ⟨hx, hb, hml, hown, hts⟩
  have hl : lv_has ls 3 [(0, .ref (q 3)), (1, .int a1), (2, .int a2)] := hl
  generalize hR : (f_X0_remember acnt frames rainsB a1 a2) = R at fin
  unfold f_X0_remember at hR
  refine lv_aload_n hx hb dX0_remember_0 rfl (lv_at hl 0 rfl) ?_
  refine va_get (D := D) (ci := 0) (v := .int acnt) (C := RX0) (T := TX0) (N := 3) hx hb hts tbX0 hown hK hP 3 XW_3 rfl 2 (by decide) (hts _ tm_1_74) (fun _ h9 => h9) rfl dX0_remember_1 ?_
  refine lv_bipush (v := (14 : Int32)) hx hb dX0_remember_4 (by decide) ?_
  refine lv_icmp_lt (tgt := 13) hx hb dX0_remember_6 (by decide) (fun c_6 => ?_) (fun c_6 => ?_)
  · rw [if_pos c_6] at hR
    refine lv_aload_n hx hb dX0_remember_13 rfl (lv_at hl 0 rfl) ?_
    refine va_get (D := D) (ci := 0) (v := .int acnt) (C := RX0) (T := TX0) (N := 3) hx hb hts tbX0 hown hK hP 3 XW_3 rfl 2 (by decide) (hts _ tm_1_74) (fun _ h9 => h9) rfl dX0_remember_14 ?_
    refine lv_if_lt (tgt := 59) hx hb dX0_remember_17 (by decide) (fun c_17 => ?_) (fun c_17 => ?_)
    · rw [if_pos c_17] at hR
      subst hR
      exact fin _ _ _ _ dX0_remember_59 hP hS
    · rw [if_neg c_17] at hR
      refine lv_aload_n hx hb dX0_remember_20 rfl (lv_at hl 0 rfl) ?_
      refine va_get (D := D) (ci := 0) (v := .int acnt) (C := RX0) (T := TX0) (N := 3) hx hb hts tbX0 hown hK hP 3 XW_3 rfl 2 (by decide) (hts _ tm_1_74) (fun _ h9 => h9) rfl dX0_remember_21 ?_
      refine lv_bipush (v := (14 : Int32)) hx hb dX0_remember_24 (by decide) ?_
      refine lv_icmp_ge (tgt := 59) hx hb dX0_remember_26 (by decide) (fun c_26 => ?_) (fun c_26 => ?_)
      · rw [if_pos c_26] at hR
        subst hR
        exact fin _ _ _ _ dX0_remember_59 hP hS
      · rw [if_neg c_26] at hR
        refine lv_aload_n hx hb dX0_remember_29 rfl (lv_at hl 0 rfl) ?_
        refine va_get (D := D) (ci := 0) (v := .ref (q 8)) (C := RX0) (T := TX0) (N := 3) hx hb hts tbX0 hown hK hP 3 XW_3 rfl 0 (by decide) (hts _ tm_1_72) (fun _ h9 => h9) rfl dX0_remember_30 ?_
        refine lv_aload_n hx hb dX0_remember_33 rfl (lv_at hl 0 rfl) ?_
        refine va_get (D := D) (ci := 0) (v := .int acnt) (C := RX0) (T := TX0) (N := 3) hx hb hts tbX0 hown hK hP 3 XW_3 rfl 2 (by decide) (hts _ tm_1_74) (fun _ h9 => h9) rfl dX0_remember_34 ?_
        refine lv_iload_n hx hb dX0_remember_37 rfl (lv_at hl 1 rfl) ?_
        refine va_iast hx hb hK hP hD hS 8 0 XW_8 rfl (vi_b (b := 14) (by decide) c_17 c_26) dX0_remember_38 (fun H locs hP hD hS => ?_)
        have hP : va_P D vwCl (XW cI cZ q now rains length poles parts plain key stair air acnt tcnt letters cells kinds (upd frames acnt.toNatClampNeg a1) rainsB abouts stoods kept keptF keptR seed) H := hP
        have hD : va_D A (XW cI cZ q now rains length poles parts plain key stair air acnt tcnt letters cells kinds (upd frames acnt.toNatClampNeg a1) rainsB abouts stoods kept keptF keptR seed) := hD.same rfl
        refine lv_aload_n hx hb dX0_remember_39 rfl (lv_at hl 0 rfl) ?_
        refine va_get (D := D) (ci := 0) (v := .ref (q 9)) (C := RX0) (T := TX0) (N := 3) hx hb hts tbX0 hown hK hP 3 XW_3 rfl 1 (by decide) (hts _ tm_1_73) (fun _ h9 => h9) rfl dX0_remember_40 ?_
        refine lv_aload_n hx hb dX0_remember_43 rfl (lv_at hl 0 rfl) ?_
        refine va_get (D := D) (ci := 0) (v := .int acnt) (C := RX0) (T := TX0) (N := 3) hx hb hts tbX0 hown hK hP 3 XW_3 rfl 2 (by decide) (hts _ tm_1_74) (fun _ h9 => h9) rfl dX0_remember_44 ?_
        refine lv_iload_n hx hb dX0_remember_47 rfl (lv_at hl 2 rfl) ?_
        refine va_iast hx hb hK hP hD hS 9 0 XW_9 rfl (vi_b (b := 14) (by decide) c_17 c_26) dX0_remember_48 (fun H locs hP hD hS => ?_)
        have hP : va_P D vwCl (XW cI cZ q now rains length poles parts plain key stair air acnt tcnt letters cells kinds (upd frames acnt.toNatClampNeg a1) (upd rainsB acnt.toNatClampNeg a2) abouts stoods kept keptF keptR seed) H := hP
        have hD : va_D A (XW cI cZ q now rains length poles parts plain key stair air acnt tcnt letters cells kinds (upd frames acnt.toNatClampNeg a1) (upd rainsB acnt.toNatClampNeg a2) abouts stoods kept keptF keptR seed) := hD.same rfl
        refine lv_aload_n hx hb dX0_remember_49 rfl (lv_at hl 0 rfl) ?_
        refine lv_dup hx hb dX0_remember_50 rfl ?_
        refine va_get (D := D) (ci := 0) (v := .int acnt) (C := RX0) (T := TX0) (N := 3) hx hb hts tbX0 hown hK hP 3 XW_3 rfl 2 (by decide) (hts _ tm_1_74) (fun _ h9 => h9) rfl dX0_remember_51 ?_
        refine lv_iconst (v := (1 : Int32)) hx hb dX0_remember_54 (by decide) ?_
        refine lv_iadd hx hb dX0_remember_55 ?_
        refine va_put (D := D) (ci := 0) (v := .int (acnt + (1 : Int32))) (ty := .int) (C := RX0) (T := TX0) (N := 3) hx hb hts tbX0 tyX0 tyX0_ok nmX0 hown hK hP hD hS 3 XW_3 rfl 2 (by decide) (hts _ tm_1_74) (fun _ h9 => h9) rfl (by decide +kernel) rfl rfl (Nat.le_of_ble_eq_true rfl) dX0_remember_56 (fun H locs hP hD hS => ?_)
        have hP : va_P D vwCl (XW cI cZ q now rains length poles parts plain key stair air (acnt + (1 : Int32)) tcnt letters cells kinds (upd frames acnt.toNatClampNeg a1) (upd rainsB acnt.toNatClampNeg a2) abouts stoods kept keptF keptR seed) H := hP
        have hD : va_D A (XW cI cZ q now rains length poles parts plain key stair air (acnt + (1 : Int32)) tcnt letters cells kinds (upd frames acnt.toNatClampNeg a1) (upd rainsB acnt.toNatClampNeg a2) abouts stoods kept keptF keptR seed) := hD.same rfl
        subst hR
        exact fin _ _ _ _ dX0_remember_59 hP hS
  · rw [if_neg c_6] at hR
    refine lv_aload_n hx hb dX0_remember_9 rfl (lv_at hl 0 rfl) ?_
    refine vWrV (b := (q 3)) (As := []) (rest := []) hF (c_X0_forgetFirst l D cI cZ q now rains length poles parts plain key stair air acnt tcnt letters cells kinds frames rainsB abouts stoods kept keptF keptR seed) (gdV tm_2_32 tm_2_33 tm_2_34 tm_1_4 tm_2_35) de_X0_forgetFirst ⟨Nat.le_of_ble_eq_true rfl, Nat.le_of_ble_eq_true rfl⟩ hP hK (va_recv hK hP (ci := 0) (q0 := 3) rfl XW_3) hl.1 rfl (Nat.le_of_ble_eq_true rfl) dX0_remember_10 ⟨Nat.zero_le _, Nat.zero_le _⟩ hD hS (fun H locs hP hS => ?_)
    have hP : va_P D vwCl (XW cI cZ q now rains length poles parts plain key stair air (f_X0_forgetFirst frames rainsB).1 tcnt letters cells kinds (f_X0_forgetFirst frames rainsB).2.1 (f_X0_forgetFirst frames rainsB).2.2 abouts stoods kept keptF keptR seed) H := hP
    have hD : va_D A (XW cI cZ q now rains length poles parts plain key stair air (f_X0_forgetFirst frames rainsB).1 tcnt letters cells kinds (f_X0_forgetFirst frames rainsB).2.1 (f_X0_forgetFirst frames rainsB).2.2 abouts stoods kept keptF keptR seed) := hD.same rfl
    refine lv_aload_n hx hb dX0_remember_13 rfl (lv_at hl 0 rfl) ?_
    refine va_get (D := D) (ci := 0) (v := .int (f_X0_forgetFirst frames rainsB).1) (C := RX0) (T := TX0) (N := 3) hx hb hts tbX0 hown hK hP 3 XW_3 rfl 2 (by decide) (hts _ tm_1_74) (fun _ h9 => h9) rfl dX0_remember_14 ?_
    refine lv_if_lt (tgt := 59) hx hb dX0_remember_17 (by decide) (fun c_17 => ?_) (fun c_17 => ?_)
    · rw [if_pos c_17] at hR
      subst hR
      exact fin _ _ _ _ dX0_remember_59 hP hS
    · rw [if_neg c_17] at hR
      refine lv_aload_n hx hb dX0_remember_20 rfl (lv_at hl 0 rfl) ?_
      refine va_get (D := D) (ci := 0) (v := .int (f_X0_forgetFirst frames rainsB).1) (C := RX0) (T := TX0) (N := 3) hx hb hts tbX0 hown hK hP 3 XW_3 rfl 2 (by decide) (hts _ tm_1_74) (fun _ h9 => h9) rfl dX0_remember_21 ?_
      refine lv_bipush (v := (14 : Int32)) hx hb dX0_remember_24 (by decide) ?_
      refine lv_icmp_ge (tgt := 59) hx hb dX0_remember_26 (by decide) (fun c_26 => ?_) (fun c_26 => ?_)
      · rw [if_pos c_26] at hR
        subst hR
        exact fin _ _ _ _ dX0_remember_59 hP hS
      · rw [if_neg c_26] at hR
        refine lv_aload_n hx hb dX0_remember_29 rfl (lv_at hl 0 rfl) ?_
        refine va_get (D := D) (ci := 0) (v := .ref (q 8)) (C := RX0) (T := TX0) (N := 3) hx hb hts tbX0 hown hK hP 3 XW_3 rfl 0 (by decide) (hts _ tm_1_72) (fun _ h9 => h9) rfl dX0_remember_30 ?_
        refine lv_aload_n hx hb dX0_remember_33 rfl (lv_at hl 0 rfl) ?_
        refine va_get (D := D) (ci := 0) (v := .int (f_X0_forgetFirst frames rainsB).1) (C := RX0) (T := TX0) (N := 3) hx hb hts tbX0 hown hK hP 3 XW_3 rfl 2 (by decide) (hts _ tm_1_74) (fun _ h9 => h9) rfl dX0_remember_34 ?_
        refine lv_iload_n hx hb dX0_remember_37 rfl (lv_at hl 1 rfl) ?_
        refine va_iast hx hb hK hP hD hS 8 0 XW_8 rfl (vi_b (b := 14) (by decide) c_17 c_26) dX0_remember_38 (fun H locs hP hD hS => ?_)
        have hP : va_P D vwCl (XW cI cZ q now rains length poles parts plain key stair air (f_X0_forgetFirst frames rainsB).1 tcnt letters cells kinds (upd (f_X0_forgetFirst frames rainsB).2.1 (f_X0_forgetFirst frames rainsB).1.toNatClampNeg a1) (f_X0_forgetFirst frames rainsB).2.2 abouts stoods kept keptF keptR seed) H := hP
        have hD : va_D A (XW cI cZ q now rains length poles parts plain key stair air (f_X0_forgetFirst frames rainsB).1 tcnt letters cells kinds (upd (f_X0_forgetFirst frames rainsB).2.1 (f_X0_forgetFirst frames rainsB).1.toNatClampNeg a1) (f_X0_forgetFirst frames rainsB).2.2 abouts stoods kept keptF keptR seed) := hD.same rfl
        refine lv_aload_n hx hb dX0_remember_39 rfl (lv_at hl 0 rfl) ?_
        refine va_get (D := D) (ci := 0) (v := .ref (q 9)) (C := RX0) (T := TX0) (N := 3) hx hb hts tbX0 hown hK hP 3 XW_3 rfl 1 (by decide) (hts _ tm_1_73) (fun _ h9 => h9) rfl dX0_remember_40 ?_
        refine lv_aload_n hx hb dX0_remember_43 rfl (lv_at hl 0 rfl) ?_
        refine va_get (D := D) (ci := 0) (v := .int (f_X0_forgetFirst frames rainsB).1) (C := RX0) (T := TX0) (N := 3) hx hb hts tbX0 hown hK hP 3 XW_3 rfl 2 (by decide) (hts _ tm_1_74) (fun _ h9 => h9) rfl dX0_remember_44 ?_
        refine lv_iload_n hx hb dX0_remember_47 rfl (lv_at hl 2 rfl) ?_
        refine va_iast hx hb hK hP hD hS 9 0 XW_9 rfl (vi_b (b := 14) (by decide) c_17 c_26) dX0_remember_48 (fun H locs hP hD hS => ?_)
        have hP : va_P D vwCl (XW cI cZ q now rains length poles parts plain key stair air (f_X0_forgetFirst frames rainsB).1 tcnt letters cells kinds (upd (f_X0_forgetFirst frames rainsB).2.1 (f_X0_forgetFirst frames rainsB).1.toNatClampNeg a1) (upd (f_X0_forgetFirst frames rainsB).2.2 (f_X0_forgetFirst frames rainsB).1.toNatClampNeg a2) abouts stoods kept keptF keptR seed) H := hP
        have hD : va_D A (XW cI cZ q now rains length poles parts plain key stair air (f_X0_forgetFirst frames rainsB).1 tcnt letters cells kinds (upd (f_X0_forgetFirst frames rainsB).2.1 (f_X0_forgetFirst frames rainsB).1.toNatClampNeg a1) (upd (f_X0_forgetFirst frames rainsB).2.2 (f_X0_forgetFirst frames rainsB).1.toNatClampNeg a2) abouts stoods kept keptF keptR seed) := hD.same rfl
        refine lv_aload_n hx hb dX0_remember_49 rfl (lv_at hl 0 rfl) ?_
        refine lv_dup hx hb dX0_remember_50 rfl ?_
        refine va_get (D := D) (ci := 0) (v := .int (f_X0_forgetFirst frames rainsB).1) (C := RX0) (T := TX0) (N := 3) hx hb hts tbX0 hown hK hP 3 XW_3 rfl 2 (by decide) (hts _ tm_1_74) (fun _ h9 => h9) rfl dX0_remember_51 ?_
        refine lv_iconst (v := (1 : Int32)) hx hb dX0_remember_54 (by decide) ?_
        refine lv_iadd hx hb dX0_remember_55 ?_
        refine va_put (D := D) (ci := 0) (v := .int ((f_X0_forgetFirst frames rainsB).1 + (1 : Int32))) (ty := .int) (C := RX0) (T := TX0) (N := 3) hx hb hts tbX0 tyX0 tyX0_ok nmX0 hown hK hP hD hS 3 XW_3 rfl 2 (by decide) (hts _ tm_1_74) (fun _ h9 => h9) rfl (by decide +kernel) rfl rfl (Nat.le_of_ble_eq_true rfl) dX0_remember_56 (fun H locs hP hD hS => ?_)
        have hP : va_P D vwCl (XW cI cZ q now rains length poles parts plain key stair air ((f_X0_forgetFirst frames rainsB).1 + (1 : Int32)) tcnt letters cells kinds (upd (f_X0_forgetFirst frames rainsB).2.1 (f_X0_forgetFirst frames rainsB).1.toNatClampNeg a1) (upd (f_X0_forgetFirst frames rainsB).2.2 (f_X0_forgetFirst frames rainsB).1.toNatClampNeg a2) abouts stoods kept keptF keptR seed) H := hP
        have hD : va_D A (XW cI cZ q now rains length poles parts plain key stair air ((f_X0_forgetFirst frames rainsB).1 + (1 : Int32)) tcnt letters cells kinds (upd (f_X0_forgetFirst frames rainsB).2.1 (f_X0_forgetFirst frames rainsB).1.toNatClampNeg a1) (upd (f_X0_forgetFirst frames rainsB).2.2 (f_X0_forgetFirst frames rainsB).1.toNatClampNeg a2) abouts stoods kept keptF keptR seed) := hD.same rfl
        subst hR
        exact fin _ _ _ _ dX0_remember_59 hP hS
