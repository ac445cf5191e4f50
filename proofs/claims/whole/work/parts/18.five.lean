theorem de_X5_judge : deOK yX5_judge 2 := by decide +kernel
theorem de_X5_share : deOK yX5_share 2 := by decide +kernel
theorem de_X5_attempt : deOK yX5_attempt 2 := by decide +kernel
theorem de_X5_unattempt : deOK yX5_unattempt 0 := by decide +kernel
theorem de_X5_kinds : deOK yX5_kinds 1 := by decide +kernel
theorem de_X5_rests : deOK yX5_rests 3 := by decide +kernel
theorem de_X5_wet : deOK yX5_wet 3 := by decide +kernel
theorem de_X5_seed : deOK yX5_seed 1 := by decide +kernel
theorem de_X5_terms : deOK yX5_terms 1 := by decide +kernel
theorem de_X5_keep : deOK yX5_keep 1 := by decide +kernel
theorem de_X5_again : deOK yX5_again 1 := by decide +kernel
def f_X5_judge_l39 (poles : Int32) (parts : Int32) (plain : Int32) (key : Int32) (stair : Int32) (air : Int32) (cells : Nat → Int32) (a1 : Int32) (a2 : Int64) : Nat → Nat → (Int32) → Int32
  | 0, i_39, fr39 => (-9 : Int32)
  | d_39 + 1, i_39, fr39 => (if (f_X5_canBe poles parts cells fr39 (f_X5_doingFromEnd (a1.toNatClampNeg - 1 - i_39) a2)) = (0 : Int32) then (nI i_39) else (f_X5_judge_l39 poles parts plain key stair air cells a1 a2 d_39 (i_39 + 1) (f_X5_withDoing plain key stair air fr39 (f_X5_doingFromEnd (a1.toNatClampNeg - 1 - i_39) a2))))
theorem f_X5_judge_l39_z {poles : Int32} {parts : Int32} {plain : Int32} {key : Int32} {stair : Int32} {air : Int32} {cells : Nat → Int32} {a1 : Int32} {a2 : Int64} {i_39 : Nat} {fr39 : Int32} : f_X5_judge_l39 poles parts plain key stair air cells a1 a2 0 i_39 fr39 = (-9 : Int32) := by rw [f_X5_judge_l39]
theorem f_X5_judge_l39_s {poles : Int32} {parts : Int32} {plain : Int32} {key : Int32} {stair : Int32} {air : Int32} {cells : Nat → Int32} {a1 : Int32} {a2 : Int64} {d_39 : Nat} {i_39 : Nat} {fr39 : Int32} : f_X5_judge_l39 poles parts plain key stair air cells a1 a2 (d_39 + 1) i_39 fr39 = (if (f_X5_canBe poles parts cells fr39 (f_X5_doingFromEnd (a1.toNatClampNeg - 1 - i_39) a2)) = (0 : Int32) then (nI i_39) else (f_X5_judge_l39 poles parts plain key stair air cells a1 a2 d_39 (i_39 + 1) (f_X5_withDoing plain key stair air fr39 (f_X5_doingFromEnd (a1.toNatClampNeg - 1 - i_39) a2)))) := by rw [f_X5_judge_l39]
def f_X5_judge (now : Int32) (poles : Int32) (parts : Int32) (plain : Int32) (key : Int32) (stair : Int32) (air : Int32) (cells : Nat → Int32) (a1 : Int32) (a2 : Int64) : Int32 := (if a1 < (1 : Int32) then (-2 : Int32) else (if (4 : Int32) < a1 then (-2 : Int32) else (if (lg_cmp a2 (0 : Int64)) < (0 : Int32) then (-2 : Int32) else (if (lg_cmp a2 (f_X5_powerOfTen (3 * a1.toNatClampNeg))) < (0 : Int32) then (f_X5_judge_l39 poles parts plain key stair air cells a1 a2 a1.toNatClampNeg 0 now) else (-2 : Int32)))))
set_option maxHeartbeats 4000000 in
set_option maxRecDepth 100000 in
theorem c_X5_judge (l : Launch) (D : va_G) (cI cZ : ClassId) (q : Nat → Nat) (now rains length poles parts plain key stair air acnt tcnt : Int32) (letters cells kinds frames rainsB abouts stoods kept keptF keptR : Nat → Int32) (seed : Int64) (a1 : Int32) (a2 : Int64) : RdI l yX5_judge cX5_judge 7 .int 4 95 D (tyL cI cZ) (XW cI cZ q now rains length poles parts plain key stair air acnt tcnt letters cells kinds frames rainsB abouts stoods kept keptF keptR seed) [.ref (q 0), .int a1, .long a2] (f_X5_judge now poles parts plain key stair air cells a1 a2) := by
  refine RdI.of (by decide) (Nat.le_of_ble_eq_true rfl) ?_
  intro p e s m args below meth c Q hx hb hml hown hts hP hK fin ls hl
  have hown : s.vm.findClass RX5 = some m.cls := hown
  have hF : CallFix p m c cX5_judge 7 s args tb RX5 := ⟨hx, hb, hml, hown, hts⟩
  have hl : lv_has ls 7 [(0, .ref (q 0)), (1, .int a1), (2, .long a2)] := hl
  generalize hR : (f_X5_judge now poles parts plain key stair air cells a1 a2) = R at fin
  unfold f_X5_judge at hR
  refine lv_iload_n hx hb dX5_judge_0 rfl (lv_at hl 1 rfl) ?_
  refine lv_iconst (v := (1 : Int32)) hx hb dX5_judge_1 (by decide) ?_
  refine lv_icmp_lt (tgt := 27) hx hb dX5_judge_2 (by decide) (fun c_2 => ?_) (fun c_2 => ?_)
  · rw [if_pos c_2] at hR
    refine lv_bipush (v := (-2 : Int32)) hx hb dX5_judge_27 (by decide) ?_
    subst hR
    exact fin _ _ dX5_judge_29 (nar_i _)
  · rw [if_neg c_2] at hR
    refine lv_iload_n hx hb dX5_judge_5 rfl (lv_at hl 1 rfl) ?_
    refine lv_iconst (v := (4 : Int32)) hx hb dX5_judge_6 (by decide) ?_
    refine lv_icmp_gt (tgt := 27) hx hb dX5_judge_7 (by decide) (fun c_7 => ?_) (fun c_7 => ?_)
    · rw [if_pos c_7] at hR
      refine lv_bipush (v := (-2 : Int32)) hx hb dX5_judge_27 (by decide) ?_
      subst hR
      exact fin _ _ dX5_judge_29 (nar_i _)
    · rw [if_neg c_7] at hR
      have hna : a1 = nI a1.toNatClampNeg := nI_self1 c_2
      have hna4 : a1.toNatClampNeg ≤ 4 := cl_le (b := 4) (by decide) c_7
      refine lv_lload_n hx hb dX5_judge_10 rfl (lv_at hl 2 rfl) ?_
      refine lv_lconst (v := (0 : Int64)) hx hb dX5_judge_11 (by decide) ?_
      refine W.lcmp hx hb dX5_judge_12 ?_
      refine lv_if_lt (tgt := 27) hx hb dX5_judge_13 (by decide) (fun c_13 => ?_) (fun c_13 => ?_)
      · rw [if_pos c_13] at hR
        refine lv_bipush (v := (-2 : Int32)) hx hb dX5_judge_27 (by decide) ?_
        subst hR
        exact fin _ _ dX5_judge_29 (nar_i _)
      · rw [if_neg c_13] at hR
        refine lv_lload_n hx hb dX5_judge_16 rfl (lv_at hl 2 rfl) ?_
        refine lv_iconst (v := (3 : Int32)) hx hb dX5_judge_17 (by decide) ?_
        refine lv_iload_n hx hb dX5_judge_18 rfl (lv_at hl 1 rfl) ?_
        refine lv_imul hx hb dX5_judge_19 ?_
        refine sRdL (As := [.int ((3 : Int32) * a1)]) (rest := [.long a2]) hF (c_X5_powerOfTen l D cI cZ q ((3 : Int32) * a1) (3 * a1.toNatClampNeg) (by rw [hna, nI_clamp (by omega)]; exact pk_mul 3 _) (by omega)) (gdS tm_2_115 tm_2_116 tm_1_1 tm_2_117) de_X5_powerOfTen ⟨Nat.le_of_ble_eq_true rfl, Nat.le_of_ble_eq_true rfl⟩ va_P_nil hK hl.1 rfl (Nat.le_of_ble_eq_true rfl) dX5_judge_20 ⟨Nat.zero_le _, Nat.zero_le _⟩ ?_
        refine W.lcmp hx hb dX5_judge_23 ?_
        refine lv_if_lt (tgt := 30) hx hb dX5_judge_24 (by decide) (fun c_24 => ?_) (fun c_24 => ?_)
        · rw [if_pos c_24] at hR
          refine lv_aload_n hx hb dX5_judge_30 rfl (lv_at hl 0 rfl) ?_
          refine va_get (D := D) (ci := 4) (v := .int now) (C := RX5) (T := TX5) (N := 10) hx hb hts tbX5 hown hK hP 0 XW_0 rfl 7 (by decide) (hts _ tm_1_108) (fun _ h9 => h9) rfl dX5_judge_31 ?_
          refine lv_istore (lv' := [(4, .int now), (0, .ref (q 0)), (1, .int a1), (2, .long a2)]) hx hb dX5_judge_34 hl (by decide) rfl (fun ls hl => ?_)
          refine lv_iconst (v := (0 : Int32)) hx hb dX5_judge_36 (by decide) ?_
          refine lv_istore (lv' := [(5, .int (0 : Int32)), (4, .int now), (0, .ref (q 0)), (1, .int a1), (2, .long a2)]) hx hb dX5_judge_37 hl (by decide) rfl (fun ls hl => ?_)
          have key_39 : ∀ (d_39 i_39 : Nat) (fr39 : Int32) (ls : Array Slot), i_39 + d_39 = a1.toNatClampNeg → f_X5_judge_l39 poles parts plain key stair air cells a1 a2 d_39 i_39 fr39 = R → lv_has ls 7 [(5, .int (nI i_39)), (4, .int fr39), (0, .ref (q 0)), (1, .int a1), (2, .long a2)] → W p l e (rmO 4 95) s m args below meth c s.heap [] 0 0 Q (F0 m 39 ls []) := by
            intro d_39
            induction d_39 with
            | zero =>
              intro i_39 fr39 ls hi_39 hR hl
              rw [f_X5_judge_l39_z] at hR
              refine lv_iload hx hb dX5_judge_39 (lv_at hl 0 rfl) ?_
              refine lv_iload_n hx hb dX5_judge_41 rfl (lv_at hl 3 rfl) ?_
              refine lv_icmp_ge (tgt := 87) hx hb dX5_judge_42 (by decide) (fun c_42 => ?_) (fun c_42 => absurd (by rw [hna]; exact nI_le  (by omega) (by omega)) c_42)
              refine lv_bipush (v := (-9 : Int32)) hx hb dX5_judge_87 (by decide) ?_
              subst hR
              exact fin _ _ dX5_judge_89 (nar_i _)
            | succ d_39 ih_39 =>
              intro i_39 fr39 ls hi_39 hR hl
              rw [f_X5_judge_l39_s] at hR
              refine lv_iload hx hb dX5_judge_39 (lv_at hl 0 rfl) ?_
              refine lv_iload_n hx hb dX5_judge_41 rfl (lv_at hl 3 rfl) ?_
              refine lv_icmp_ge (tgt := 87) hx hb dX5_judge_42 (by decide) (fun c_42 => absurd c_42 (by rw [hna]; exact nI_ge  (by omega) (by omega))) (fun c_42 => ?_)
              refine lv_lload_n hx hb dX5_judge_45 rfl (lv_at hl 4 rfl) ?_
              refine lv_iload_n hx hb dX5_judge_46 rfl (lv_at hl 3 rfl) ?_
              refine lv_iconst (v := (1 : Int32)) hx hb dX5_judge_47 (by decide) ?_
              refine lv_isub hx hb dX5_judge_48 ?_
              refine lv_iload hx hb dX5_judge_49 (lv_at hl 0 rfl) ?_
              refine lv_isub hx hb dX5_judge_51 ?_
              refine lv_rw (z := (nI (a1.toNatClampNeg - 1 - i_39))) (by rw [show a1 - 1 = nI (a1.toNatClampNeg - 1) from (congrArg (· - 1) hna).trans (pk_sub (b := 1) (by omega)), pk_sub (by omega)]) ?_
              refine sRdI (As := [.long a2, .int (nI (a1.toNatClampNeg - 1 - i_39))]) (rest := []) hF (c_X5_doingFromEnd l D cI cZ q a2 (nI (a1.toNatClampNeg - 1 - i_39)) (a1.toNatClampNeg - 1 - i_39) rfl (by omega)) (gdS tm_2_123 tm_2_124 tm_1_1 tm_2_125) de_X5_doingFromEnd ⟨Nat.le_of_ble_eq_true rfl, Nat.le_of_ble_eq_true rfl⟩ va_P_nil hK hl.1 rfl (Nat.le_of_ble_eq_true rfl) dX5_judge_52 ⟨Nat.zero_le _, Nat.zero_le _⟩ ?_
              refine lv_istore (lv' := [(6, .int (f_X5_doingFromEnd (a1.toNatClampNeg - 1 - i_39) a2)), (5, .int (nI i_39)), (4, .int fr39), (0, .ref (q 0)), (1, .int a1), (2, .long a2)]) hx hb dX5_judge_55 hl (by decide) rfl (fun ls hl => ?_)
              refine lv_aload_n hx hb dX5_judge_57 rfl (lv_at hl 3 rfl) ?_
              refine lv_iload hx hb dX5_judge_58 (lv_at hl 2 rfl) ?_
              refine lv_iload hx hb dX5_judge_60 (lv_at hl 0 rfl) ?_
              refine vRdI (b := (q 0)) (As := [.int fr39, .int (f_X5_doingFromEnd (a1.toNatClampNeg - 1 - i_39) a2)]) (rest := []) hF (c_X5_canBe l D cI cZ q now rains length poles parts plain key stair air acnt tcnt letters cells kinds frames rainsB abouts stoods kept keptF keptR seed fr39 (f_X5_doingFromEnd (a1.toNatClampNeg - 1 - i_39) a2)) (gdV tm_2_127 tm_2_129 tp_1 tm_1_1 tm_2_130) de_X5_canBe ⟨Nat.le_of_ble_eq_true rfl, Nat.le_of_ble_eq_true rfl⟩ hP hK (va_recv hK hP (ci := 4) (q0 := 0) rfl XW_0) hl.1 rfl (Nat.le_of_ble_eq_true rfl) dX5_judge_62 ⟨Nat.zero_le _, Nat.zero_le _⟩ ?_
              refine lv_if_ne (tgt := 71) hx hb dX5_judge_65 (by decide) (fun c_65 => ?_) (fun c_65 => ?_)
              · rw [if_neg c_65] at hR
                refine lv_aload_n hx hb dX5_judge_71 rfl (lv_at hl 3 rfl) ?_
                refine lv_iload hx hb dX5_judge_72 (lv_at hl 2 rfl) ?_
                refine lv_iload hx hb dX5_judge_74 (lv_at hl 0 rfl) ?_
                refine vRdI (b := (q 0)) (As := [.int fr39, .int (f_X5_doingFromEnd (a1.toNatClampNeg - 1 - i_39) a2)]) (rest := []) hF (c_X5_withDoing l D cI cZ q now rains length poles parts plain key stair air acnt tcnt letters cells kinds frames rainsB abouts stoods kept keptF keptR seed fr39 (f_X5_doingFromEnd (a1.toNatClampNeg - 1 - i_39) a2)) (gdV tm_2_131 tm_2_133 tp_2 tm_1_1 tm_2_134) de_X5_withDoing ⟨Nat.le_of_ble_eq_true rfl, Nat.le_of_ble_eq_true rfl⟩ hP hK (va_recv hK hP (ci := 4) (q0 := 0) rfl XW_0) hl.1 rfl (Nat.le_of_ble_eq_true rfl) dX5_judge_76 ⟨Nat.zero_le _, Nat.zero_le _⟩ ?_
                refine lv_istore (lv' := [(4, .int (f_X5_withDoing plain key stair air fr39 (f_X5_doingFromEnd (a1.toNatClampNeg - 1 - i_39) a2))), (6, .int (f_X5_doingFromEnd (a1.toNatClampNeg - 1 - i_39) a2)), (5, .int (nI i_39)), (0, .ref (q 0)), (1, .int a1), (2, .long a2)]) hx hb dX5_judge_79 hl (by decide) rfl (fun ls hl => ?_)
                refine lv_iinc (v := (nI (i_39 + 1))) (lv' := [(5, .int (nI (i_39 + 1))), (4, .int (f_X5_withDoing plain key stair air fr39 (f_X5_doingFromEnd (a1.toNatClampNeg - 1 - i_39) a2))), (6, .int (f_X5_doingFromEnd (a1.toNatClampNeg - 1 - i_39) a2)), (0, .ref (q 0)), (1, .int a1), (2, .long a2)]) hx hb dX5_judge_81 hl (k := 2) rfl (nI_up i_39) (by decide) rfl (fun ls hl => ?_)
                refine lv_goto (tgt := 39) hx hb dX5_judge_84 (by decide) ?_
                exact ih_39 (i_39 + 1) (f_X5_withDoing plain key stair air fr39 (f_X5_doingFromEnd (a1.toNatClampNeg - 1 - i_39) a2)) ls (by omega) hR (lv_sub hl [0, 1, 3, 4, 5] rfl)
              · rw [if_pos c_65] at hR
                refine lv_iload hx hb dX5_judge_68 (lv_at hl 1 rfl) ?_
                subst hR
                exact fin _ _ dX5_judge_70 (nar_i _)
          exact key_39 a1.toNatClampNeg 0 now ls (by omega) hR (lv_sub hl [0, 1, 2, 3, 4] rfl)
        · rw [if_neg c_24] at hR
          refine lv_bipush (v := (-2 : Int32)) hx hb dX5_judge_27 (by decide) ?_
          subst hR
          exact fin _ _ dX5_judge_29 (nar_i _)
theorem bit_lt (x : Int32) : (f_J6_bitCount x).toInt < 72 := by
  unfold f_J6_bitCount
  obtain ⟨j, hj, e⟩ := pk_andE _ (m := 63) 6 (by decide)
  rw [e, nI_toInt (by omega)]; omega
theorem bit_ge (x : Int32) : 0 ≤ (f_J6_bitCount x).toInt := by
  unfold f_J6_bitCount
  obtain ⟨j, hj, e⟩ := pk_andE _ (m := 63) 6 (by decide)
  rw [e, nI_toInt (by omega)]; omega
theorem sub_lt {parts : Int32} {n : Nat} (hn : parts = nI n) (hn7 : n ≤ 7) (x : Int32) : (parts - 1 - f_J6_bitCount x).toInt < 72 := by
  have h1 := bit_lt x
  have h2 := bit_ge x
  have h3 : parts.toInt = n := by rw [hn, nI_toInt (by omega)]
  have e1 : (1 : Int32).toInt = 1 := by decide
  have h4 : (parts - 1).toInt = n - 1 := by rw [i_sub (by omega) (by omega)]; omega
  rw [i_sub (by omega) (by omega)]; omega
def f_X5_share_l23 (parts : Int32) (plain : Int32) (key : Int32) (stair : Int32) (air : Int32) (cells : Nat → Int32) (a1 : Int32) : Nat → Nat → (Int32) → Int32
  | 0, i_23, sm23 => sm23
  | d_23 + 1, i_23, sm23 => (if ((nI i_23) &&& (shl (1 : Int32) a1)) = (0 : Int32) then (f_X5_share_l23 parts plain key stair air cells a1 d_23 (i_23 + 1) (sm23 + (((f_X2_countStanding plain key stair air cells ((nI i_23) ||| (shl (1 : Int32) a1))) - (f_X2_countStanding plain key stair air cells (nI i_23))) * (f_X5_ordersWith parts (f_J6_bitCount (nI i_23)))))) else (f_X5_share_l23 parts plain key stair air cells a1 d_23 (i_23 + 1) sm23))
theorem f_X5_share_l23_z {parts : Int32} {plain : Int32} {key : Int32} {stair : Int32} {air : Int32} {cells : Nat → Int32} {a1 : Int32} {i_23 : Nat} {sm23 : Int32} : f_X5_share_l23 parts plain key stair air cells a1 0 i_23 sm23 = sm23 := by rw [f_X5_share_l23]
theorem f_X5_share_l23_s {parts : Int32} {plain : Int32} {key : Int32} {stair : Int32} {air : Int32} {cells : Nat → Int32} {a1 : Int32} {d_23 : Nat} {i_23 : Nat} {sm23 : Int32} : f_X5_share_l23 parts plain key stair air cells a1 (d_23 + 1) i_23 sm23 = (if ((nI i_23) &&& (shl (1 : Int32) a1)) = (0 : Int32) then (f_X5_share_l23 parts plain key stair air cells a1 d_23 (i_23 + 1) (sm23 + (((f_X2_countStanding plain key stair air cells ((nI i_23) ||| (shl (1 : Int32) a1))) - (f_X2_countStanding plain key stair air cells (nI i_23))) * (f_X5_ordersWith parts (f_J6_bitCount (nI i_23)))))) else (f_X5_share_l23 parts plain key stair air cells a1 d_23 (i_23 + 1) sm23)) := by rw [f_X5_share_l23]
def f_X5_share (n : Nat) (parts : Int32) (plain : Int32) (key : Int32) (stair : Int32) (air : Int32) (cells : Nat → Int32) (a1 : Int32) (a2 : Int32) : Int32 := (if (f_X2_isPart parts a1) = (0 : Int32) then (-1 : Int32) else (f_X5_told (f_X5_share_l23 parts plain key stair air cells a1 (2 ^ n) 0 (0 : Int32)) (f_X5_factorial parts) a2))
set_option maxHeartbeats 4000000 in
set_option maxRecDepth 100000 in
theorem c_X5_share (l : Launch) (D : va_G) (cI cZ : ClassId) (q : Nat → Nat) (now rains length poles parts plain key stair air acnt tcnt : Int32) (letters cells kinds frames rainsB abouts stoods kept keptF keptR : Nat → Int32) (seed : Int64) (a1 : Int32) (a2 : Int32) (n : Nat) (hn : parts = nI n) (hn7 : n ≤ 7) : RdI l yX5_share cX5_share 7 .int 3 70 D (tyL cI cZ) (XW cI cZ q now rains length poles parts plain key stair air acnt tcnt letters cells kinds frames rainsB abouts stoods kept keptF keptR seed) [.ref (q 0), .int a1, .int a2] (f_X5_share n parts plain key stair air cells a1 a2) := by
  refine RdI.of (by decide) (Nat.le_of_ble_eq_true rfl) ?_
  intro p e s m args below meth c Q hx hb hml hown hts hP hK fin ls hl
  have hown : s.vm.findClass RX5 = some m.cls := hown
  have hF : CallFix p m c cX5_share 7 s args tb RX5 := ⟨hx, hb, hml, hown, hts⟩
  have hl : lv_has ls 7 [(0, .ref (q 0)), (1, .int a1), (2, .int a2)] := hl
  generalize hR : (f_X5_share n parts plain key stair air cells a1 a2) = R at fin
  unfold f_X5_share at hR
  refine lv_aload_n hx hb dX5_share_0 rfl (lv_at hl 0 rfl) ?_
  refine va_get (D := D) (ci := 4) (v := .ref (q 2)) (C := RX5) (T := TX5) (N := 10) hx hb hts tbX5 hown hK hP 0 XW_0 rfl 1 (by decide) (hts _ tm_1_102) (fun _ h9 => h9) rfl dX5_share_1 ?_
  refine lv_iload_n hx hb dX5_share_4 rfl (lv_at hl 1 rfl) ?_
  refine vRdI (b := (q 2)) (As := [.int a1]) (rest := []) hF (c_X2_isPart l D cI cZ q poles parts plain key stair air cells kinds a1) (gdV tm_1_231 tm_1_232 tm_1_233 tm_1_3 tm_1_234) de_X2_isPart ⟨Nat.le_of_ble_eq_true rfl, Nat.le_of_ble_eq_true rfl⟩ (XW_P hP) hK (va_recv hK hP (ci := 1) (q0 := 2) rfl XW_2) hl.1 rfl (Nat.le_of_ble_eq_true rfl) dX5_share_5 ⟨Nat.zero_le _, Nat.zero_le _⟩ ?_
  refine lv_if_ne (tgt := 13) hx hb dX5_share_8 (by decide) (fun c_8 => ?_) (fun c_8 => ?_)
  · rw [if_neg c_8] at hR
    have hsh : shl (1 : Int32) parts = nI (2 ^ n) := by rw [hn]; exact shl_pow n (by omega)
    have hn2 := pow7 n hn7
    refine lv_iconst (v := (1 : Int32)) hx hb dX5_share_13 (by decide) ?_
    refine lv_iload_n hx hb dX5_share_14 rfl (lv_at hl 1 rfl) ?_
    refine lv_ishl hx hb dX5_share_15 ?_
    refine lv_rw (z := (shl (1 : Int32) a1)) rfl ?_
    refine lv_istore_n (lv' := [(3, .int (shl (1 : Int32) a1)), (0, .ref (q 0)), (1, .int a1), (2, .int a2)]) hx hb dX5_share_16 rfl hl (by decide) rfl (fun ls hl => ?_)
    refine lv_iconst (v := (0 : Int32)) hx hb dX5_share_17 (by decide) ?_
    refine lv_istore (lv' := [(4, .int (0 : Int32)), (3, .int (shl (1 : Int32) a1)), (0, .ref (q 0)), (1, .int a1), (2, .int a2)]) hx hb dX5_share_18 hl (by decide) rfl (fun ls hl => ?_)
    refine lv_iconst (v := (0 : Int32)) hx hb dX5_share_20 (by decide) ?_
    refine lv_istore (lv' := [(5, .int (0 : Int32)), (4, .int (0 : Int32)), (3, .int (shl (1 : Int32) a1)), (0, .ref (q 0)), (1, .int a1), (2, .int a2)]) hx hb dX5_share_21 hl (by decide) rfl (fun ls hl => ?_)
    obtain ⟨T_23, hT_23⟩ : ∃ z, f_X5_share_l23 parts plain key stair air cells a1 (2 ^ n) 0 (0 : Int32) = z := ⟨_, rfl⟩
    rw [hT_23] at hR
    have key_23 : ∀ (d_23 i_23 : Nat) (sm23 : Int32) (ls : Array Slot), i_23 + d_23 = (2 ^ n) → f_X5_share_l23 parts plain key stair air cells a1 d_23 i_23 sm23 = T_23 → lv_has ls 7 [(5, .int (nI i_23)), (4, .int sm23), (3, .int (shl (1 : Int32) a1)), (0, .ref (q 0)), (1, .int a1), (2, .int a2)] → W p l e (rmO 3 70) s m args below meth c s.heap [] 0 0 Q (F0 m 23 ls []) := by
      intro d_23
      induction d_23 with
      | zero =>
        intro i_23 sm23 ls hi_23 hT_23 hl
        rw [f_X5_share_l23_z] at hT_23
        refine lv_iload hx hb dX5_share_23 (lv_at hl 0 rfl) ?_
        refine lv_iconst (v := (1 : Int32)) hx hb dX5_share_25 (by decide) ?_
        refine lv_aload_n hx hb dX5_share_26 rfl (lv_at hl 3 rfl) ?_
        refine va_get (D := D) (ci := 4) (v := .ref (q 2)) (C := RX5) (T := TX5) (N := 10) hx hb hts tbX5 hown hK hP 0 XW_0 rfl 1 (by decide) (hts _ tm_1_102) (fun _ h9 => h9) rfl dX5_share_27 ?_
        refine va_get (D := D) (ci := 1) (v := .int parts) (C := RX2) (T := TX2) (N := 8) hx hb hts tbX2 hown hK hP 2 XW_2 rfl 3 (by decide) (hts _ tm_1_44) (fun _ h9 => h9) rfl dX5_share_30 ?_
        refine lv_ishl hx hb dX5_share_33 ?_
        refine lv_rw (z := (shl (1 : Int32) parts)) rfl ?_
        refine lv_icmp_ge (tgt := 90) hx hb dX5_share_34 (by decide) (fun c_34 => ?_) (fun c_34 => absurd (by rw [hsh]; exact nI_le  (by omega) (by omega)) c_34)
        subst hT_23
        try dsimp only at hR
        refine lv_iload hx hb dX5_share_90 (lv_at hl 1 rfl) ?_
        refine lv_aload_n hx hb dX5_share_92 rfl (lv_at hl 3 rfl) ?_
        refine va_get (D := D) (ci := 4) (v := .ref (q 2)) (C := RX5) (T := TX5) (N := 10) hx hb hts tbX5 hown hK hP 0 XW_0 rfl 1 (by decide) (hts _ tm_1_102) (fun _ h9 => h9) rfl dX5_share_93 ?_
        refine va_get (D := D) (ci := 1) (v := .int parts) (C := RX2) (T := TX2) (N := 8) hx hb hts tbX2 hown hK hP 2 XW_2 rfl 3 (by decide) (hts _ tm_1_44) (fun _ h9 => h9) rfl dX5_share_96 ?_
        refine sRdI (As := [.int parts]) (rest := [.int sm23]) hF (c_X5_factorial l D cI cZ q parts (by rw [hn, nI_toInt (by omega)]; omega)) (gdS tm_2_148 tm_2_149 tm_1_1 tm_2_150) de_X5_factorial ⟨Nat.le_of_ble_eq_true rfl, Nat.le_of_ble_eq_true rfl⟩ va_P_nil hK hl.1 rfl (Nat.le_of_ble_eq_true rfl) dX5_share_99 ⟨Nat.zero_le _, Nat.zero_le _⟩ ?_
        refine lv_iload_n hx hb dX5_share_102 rfl (lv_at hl 5 rfl) ?_
        refine sRdI (As := [.int sm23, .int (f_X5_factorial parts), .int a2]) (rest := []) hF (c_X5_told l D cI cZ q sm23 (f_X5_factorial parts) a2) (gdS tm_2_151 tm_2_152 tm_1_1 tm_2_153) de_X5_told ⟨Nat.le_of_ble_eq_true rfl, Nat.le_of_ble_eq_true rfl⟩ va_P_nil hK hl.1 rfl (Nat.le_of_ble_eq_true rfl) dX5_share_103 ⟨Nat.zero_le _, Nat.zero_le _⟩ ?_
        subst hR
        exact fin _ _ dX5_share_106 (nar_i _)
      | succ d_23 ih_23 =>
        intro i_23 sm23 ls hi_23 hT_23 hl
        rw [f_X5_share_l23_s] at hT_23
        refine lv_iload hx hb dX5_share_23 (lv_at hl 0 rfl) ?_
        refine lv_iconst (v := (1 : Int32)) hx hb dX5_share_25 (by decide) ?_
        refine lv_aload_n hx hb dX5_share_26 rfl (lv_at hl 3 rfl) ?_
        refine va_get (D := D) (ci := 4) (v := .ref (q 2)) (C := RX5) (T := TX5) (N := 10) hx hb hts tbX5 hown hK hP 0 XW_0 rfl 1 (by decide) (hts _ tm_1_102) (fun _ h9 => h9) rfl dX5_share_27 ?_
        refine va_get (D := D) (ci := 1) (v := .int parts) (C := RX2) (T := TX2) (N := 8) hx hb hts tbX2 hown hK hP 2 XW_2 rfl 3 (by decide) (hts _ tm_1_44) (fun _ h9 => h9) rfl dX5_share_30 ?_
        refine lv_ishl hx hb dX5_share_33 ?_
        refine lv_rw (z := (shl (1 : Int32) parts)) rfl ?_
        refine lv_icmp_ge (tgt := 90) hx hb dX5_share_34 (by decide) (fun c_34 => absurd c_34 (by rw [hsh]; exact nI_ge  (by omega) (by omega))) (fun c_34 => ?_)
        refine lv_iload hx hb dX5_share_37 (lv_at hl 0 rfl) ?_
        refine lv_iload_n hx hb dX5_share_39 rfl (lv_at hl 2 rfl) ?_
        refine lv_iand hx hb dX5_share_40 ?_
        refine lv_if_ne (tgt := 84) hx hb dX5_share_41 (by decide) (fun c_41 => ?_) (fun c_41 => ?_)
        · rw [if_neg c_41] at hT_23
          refine lv_iinc (v := (nI (i_23 + 1))) (lv' := [(5, .int (nI (i_23 + 1))), (4, .int sm23), (3, .int (shl (1 : Int32) a1)), (0, .ref (q 0)), (1, .int a1), (2, .int a2)]) hx hb dX5_share_84 hl (k := 0) rfl (nI_up i_23) (by decide) rfl (fun ls hl => ?_)
          refine lv_goto (tgt := 23) hx hb dX5_share_87 (by decide) ?_
          exact ih_23 (i_23 + 1) sm23 ls (by omega) hT_23 (lv_sub hl [0, 1, 2, 3, 4, 5] rfl)
        · rw [if_pos c_41] at hT_23
          refine lv_aload_n hx hb dX5_share_44 rfl (lv_at hl 3 rfl) ?_
          refine va_get (D := D) (ci := 4) (v := .ref (q 2)) (C := RX5) (T := TX5) (N := 10) hx hb hts tbX5 hown hK hP 0 XW_0 rfl 1 (by decide) (hts _ tm_1_102) (fun _ h9 => h9) rfl dX5_share_45 ?_
          refine lv_iload hx hb dX5_share_48 (lv_at hl 0 rfl) ?_
          refine lv_iload_n hx hb dX5_share_50 rfl (lv_at hl 2 rfl) ?_
          refine lv_ior hx hb dX5_share_51 ?_
          refine vRdI (b := (q 2)) (As := [.int ((nI i_23) ||| (shl (1 : Int32) a1))]) (rest := []) hF (c_X2_countStanding l D cI cZ q poles parts plain key stair air cells kinds ((nI i_23) ||| (shl (1 : Int32) a1))) (gdV tm_2_139 tm_2_140 tm_2_141 tm_1_3 tm_2_142) de_X2_countStanding ⟨Nat.le_of_ble_eq_true rfl, Nat.le_of_ble_eq_true rfl⟩ (XW_P hP) hK (va_recv hK hP (ci := 1) (q0 := 2) rfl XW_2) hl.1 rfl (Nat.le_of_ble_eq_true rfl) dX5_share_52 ⟨Nat.zero_le _, Nat.zero_le _⟩ ?_
          refine lv_aload_n hx hb dX5_share_55 rfl (lv_at hl 3 rfl) ?_
          refine va_get (D := D) (ci := 4) (v := .ref (q 2)) (C := RX5) (T := TX5) (N := 10) hx hb hts tbX5 hown hK hP 0 XW_0 rfl 1 (by decide) (hts _ tm_1_102) (fun _ h9 => h9) rfl dX5_share_56 ?_
          refine lv_iload hx hb dX5_share_59 (lv_at hl 0 rfl) ?_
          refine vRdI (b := (q 2)) (As := [.int (nI i_23)]) (rest := [.int (f_X2_countStanding plain key stair air cells ((nI i_23) ||| (shl (1 : Int32) a1)))]) hF (c_X2_countStanding l D cI cZ q poles parts plain key stair air cells kinds (nI i_23)) (gdV tm_2_139 tm_2_140 tm_2_141 tm_1_3 tm_2_142) de_X2_countStanding ⟨Nat.le_of_ble_eq_true rfl, Nat.le_of_ble_eq_true rfl⟩ (XW_P hP) hK (va_recv hK hP (ci := 1) (q0 := 2) rfl XW_2) hl.1 rfl (Nat.le_of_ble_eq_true rfl) dX5_share_61 ⟨Nat.zero_le _, Nat.zero_le _⟩ ?_
          refine lv_isub hx hb dX5_share_64 ?_
          refine lv_istore (lv' := [(6, .int ((f_X2_countStanding plain key stair air cells ((nI i_23) ||| (shl (1 : Int32) a1))) - (f_X2_countStanding plain key stair air cells (nI i_23)))), (5, .int (nI i_23)), (4, .int sm23), (3, .int (shl (1 : Int32) a1)), (0, .ref (q 0)), (1, .int a1), (2, .int a2)]) hx hb dX5_share_65 hl (by decide) rfl (fun ls hl => ?_)
          refine lv_iload hx hb dX5_share_67 (lv_at hl 2 rfl) ?_
          refine lv_iload hx hb dX5_share_69 (lv_at hl 0 rfl) ?_
          refine lv_aload_n hx hb dX5_share_71 rfl (lv_at hl 4 rfl) ?_
          refine lv_iload hx hb dX5_share_72 (lv_at hl 1 rfl) ?_
          refine sRdI (As := [.int (nI i_23)]) (rest := [.ref (q 0), .int ((f_X2_countStanding plain key stair air cells ((nI i_23) ||| (shl (1 : Int32) a1))) - (f_X2_countStanding plain key stair air cells (nI i_23))), .int sm23]) hF (c_J6_bitCount l D cI cZ q (nI i_23)) (gdS tm_1_210 tm_1_200 tm_1_9 tm_1_201) de_J6_bitCount_0f7a4 ⟨Nat.le_of_ble_eq_true rfl, Nat.le_of_ble_eq_true rfl⟩ va_P_nil hK hl.1 rfl (Nat.le_of_ble_eq_true rfl) dX5_share_74 ⟨Nat.zero_le _, Nat.zero_le _⟩ ?_
          refine vRdI (b := (q 0)) (As := [.int (f_J6_bitCount (nI i_23))]) (rest := [.int ((f_X2_countStanding plain key stair air cells ((nI i_23) ||| (shl (1 : Int32) a1))) - (f_X2_countStanding plain key stair air cells (nI i_23))), .int sm23]) hF (c_X5_ordersWith l D cI cZ q now rains length poles parts plain key stair air acnt tcnt letters cells kinds frames rainsB abouts stoods kept keptF keptR seed (f_J6_bitCount (nI i_23)) (bit_lt _) (sub_lt hn hn7 _)) (gdV tm_2_144 tm_2_146 tp_3 tm_1_1 tm_2_147) de_X5_ordersWith ⟨Nat.le_of_ble_eq_true rfl, Nat.le_of_ble_eq_true rfl⟩ hP hK (va_recv hK hP (ci := 4) (q0 := 0) rfl XW_0) hl.1 rfl (Nat.le_of_ble_eq_true rfl) dX5_share_77 ⟨Nat.zero_le _, Nat.zero_le _⟩ ?_
          refine lv_imul hx hb dX5_share_80 ?_
          refine lv_iadd hx hb dX5_share_81 ?_
          refine lv_istore (lv' := [(4, .int (sm23 + (((f_X2_countStanding plain key stair air cells ((nI i_23) ||| (shl (1 : Int32) a1))) - (f_X2_countStanding plain key stair air cells (nI i_23))) * (f_X5_ordersWith parts (f_J6_bitCount (nI i_23)))))), (6, .int ((f_X2_countStanding plain key stair air cells ((nI i_23) ||| (shl (1 : Int32) a1))) - (f_X2_countStanding plain key stair air cells (nI i_23)))), (5, .int (nI i_23)), (3, .int (shl (1 : Int32) a1)), (0, .ref (q 0)), (1, .int a1), (2, .int a2)]) hx hb dX5_share_82 hl (by decide) rfl (fun ls hl => ?_)
          refine lv_iinc (v := (nI (i_23 + 1))) (lv' := [(5, .int (nI (i_23 + 1))), (4, .int (sm23 + (((f_X2_countStanding plain key stair air cells ((nI i_23) ||| (shl (1 : Int32) a1))) - (f_X2_countStanding plain key stair air cells (nI i_23))) * (f_X5_ordersWith parts (f_J6_bitCount (nI i_23)))))), (6, .int ((f_X2_countStanding plain key stair air cells ((nI i_23) ||| (shl (1 : Int32) a1))) - (f_X2_countStanding plain key stair air cells (nI i_23)))), (3, .int (shl (1 : Int32) a1)), (0, .ref (q 0)), (1, .int a1), (2, .int a2)]) hx hb dX5_share_84 hl (k := 2) rfl (nI_up i_23) (by decide) rfl (fun ls hl => ?_)
          refine lv_goto (tgt := 23) hx hb dX5_share_87 (by decide) ?_
          exact ih_23 (i_23 + 1) (sm23 + (((f_X2_countStanding plain key stair air cells ((nI i_23) ||| (shl (1 : Int32) a1))) - (f_X2_countStanding plain key stair air cells (nI i_23))) * (f_X5_ordersWith parts (f_J6_bitCount (nI i_23))))) ls (by omega) hT_23 (lv_sub hl [0, 1, 3, 4, 5, 6] rfl)
    exact key_23 (2 ^ n) 0 (0 : Int32) ls (by omega) hT_23 (lv_sub hl [0, 1, 2, 3, 4, 5] rfl)
  · rw [if_pos c_8] at hR
    refine lv_iconst (v := (-1 : Int32)) hx hb dX5_share_11 (by decide) ?_
    subst hR
    exact fin _ _ dX5_share_12 (nar_i _)
def f_X5_attempt (tcnt : Int32) (abouts : Nat → Int32) (stoods : Nat → Int32) (a1 : Int32) (a2 : Int32) : (Int32) × (Int32) × (Nat → Int32) × (Nat → Int32) := (if a1 < (0 : Int32) then ((-2 : Int32), tcnt, abouts, stoods) else (if (31 : Int32) < a1 then ((-2 : Int32), tcnt, abouts, stoods) else (if a2 < (0 : Int32) then ((-2 : Int32), tcnt, abouts, stoods) else (if a2 ≤ (1 : Int32) then (if a2 = (1 : Int32) then (if (f_X4_add tcnt abouts stoods a1 (1 : Int32)).1 = (0 : Int32) then ((-4 : Int32), (f_X4_add tcnt abouts stoods a1 (1 : Int32)).2.1, (f_X4_add tcnt abouts stoods a1 (1 : Int32)).2.2.1, (f_X4_add tcnt abouts stoods a1 (1 : Int32)).2.2.2) else ((f_X4_add tcnt abouts stoods a1 (1 : Int32)).2.1, (f_X4_add tcnt abouts stoods a1 (1 : Int32)).2.1, (f_X4_add tcnt abouts stoods a1 (1 : Int32)).2.2.1, (f_X4_add tcnt abouts stoods a1 (1 : Int32)).2.2.2)) else (if (f_X4_add tcnt abouts stoods a1 (0 : Int32)).1 = (0 : Int32) then ((-4 : Int32), (f_X4_add tcnt abouts stoods a1 (0 : Int32)).2.1, (f_X4_add tcnt abouts stoods a1 (0 : Int32)).2.2.1, (f_X4_add tcnt abouts stoods a1 (0 : Int32)).2.2.2) else ((f_X4_add tcnt abouts stoods a1 (0 : Int32)).2.1, (f_X4_add tcnt abouts stoods a1 (0 : Int32)).2.1, (f_X4_add tcnt abouts stoods a1 (0 : Int32)).2.2.1, (f_X4_add tcnt abouts stoods a1 (0 : Int32)).2.2.2))) else ((-2 : Int32), tcnt, abouts, stoods)))))
set_option maxHeartbeats 4000000 in
set_option maxRecDepth 100000 in
theorem c_X5_attempt (l : Launch) (D : va_G) (cI cZ : ClassId) (q : Nat → Nat) (now rains length poles parts plain key stair air acnt tcnt : Int32) (letters cells kinds frames rainsB abouts stoods kept keptF keptR : Nat → Int32) (seed : Int64) (a1 : Int32) (a2 : Int32) : WrI l yX5_attempt cX5_attempt 3 .int 1 22 D (tyL cI cZ) (XW cI cZ q now rains length poles parts plain key stair air acnt tcnt letters cells kinds frames rainsB abouts stoods kept keptF keptR seed) [.ref (q 0), .int a1, .int a2] (f_X5_attempt tcnt abouts stoods a1 a2).1 (XW cI cZ q now rains length poles parts plain key stair air acnt (f_X5_attempt tcnt abouts stoods a1 a2).2.1 letters cells kinds frames rainsB (f_X5_attempt tcnt abouts stoods a1 a2).2.2.1 (f_X5_attempt tcnt abouts stoods a1 a2).2.2.2 kept keptF keptR seed) := by
  refine WrI.of (by decide) (Nat.le_of_ble_eq_true rfl) ?_
  intro p e s m args below meth c Q A hx hb hml hown hts hP hK hD hS fin ls hl
  have hown : s.vm.findClass RX5 = some m.cls := hown
  have hF : CallFix p m c cX5_attempt 3 s args tb RX5 := ⟨hx, hb, hml, hown, hts⟩
  have hl : lv_has ls 3 [(0, .ref (q 0)), (1, .int a1), (2, .int a2)] := hl
  generalize hR : (f_X5_attempt tcnt abouts stoods a1 a2) = R at fin
  unfold f_X5_attempt at hR
  refine lv_iload_n hx hb dX5_attempt_0 rfl (lv_at hl 1 rfl) ?_
  refine lv_if_lt (tgt := 19) hx hb dX5_attempt_1 (by decide) (fun c_1 => ?_) (fun c_1 => ?_)
  · rw [if_pos c_1] at hR
    refine lv_bipush (v := (-2 : Int32)) hx hb dX5_attempt_19 (by decide) ?_
    subst hR
    exact fin _ _ _ _ dX5_attempt_21 (nar_i _) hP hS
  · rw [if_neg c_1] at hR
    refine lv_iload_n hx hb dX5_attempt_4 rfl (lv_at hl 1 rfl) ?_
    refine lv_bipush (v := (31 : Int32)) hx hb dX5_attempt_5 (by decide) ?_
    refine lv_icmp_gt (tgt := 19) hx hb dX5_attempt_7 (by decide) (fun c_7 => ?_) (fun c_7 => ?_)
    · rw [if_pos c_7] at hR
      refine lv_bipush (v := (-2 : Int32)) hx hb dX5_attempt_19 (by decide) ?_
      subst hR
      exact fin _ _ _ _ dX5_attempt_21 (nar_i _) hP hS
    · rw [if_neg c_7] at hR
      refine lv_iload_n hx hb dX5_attempt_10 rfl (lv_at hl 2 rfl) ?_
      refine lv_if_lt (tgt := 19) hx hb dX5_attempt_11 (by decide) (fun c_11 => ?_) (fun c_11 => ?_)
      · rw [if_pos c_11] at hR
        refine lv_bipush (v := (-2 : Int32)) hx hb dX5_attempt_19 (by decide) ?_
        subst hR
        exact fin _ _ _ _ dX5_attempt_21 (nar_i _) hP hS
      · rw [if_neg c_11] at hR
        refine lv_iload_n hx hb dX5_attempt_14 rfl (lv_at hl 2 rfl) ?_
        refine lv_iconst (v := (1 : Int32)) hx hb dX5_attempt_15 (by decide) ?_
        refine lv_icmp_le (tgt := 22) hx hb dX5_attempt_16 (by decide) (fun c_16 => ?_) (fun c_16 => ?_)
        · rw [if_pos c_16] at hR
          refine lv_aload_n hx hb dX5_attempt_22 rfl (lv_at hl 0 rfl) ?_
          refine va_get (D := D) (ci := 4) (v := .ref (q 4)) (C := RX5) (T := TX5) (N := 10) hx hb hts tbX5 hown hK hP 0 XW_0 rfl 3 (by decide) (hts _ tm_1_104) (fun _ h9 => h9) rfl dX5_attempt_23 ?_
          refine lv_iload_n hx hb dX5_attempt_26 rfl (lv_at hl 1 rfl) ?_
          refine lv_iload_n hx hb dX5_attempt_27 rfl (lv_at hl 2 rfl) ?_
          refine lv_iconst (v := (1 : Int32)) hx hb dX5_attempt_28 (by decide) ?_
          refine lv_icmp_ne (tgt := 36) hx hb dX5_attempt_29 (by decide) (fun c_29 => ?_) (fun c_29 => ?_)
          · rw [if_neg c_29] at hR
            refine lv_iconst (v := (0 : Int32)) hx hb dX5_attempt_36 (by decide) ?_
            refine vWrI (b := (q 4)) (As := [.int a1, .int (0 : Int32)]) (rest := []) hF (c_X4_add l D cI cZ q now rains length poles parts plain key stair air acnt tcnt letters cells kinds frames rainsB abouts stoods kept keptF keptR seed a1 (0 : Int32) (by decide)) (gdV tm_2_161 tm_2_162 tm_2_163 tm_1_5 tm_2_164) de_X4_add ⟨Nat.le_of_ble_eq_true rfl, Nat.le_of_ble_eq_true rfl⟩ hP hK (va_recv hK hP (ci := 3) (q0 := 4) rfl XW_4) hl.1 rfl (Nat.le_of_ble_eq_true rfl) dX5_attempt_37 ⟨Nat.zero_le _, Nat.zero_le _⟩ hD hS (fun H locs hP hS => ?_)
            have hP : va_P D vwCl (XW cI cZ q now rains length poles parts plain key stair air acnt (f_X4_add tcnt abouts stoods a1 (0 : Int32)).2.1 letters cells kinds frames rainsB (f_X4_add tcnt abouts stoods a1 (0 : Int32)).2.2.1 (f_X4_add tcnt abouts stoods a1 (0 : Int32)).2.2.2 kept keptF keptR seed) H := hP
            have hD : va_D A (XW cI cZ q now rains length poles parts plain key stair air acnt (f_X4_add tcnt abouts stoods a1 (0 : Int32)).2.1 letters cells kinds frames rainsB (f_X4_add tcnt abouts stoods a1 (0 : Int32)).2.2.1 (f_X4_add tcnt abouts stoods a1 (0 : Int32)).2.2.2 kept keptF keptR seed) := hD.same rfl
            refine lv_if_eq (tgt := 53) hx hb dX5_attempt_40 (by decide) (fun c_40 => ?_) (fun c_40 => ?_)
            · rw [if_pos c_40] at hR
              refine lv_bipush (v := (-4 : Int32)) hx hb dX5_attempt_53 (by decide) ?_
              subst hR
              exact fin _ _ _ _ dX5_attempt_55 (nar_i _) hP hS
            · rw [if_neg c_40] at hR
              refine lv_aload_n hx hb dX5_attempt_43 rfl (lv_at hl 0 rfl) ?_
              refine va_get (D := D) (ci := 4) (v := .ref (q 4)) (C := RX5) (T := TX5) (N := 10) hx hb hts tbX5 hown hK hP 0 XW_0 rfl 3 (by decide) (hts _ tm_1_104) (fun _ h9 => h9) rfl dX5_attempt_44 ?_
              refine va_get (D := D) (ci := 3) (v := .int (f_X4_add tcnt abouts stoods a1 (0 : Int32)).2.1) (C := RX4) (T := TX4) (N := 3) hx hb hts tbX4 hown hK hP 4 XW_4 rfl 2 (by decide) (hts _ tm_1_92) (fun _ h9 => h9) rfl dX5_attempt_47 ?_
              refine lv_goto (tgt := 55) hx hb dX5_attempt_50 (by decide) ?_
              subst hR
              exact fin _ _ _ _ dX5_attempt_55 (nar_i _) hP hS
          · rw [if_pos c_29] at hR
            refine lv_iconst (v := (1 : Int32)) hx hb dX5_attempt_32 (by decide) ?_
            refine lv_goto (tgt := 37) hx hb dX5_attempt_33 (by decide) ?_
            refine vWrI (b := (q 4)) (As := [.int a1, .int (1 : Int32)]) (rest := []) hF (c_X4_add l D cI cZ q now rains length poles parts plain key stair air acnt tcnt letters cells kinds frames rainsB abouts stoods kept keptF keptR seed a1 (1 : Int32) (by decide)) (gdV tm_2_161 tm_2_162 tm_2_163 tm_1_5 tm_2_164) de_X4_add ⟨Nat.le_of_ble_eq_true rfl, Nat.le_of_ble_eq_true rfl⟩ hP hK (va_recv hK hP (ci := 3) (q0 := 4) rfl XW_4) hl.1 rfl (Nat.le_of_ble_eq_true rfl) dX5_attempt_37 ⟨Nat.zero_le _, Nat.zero_le _⟩ hD hS (fun H locs hP hS => ?_)
            have hP : va_P D vwCl (XW cI cZ q now rains length poles parts plain key stair air acnt (f_X4_add tcnt abouts stoods a1 (1 : Int32)).2.1 letters cells kinds frames rainsB (f_X4_add tcnt abouts stoods a1 (1 : Int32)).2.2.1 (f_X4_add tcnt abouts stoods a1 (1 : Int32)).2.2.2 kept keptF keptR seed) H := hP
            have hD : va_D A (XW cI cZ q now rains length poles parts plain key stair air acnt (f_X4_add tcnt abouts stoods a1 (1 : Int32)).2.1 letters cells kinds frames rainsB (f_X4_add tcnt abouts stoods a1 (1 : Int32)).2.2.1 (f_X4_add tcnt abouts stoods a1 (1 : Int32)).2.2.2 kept keptF keptR seed) := hD.same rfl
            refine lv_if_eq (tgt := 53) hx hb dX5_attempt_40 (by decide) (fun c_40 => ?_) (fun c_40 => ?_)
            · rw [if_pos c_40] at hR
              refine lv_bipush (v := (-4 : Int32)) hx hb dX5_attempt_53 (by decide) ?_
              subst hR
              exact fin _ _ _ _ dX5_attempt_55 (nar_i _) hP hS
            · rw [if_neg c_40] at hR
              refine lv_aload_n hx hb dX5_attempt_43 rfl (lv_at hl 0 rfl) ?_
              refine va_get (D := D) (ci := 4) (v := .ref (q 4)) (C := RX5) (T := TX5) (N := 10) hx hb hts tbX5 hown hK hP 0 XW_0 rfl 3 (by decide) (hts _ tm_1_104) (fun _ h9 => h9) rfl dX5_attempt_44 ?_
              refine va_get (D := D) (ci := 3) (v := .int (f_X4_add tcnt abouts stoods a1 (1 : Int32)).2.1) (C := RX4) (T := TX4) (N := 3) hx hb hts tbX4 hown hK hP 4 XW_4 rfl 2 (by decide) (hts _ tm_1_92) (fun _ h9 => h9) rfl dX5_attempt_47 ?_
              refine lv_goto (tgt := 55) hx hb dX5_attempt_50 (by decide) ?_
              subst hR
              exact fin _ _ _ _ dX5_attempt_55 (nar_i _) hP hS
        · rw [if_neg c_16] at hR
          refine lv_bipush (v := (-2 : Int32)) hx hb dX5_attempt_19 (by decide) ?_
          subst hR
          exact fin _ _ _ _ dX5_attempt_21 (nar_i _) hP hS
def f_X5_unattempt (tcnt : Int32) : (Int32) × (Int32) := (tcnt, (0 : Int32))
set_option maxHeartbeats 4000000 in
set_option maxRecDepth 100000 in
theorem c_X5_unattempt (l : Launch) (D : va_G) (cI cZ : ClassId) (q : Nat → Nat) (now rains length poles parts plain key stair air acnt tcnt : Int32) (letters cells kinds frames rainsB abouts stoods kept keptF keptR : Nat → Int32) (seed : Int64) : WrI l yX5_unattempt cX5_unattempt 2 .int 0 0 D (tyL cI cZ) (XW cI cZ q now rains length poles parts plain key stair air acnt tcnt letters cells kinds frames rainsB abouts stoods kept keptF keptR seed) [.ref (q 0)] (f_X5_unattempt tcnt).1 (XW cI cZ q now rains length poles parts plain key stair air acnt (f_X5_unattempt tcnt).2 letters cells kinds frames rainsB abouts stoods kept keptF keptR seed) := by
  refine WrI.of (by decide) (Nat.le_of_ble_eq_true rfl) ?_
  intro p e s m args below meth c Q A hx hb hml hown hts hP hK hD hS fin ls hl
  have hown : s.vm.findClass RX5 = some m.cls := hown
  have hF : CallFix p m c cX5_unattempt 2 s args tb RX5 := ⟨hx, hb, hml, hown, hts⟩
  have hl : lv_has ls 2 [(0, .ref (q 0))] := hl
  generalize hR : (f_X5_unattempt tcnt) = R at fin
  unfold f_X5_unattempt at hR
  refine lv_aload_n hx hb dX5_unattempt_0 rfl (lv_at hl 0 rfl) ?_
  refine va_get (D := D) (ci := 4) (v := .ref (q 4)) (C := RX5) (T := TX5) (N := 10) hx hb hts tbX5 hown hK hP 0 XW_0 rfl 3 (by decide) (hts _ tm_1_104) (fun _ h9 => h9) rfl dX5_unattempt_1 ?_
  refine va_get (D := D) (ci := 3) (v := .int tcnt) (C := RX4) (T := TX4) (N := 3) hx hb hts tbX4 hown hK hP 4 XW_4 rfl 2 (by decide) (hts _ tm_1_92) (fun _ h9 => h9) rfl dX5_unattempt_4 ?_
  refine lv_istore_n (lv' := [(1, .int tcnt), (0, .ref (q 0))]) hx hb dX5_unattempt_7 rfl hl (by decide) rfl (fun ls hl => ?_)
  refine lv_aload_n hx hb dX5_unattempt_8 rfl (lv_at hl 1 rfl) ?_
  refine va_get (D := D) (ci := 4) (v := .ref (q 4)) (C := RX5) (T := TX5) (N := 10) hx hb hts tbX5 hown hK hP 0 XW_0 rfl 3 (by decide) (hts _ tm_1_104) (fun _ h9 => h9) rfl dX5_unattempt_9 ?_
  refine lv_iconst (v := (0 : Int32)) hx hb dX5_unattempt_12 (by decide) ?_
  refine va_put (D := D) (ci := 3) (v := .int (0 : Int32)) (ty := .int) (C := RX4) (T := TX4) (N := 3) hx hb hts tbX4 tyX4 tyX4_ok nmX4 hown hK hP hD hS 4 XW_4 rfl 2 (by decide) (hts _ tm_1_92) (fun _ h9 => h9) rfl (by decide +kernel) rfl rfl (Nat.le_of_ble_eq_true rfl) dX5_unattempt_13 (fun H locs hP hD hS => ?_)
  have hP : va_P D vwCl (XW cI cZ q now rains length poles parts plain key stair air acnt (0 : Int32) letters cells kinds frames rainsB abouts stoods kept keptF keptR seed) H := hP
  have hD : va_D A (XW cI cZ q now rains length poles parts plain key stair air acnt (0 : Int32) letters cells kinds frames rainsB abouts stoods kept keptF keptR seed) := hD.same rfl
  refine lv_iload_n hx hb dX5_unattempt_16 rfl (lv_at hl 0 rfl) ?_
  subst hR
  exact fin _ _ _ _ dX5_unattempt_17 (nar_i _) hP hS
def f_X5_kinds_l27 (tc : Nat) (abouts : Nat → Int32) (stoods : Nat → Int32) (i_18 : Nat) : Nat → Nat → (Int32) → (Int32) → (Int32) × (Int32)
  | 0, i_27, ct27, fi27 => (ct27, fi27)
  | d_27 + 1, i_27, ct27, fi27 => (if (f_X4_agreeWith tc abouts stoods (nI i_18) (nI i_27)) = (0 : Int32) then (f_X5_kinds_l27 tc abouts stoods i_18 d_27 (i_27 + 1) ct27 fi27) else (if ct27 = (0 : Int32) then (f_X5_kinds_l27 tc abouts stoods i_18 d_27 (i_27 + 1) (ct27 + (1 : Int32)) (((10 : Int32) * (nI i_18)) + (nI i_27))) else (f_X5_kinds_l27 tc abouts stoods i_18 d_27 (i_27 + 1) (ct27 + (1 : Int32)) fi27)))
theorem f_X5_kinds_l27_z {tc : Nat} {abouts : Nat → Int32} {stoods : Nat → Int32} {i_18 : Nat} {i_27 : Nat} {ct27 : Int32} {fi27 : Int32} : f_X5_kinds_l27 tc abouts stoods i_18 0 i_27 ct27 fi27 = (ct27, fi27) := by rw [f_X5_kinds_l27]
theorem f_X5_kinds_l27_s {tc : Nat} {abouts : Nat → Int32} {stoods : Nat → Int32} {i_18 : Nat} {d_27 : Nat} {i_27 : Nat} {ct27 : Int32} {fi27 : Int32} : f_X5_kinds_l27 tc abouts stoods i_18 (d_27 + 1) i_27 ct27 fi27 = (if (f_X4_agreeWith tc abouts stoods (nI i_18) (nI i_27)) = (0 : Int32) then (f_X5_kinds_l27 tc abouts stoods i_18 d_27 (i_27 + 1) ct27 fi27) else (if ct27 = (0 : Int32) then (f_X5_kinds_l27 tc abouts stoods i_18 d_27 (i_27 + 1) (ct27 + (1 : Int32)) (((10 : Int32) * (nI i_18)) + (nI i_27))) else (f_X5_kinds_l27 tc abouts stoods i_18 d_27 (i_27 + 1) (ct27 + (1 : Int32)) fi27))) := by rw [f_X5_kinds_l27]
def f_X5_kinds_l18 (tc : Nat) (abouts : Nat → Int32) (stoods : Nat → Int32) : Nat → Nat → (Int32) → (Int32) → (Int32) × (Int32)
  | 0, i_18, ct18, fi18 => (ct18, fi18)
  | d_18 + 1, i_18, ct18, fi18 => (f_X5_kinds_l18 tc abouts stoods d_18 (i_18 + 1) (f_X5_kinds_l27 tc abouts stoods i_18 4 0 ct18 fi18).1 (f_X5_kinds_l27 tc abouts stoods i_18 4 0 ct18 fi18).2)
theorem f_X5_kinds_l18_z {tc : Nat} {abouts : Nat → Int32} {stoods : Nat → Int32} {i_18 : Nat} {ct18 : Int32} {fi18 : Int32} : f_X5_kinds_l18 tc abouts stoods 0 i_18 ct18 fi18 = (ct18, fi18) := by rw [f_X5_kinds_l18]
theorem f_X5_kinds_l18_s {tc : Nat} {abouts : Nat → Int32} {stoods : Nat → Int32} {d_18 : Nat} {i_18 : Nat} {ct18 : Int32} {fi18 : Int32} : f_X5_kinds_l18 tc abouts stoods (d_18 + 1) i_18 ct18 fi18 = (f_X5_kinds_l18 tc abouts stoods d_18 (i_18 + 1) (f_X5_kinds_l27 tc abouts stoods i_18 4 0 ct18 fi18).1 (f_X5_kinds_l27 tc abouts stoods i_18 4 0 ct18 fi18).2) := by rw [f_X5_kinds_l18]
def f_X5_kinds (tc : Nat) (abouts : Nat → Int32) (stoods : Nat → Int32) (a1 : Int32) : Int32 := (if (f_X5_isCountOrFirst a1) = (0 : Int32) then (-2 : Int32) else (if a1 = (0 : Int32) then (f_X5_kinds_l18 tc abouts stoods 4 0 (0 : Int32) (-9 : Int32)).1 else (f_X5_kinds_l18 tc abouts stoods 4 0 (0 : Int32) (-9 : Int32)).2))
set_option maxHeartbeats 4000000 in
set_option maxRecDepth 100000 in
theorem c_X5_kinds (l : Launch) (D : va_G) (cI cZ : ClassId) (q : Nat → Nat) (now rains length poles parts plain key stair air acnt tcnt : Int32) (letters cells kinds frames rainsB abouts stoods kept keptF keptR : Nat → Int32) (seed : Int64) (a1 : Int32) (tc : Nat) (htc : tcnt = nI tc) (htc6 : tc ≤ 6) : RdI l yX5_kinds cX5_kinds 6 .int 2 45 D (tyL cI cZ) (XW cI cZ q now rains length poles parts plain key stair air acnt tcnt letters cells kinds frames rainsB abouts stoods kept keptF keptR seed) [.ref (q 0), .int a1] (f_X5_kinds tc abouts stoods a1) := by
  refine RdI.of (by decide) (Nat.le_of_ble_eq_true rfl) ?_
  intro p e s m args below meth c Q hx hb hml hown hts hP hK fin ls hl
  have hown : s.vm.findClass RX5 = some m.cls := hown
  have hF : CallFix p m c cX5_kinds 6 s args tb RX5 := ⟨hx, hb, hml, hown, hts⟩
  have hl : lv_has ls 6 [(0, .ref (q 0)), (1, .int a1)] := hl
  generalize hR : (f_X5_kinds tc abouts stoods a1) = R at fin
  unfold f_X5_kinds at hR
  refine lv_iload_n hx hb dX5_kinds_0 rfl (lv_at hl 1 rfl) ?_
  refine sRdI (As := [.int a1]) (rest := []) hF (c_X5_isCountOrFirst l D cI cZ q a1) (gdS tm_2_97 tm_2_98 tm_1_1 tm_2_99) de_X5_isCountOrFirst ⟨Nat.le_of_ble_eq_true rfl, Nat.le_of_ble_eq_true rfl⟩ va_P_nil hK hl.1 rfl (Nat.le_of_ble_eq_true rfl) dX5_kinds_1 ⟨Nat.zero_le _, Nat.zero_le _⟩ ?_
  refine lv_if_ne (tgt := 10) hx hb dX5_kinds_4 (by decide) (fun c_4 => ?_) (fun c_4 => ?_)
  · rw [if_neg c_4] at hR
    refine lv_iconst (v := (0 : Int32)) hx hb dX5_kinds_10 (by decide) ?_
    refine lv_istore_n (lv' := [(2, .int (0 : Int32)), (0, .ref (q 0)), (1, .int a1)]) hx hb dX5_kinds_11 rfl hl (by decide) rfl (fun ls hl => ?_)
    refine lv_bipush (v := (-9 : Int32)) hx hb dX5_kinds_12 (by decide) ?_
    refine lv_istore_n (lv' := [(3, .int (-9 : Int32)), (2, .int (0 : Int32)), (0, .ref (q 0)), (1, .int a1)]) hx hb dX5_kinds_14 rfl hl (by decide) rfl (fun ls hl => ?_)
    refine lv_iconst (v := (0 : Int32)) hx hb dX5_kinds_15 (by decide) ?_
    refine lv_istore (lv' := [(4, .int (0 : Int32)), (3, .int (-9 : Int32)), (2, .int (0 : Int32)), (0, .ref (q 0)), (1, .int a1)]) hx hb dX5_kinds_16 hl (by decide) rfl (fun ls hl => ?_)
    obtain ⟨T_18, hT_18⟩ : ∃ z, f_X5_kinds_l18 tc abouts stoods 4 0 (0 : Int32) (-9 : Int32) = z := ⟨_, rfl⟩
    rw [hT_18] at hR
    have key_18 : ∀ (d_18 i_18 : Nat) (ct18 : Int32) (fi18 : Int32) (ls : Array Slot), i_18 + d_18 = 4 → f_X5_kinds_l18 tc abouts stoods d_18 i_18 ct18 fi18 = T_18 → lv_has ls 6 [(4, .int (nI i_18)), (3, .int fi18), (2, .int ct18), (0, .ref (q 0)), (1, .int a1)] → W p l e (rmO 2 45) s m args below meth c s.heap [] 0 0 Q (F0 m 18 ls []) := by
      intro d_18
      induction d_18 with
      | zero =>
        intro i_18 ct18 fi18 ls hi_18 hT_18 hl
        rw [f_X5_kinds_l18_z] at hT_18
        refine lv_iload hx hb dX5_kinds_18 (lv_at hl 0 rfl) ?_
        refine lv_iconst (v := (4 : Int32)) hx hb dX5_kinds_20 (by decide) ?_
        refine lv_icmp_ge (tgt := 79) hx hb dX5_kinds_21 (by decide) (fun c_21 => ?_) (fun c_21 => absurd (nI_le (a := 4) (by omega) (by omega)) c_21)
        subst hT_18
        try dsimp only at hR
        refine lv_iload_n hx hb dX5_kinds_79 rfl (lv_at hl 4 rfl) ?_
        refine lv_if_ne (tgt := 87) hx hb dX5_kinds_80 (by decide) (fun c_80 => ?_) (fun c_80 => ?_)
        · rw [if_neg c_80] at hR
          refine lv_iload_n hx hb dX5_kinds_87 rfl (lv_at hl 1 rfl) ?_
          subst hR
          exact fin _ _ dX5_kinds_88 (nar_i _)
        · rw [if_pos c_80] at hR
          refine lv_iload_n hx hb dX5_kinds_83 rfl (lv_at hl 2 rfl) ?_
          refine lv_goto (tgt := 88) hx hb dX5_kinds_84 (by decide) ?_
          subst hR
          exact fin _ _ dX5_kinds_88 (nar_i _)
      | succ d_18 ih_18 =>
        intro i_18 ct18 fi18 ls hi_18 hT_18 hl
        rw [f_X5_kinds_l18_s] at hT_18
        refine lv_iload hx hb dX5_kinds_18 (lv_at hl 0 rfl) ?_
        refine lv_iconst (v := (4 : Int32)) hx hb dX5_kinds_20 (by decide) ?_
        refine lv_icmp_ge (tgt := 79) hx hb dX5_kinds_21 (by decide) (fun c_21 => absurd c_21 (nI_ge (b := 4) (by omega) (by omega))) (fun c_21 => ?_)
        refine lv_iconst (v := (0 : Int32)) hx hb dX5_kinds_24 (by decide) ?_
        refine lv_istore (lv' := [(5, .int (0 : Int32)), (4, .int (nI i_18)), (3, .int fi18), (2, .int ct18), (0, .ref (q 0)), (1, .int a1)]) hx hb dX5_kinds_25 hl (by decide) rfl (fun ls hl => ?_)
        obtain ⟨T_27, hT_27⟩ : ∃ z, f_X5_kinds_l27 tc abouts stoods i_18 4 0 ct18 fi18 = z := ⟨_, rfl⟩
        rw [hT_27] at hT_18
        have key_27 : ∀ (d_27 i_27 : Nat) (ct27 : Int32) (fi27 : Int32) (ls : Array Slot), i_27 + d_27 = 4 → f_X5_kinds_l27 tc abouts stoods i_18 d_27 i_27 ct27 fi27 = T_27 → lv_has ls 6 [(5, .int (nI i_27)), (4, .int (nI i_18)), (3, .int fi27), (2, .int ct27), (0, .ref (q 0)), (1, .int a1)] → W p l e (rmO 2 45) s m args below meth c s.heap [] 0 0 Q (F0 m 27 ls []) := by
          intro d_27
          induction d_27 with
          | zero =>
            intro i_27 ct27 fi27 ls hi_27 hT_27 hl
            rw [f_X5_kinds_l27_z] at hT_27
            refine lv_iload hx hb dX5_kinds_27 (lv_at hl 0 rfl) ?_
            refine lv_iconst (v := (4 : Int32)) hx hb dX5_kinds_29 (by decide) ?_
            refine lv_icmp_ge (tgt := 73) hx hb dX5_kinds_30 (by decide) (fun c_30 => ?_) (fun c_30 => absurd (nI_le (a := 4) (by omega) (by omega)) c_30)
            subst hT_27
            try dsimp only at hT_18
            refine lv_iinc (v := (nI (i_18 + 1))) (lv' := [(4, .int (nI (i_18 + 1))), (5, .int (nI i_27)), (3, .int fi27), (2, .int ct27), (0, .ref (q 0)), (1, .int a1)]) hx hb dX5_kinds_73 hl (k := 1) rfl (nI_up i_18) (by decide) rfl (fun ls hl => ?_)
            refine lv_goto (tgt := 18) hx hb dX5_kinds_76 (by decide) ?_
            exact ih_18 (i_18 + 1) ct27 fi27 ls (by omega) hT_18 (lv_sub hl [0, 2, 3, 4, 5] rfl)
          | succ d_27 ih_27 =>
            intro i_27 ct27 fi27 ls hi_27 hT_27 hl
            rw [f_X5_kinds_l27_s] at hT_27
            refine lv_iload hx hb dX5_kinds_27 (lv_at hl 0 rfl) ?_
            refine lv_iconst (v := (4 : Int32)) hx hb dX5_kinds_29 (by decide) ?_
            refine lv_icmp_ge (tgt := 73) hx hb dX5_kinds_30 (by decide) (fun c_30 => absurd c_30 (nI_ge (b := 4) (by omega) (by omega))) (fun c_30 => ?_)
            refine lv_aload_n hx hb dX5_kinds_33 rfl (lv_at hl 4 rfl) ?_
            refine va_get (D := D) (ci := 4) (v := .ref (q 4)) (C := RX5) (T := TX5) (N := 10) hx hb hts tbX5 hown hK hP 0 XW_0 rfl 3 (by decide) (hts _ tm_1_104) (fun _ h9 => h9) rfl dX5_kinds_34 ?_
            refine lv_iload hx hb dX5_kinds_37 (lv_at hl 1 rfl) ?_
            refine lv_iload hx hb dX5_kinds_39 (lv_at hl 0 rfl) ?_
            refine vRdI (b := (q 4)) (As := [.int (nI i_18), .int (nI i_27)]) (rest := []) hF (c_X4_agreeWith l D cI cZ q tcnt abouts stoods (nI i_18) (nI i_27) tc htc htc6) (gdV tm_2_173 tm_2_174 tm_2_175 tm_1_5 tm_2_176) de_X4_agreeWith ⟨Nat.le_of_ble_eq_true rfl, Nat.le_of_ble_eq_true rfl⟩ (XW_R hP) hK (va_recv hK hP (ci := 3) (q0 := 4) rfl XW_4) hl.1 rfl (Nat.le_of_ble_eq_true rfl) dX5_kinds_41 ⟨Nat.zero_le _, Nat.zero_le _⟩ ?_
            refine lv_if_eq (tgt := 67) hx hb dX5_kinds_44 (by decide) (fun c_44 => ?_) (fun c_44 => ?_)
            · rw [if_pos c_44] at hT_27
              refine lv_iinc (v := (nI (i_27 + 1))) (lv' := [(5, .int (nI (i_27 + 1))), (4, .int (nI i_18)), (3, .int fi27), (2, .int ct27), (0, .ref (q 0)), (1, .int a1)]) hx hb dX5_kinds_67 hl (k := 0) rfl (nI_up i_27) (by decide) rfl (fun ls hl => ?_)
              refine lv_goto (tgt := 27) hx hb dX5_kinds_70 (by decide) ?_
              exact ih_27 (i_27 + 1) ct27 fi27 ls (by omega) hT_27 (lv_sub hl [0, 1, 2, 3, 4, 5] rfl)
            · rw [if_neg c_44] at hT_27
              refine lv_iload_n hx hb dX5_kinds_47 rfl (lv_at hl 3 rfl) ?_
              refine lv_if_ne (tgt := 62) hx hb dX5_kinds_48 (by decide) (fun c_48 => ?_) (fun c_48 => ?_)
              · rw [if_neg c_48] at hT_27
                refine lv_iload_n hx hb dX5_kinds_62 rfl (lv_at hl 2 rfl) ?_
                refine lv_istore_n (lv' := [(3, .int fi27), (5, .int (nI i_27)), (4, .int (nI i_18)), (2, .int ct27), (0, .ref (q 0)), (1, .int a1)]) hx hb dX5_kinds_63 rfl hl (by decide) rfl (fun ls hl => ?_)
                refine lv_iinc (v := (ct27 + (1 : Int32))) (lv' := [(2, .int (ct27 + (1 : Int32))), (3, .int fi27), (5, .int (nI i_27)), (4, .int (nI i_18)), (0, .ref (q 0)), (1, .int a1)]) hx hb dX5_kinds_64 hl (k := 3) rfl rfl (by decide) rfl (fun ls hl => ?_)
                refine lv_iinc (v := (nI (i_27 + 1))) (lv' := [(5, .int (nI (i_27 + 1))), (2, .int (ct27 + (1 : Int32))), (3, .int fi27), (4, .int (nI i_18)), (0, .ref (q 0)), (1, .int a1)]) hx hb dX5_kinds_67 hl (k := 2) rfl (nI_up i_27) (by decide) rfl (fun ls hl => ?_)
                refine lv_goto (tgt := 27) hx hb dX5_kinds_70 (by decide) ?_
                exact ih_27 (i_27 + 1) (ct27 + (1 : Int32)) fi27 ls (by omega) hT_27 (lv_sub hl [0, 3, 2, 1, 4, 5] rfl)
              · rw [if_pos c_48] at hT_27
                refine lv_bipush (v := (10 : Int32)) hx hb dX5_kinds_51 (by decide) ?_
                refine lv_iload hx hb dX5_kinds_53 (lv_at hl 1 rfl) ?_
                refine lv_imul hx hb dX5_kinds_55 ?_
                refine lv_iload hx hb dX5_kinds_56 (lv_at hl 0 rfl) ?_
                refine lv_iadd hx hb dX5_kinds_58 ?_
                refine lv_goto (tgt := 63) hx hb dX5_kinds_59 (by decide) ?_
                refine lv_istore_n (lv' := [(3, .int (((10 : Int32) * (nI i_18)) + (nI i_27))), (5, .int (nI i_27)), (4, .int (nI i_18)), (2, .int ct27), (0, .ref (q 0)), (1, .int a1)]) hx hb dX5_kinds_63 rfl hl (by decide) rfl (fun ls hl => ?_)
                refine lv_iinc (v := (ct27 + (1 : Int32))) (lv' := [(2, .int (ct27 + (1 : Int32))), (3, .int (((10 : Int32) * (nI i_18)) + (nI i_27))), (5, .int (nI i_27)), (4, .int (nI i_18)), (0, .ref (q 0)), (1, .int a1)]) hx hb dX5_kinds_64 hl (k := 3) rfl rfl (by decide) rfl (fun ls hl => ?_)
                refine lv_iinc (v := (nI (i_27 + 1))) (lv' := [(5, .int (nI (i_27 + 1))), (2, .int (ct27 + (1 : Int32))), (3, .int (((10 : Int32) * (nI i_18)) + (nI i_27))), (4, .int (nI i_18)), (0, .ref (q 0)), (1, .int a1)]) hx hb dX5_kinds_67 hl (k := 2) rfl (nI_up i_27) (by decide) rfl (fun ls hl => ?_)
                refine lv_goto (tgt := 27) hx hb dX5_kinds_70 (by decide) ?_
                exact ih_27 (i_27 + 1) (ct27 + (1 : Int32)) (((10 : Int32) * (nI i_18)) + (nI i_27)) ls (by omega) hT_27 (lv_sub hl [0, 3, 2, 1, 4, 5] rfl)
        exact key_27 4 0 ct18 fi18 ls (by omega) hT_27 (lv_sub hl [0, 1, 2, 3, 4, 5] rfl)
    exact key_18 4 0 (0 : Int32) (-9 : Int32) ls (by omega) hT_18 (lv_sub hl [0, 1, 2, 3, 4] rfl)
  · rw [if_pos c_4] at hR
    refine lv_bipush (v := (-2 : Int32)) hx hb dX5_kinds_7 (by decide) ?_
    subst hR
    exact fin _ _ dX5_kinds_9 (nar_i _)
def f_X5_rests_l50 (now : Int32) (poles : Int32) (plain : Int32) (key : Int32) (stair : Int32) (air : Int32) (a1 : Int32) (a2 : Int32) (i_41 : Nat) : Nat → Nat → (Int32) → (Int32) → (Int32) × (Int32)
  | 0, i_50, ct50, fi50 => (ct50, fi50)
  | d_50 + 1, i_50, ct50, fi50 => (if (f_X5_isRest now poles plain key stair air a1 a2 (nI i_41) (nI i_50)) = (0 : Int32) then (f_X5_rests_l50 now poles plain key stair air a1 a2 i_41 d_50 (i_50 + 1) ct50 fi50) else (if ct50 = (0 : Int32) then (f_X5_rests_l50 now poles plain key stair air a1 a2 i_41 d_50 (i_50 + 1) (ct50 + (1 : Int32)) (((10 : Int32) * (nI i_41)) + (nI i_50))) else (f_X5_rests_l50 now poles plain key stair air a1 a2 i_41 d_50 (i_50 + 1) (ct50 + (1 : Int32)) fi50)))
theorem f_X5_rests_l50_z {now : Int32} {poles : Int32} {plain : Int32} {key : Int32} {stair : Int32} {air : Int32} {a1 : Int32} {a2 : Int32} {i_41 : Nat} {i_50 : Nat} {ct50 : Int32} {fi50 : Int32} : f_X5_rests_l50 now poles plain key stair air a1 a2 i_41 0 i_50 ct50 fi50 = (ct50, fi50) := by rw [f_X5_rests_l50]
theorem f_X5_rests_l50_s {now : Int32} {poles : Int32} {plain : Int32} {key : Int32} {stair : Int32} {air : Int32} {a1 : Int32} {a2 : Int32} {i_41 : Nat} {d_50 : Nat} {i_50 : Nat} {ct50 : Int32} {fi50 : Int32} : f_X5_rests_l50 now poles plain key stair air a1 a2 i_41 (d_50 + 1) i_50 ct50 fi50 = (if (f_X5_isRest now poles plain key stair air a1 a2 (nI i_41) (nI i_50)) = (0 : Int32) then (f_X5_rests_l50 now poles plain key stair air a1 a2 i_41 d_50 (i_50 + 1) ct50 fi50) else (if ct50 = (0 : Int32) then (f_X5_rests_l50 now poles plain key stair air a1 a2 i_41 d_50 (i_50 + 1) (ct50 + (1 : Int32)) (((10 : Int32) * (nI i_41)) + (nI i_50))) else (f_X5_rests_l50 now poles plain key stair air a1 a2 i_41 d_50 (i_50 + 1) (ct50 + (1 : Int32)) fi50))) := by rw [f_X5_rests_l50]
def f_X5_rests_l41 (now : Int32) (poles : Int32) (plain : Int32) (key : Int32) (stair : Int32) (air : Int32) (a1 : Int32) (a2 : Int32) : Nat → Nat → (Int32) → (Int32) → (Int32) × (Int32)
  | 0, i_41, ct41, fi41 => (ct41, fi41)
  | d_41 + 1, i_41, ct41, fi41 => (f_X5_rests_l41 now poles plain key stair air a1 a2 d_41 (i_41 + 1) (f_X5_rests_l50 now poles plain key stair air a1 a2 i_41 3 0 ct41 fi41).1 (f_X5_rests_l50 now poles plain key stair air a1 a2 i_41 3 0 ct41 fi41).2)
theorem f_X5_rests_l41_z {now : Int32} {poles : Int32} {plain : Int32} {key : Int32} {stair : Int32} {air : Int32} {a1 : Int32} {a2 : Int32} {i_41 : Nat} {ct41 : Int32} {fi41 : Int32} : f_X5_rests_l41 now poles plain key stair air a1 a2 0 i_41 ct41 fi41 = (ct41, fi41) := by rw [f_X5_rests_l41]
theorem f_X5_rests_l41_s {now : Int32} {poles : Int32} {plain : Int32} {key : Int32} {stair : Int32} {air : Int32} {a1 : Int32} {a2 : Int32} {d_41 : Nat} {i_41 : Nat} {ct41 : Int32} {fi41 : Int32} : f_X5_rests_l41 now poles plain key stair air a1 a2 (d_41 + 1) i_41 ct41 fi41 = (f_X5_rests_l41 now poles plain key stair air a1 a2 d_41 (i_41 + 1) (f_X5_rests_l50 now poles plain key stair air a1 a2 i_41 3 0 ct41 fi41).1 (f_X5_rests_l50 now poles plain key stair air a1 a2 i_41 3 0 ct41 fi41).2) := by rw [f_X5_rests_l41]
def f_X5_rests (now : Int32) (poles : Int32) (plain : Int32) (key : Int32) (stair : Int32) (air : Int32) (a1 : Int32) (a2 : Int32) (a3 : Int32) : Int32 := (if (f_X5_isColumn a1) = (0 : Int32) then (-1 : Int32) else (if (f_X5_isColumn a2) = (0 : Int32) then (-1 : Int32) else (if a1 = a2 then (-2 : Int32) else (if (f_X5_isCountOrFirst a3) = (0 : Int32) then (-2 : Int32) else (if a3 = (0 : Int32) then (f_X5_rests_l41 now poles plain key stair air a1 a2 3 0 (0 : Int32) (-9 : Int32)).1 else (f_X5_rests_l41 now poles plain key stair air a1 a2 3 0 (0 : Int32) (-9 : Int32)).2)))))
set_option maxHeartbeats 4000000 in
set_option maxRecDepth 100000 in
theorem c_X5_rests (l : Launch) (D : va_G) (cI cZ : ClassId) (q : Nat → Nat) (now rains length poles parts plain key stair air acnt tcnt : Int32) (letters cells kinds frames rainsB abouts stoods kept keptF keptR : Nat → Int32) (seed : Int64) (a1 : Int32) (a2 : Int32) (a3 : Int32) : RdI l yX5_rests cX5_rests 8 .int 6 148 D (tyL cI cZ) (XW cI cZ q now rains length poles parts plain key stair air acnt tcnt letters cells kinds frames rainsB abouts stoods kept keptF keptR seed) [.ref (q 0), .int a1, .int a2, .int a3] (f_X5_rests now poles plain key stair air a1 a2 a3) := by
  refine RdI.of (by decide) (Nat.le_of_ble_eq_true rfl) ?_
  intro p e s m args below meth c Q hx hb hml hown hts hP hK fin ls hl
  have hown : s.vm.findClass RX5 = some m.cls := hown
  have hF : CallFix p m c cX5_rests 8 s args tb RX5 := ⟨hx, hb, hml, hown, hts⟩
  have hl : lv_has ls 8 [(0, .ref (q 0)), (1, .int a1), (2, .int a2), (3, .int a3)] := hl
  generalize hR : (f_X5_rests now poles plain key stair air a1 a2 a3) = R at fin
  unfold f_X5_rests at hR
  refine lv_iload_n hx hb dX5_rests_0 rfl (lv_at hl 1 rfl) ?_
  refine sRdI (As := [.int a1]) (rest := []) hF (c_X5_isColumn l D cI cZ q a1) (gdS tm_2_8 tm_2_9 tm_1_1 tm_2_10) de_X5_isColumn ⟨Nat.le_of_ble_eq_true rfl, Nat.le_of_ble_eq_true rfl⟩ va_P_nil hK hl.1 rfl (Nat.le_of_ble_eq_true rfl) dX5_rests_1 ⟨Nat.zero_le _, Nat.zero_le _⟩ ?_
  refine lv_if_eq (tgt := 14) hx hb dX5_rests_4 (by decide) (fun c_4 => ?_) (fun c_4 => ?_)
  · rw [if_pos c_4] at hR
    refine lv_iconst (v := (-1 : Int32)) hx hb dX5_rests_14 (by decide) ?_
    subst hR
    exact fin _ _ dX5_rests_15 (nar_i _)
  · rw [if_neg c_4] at hR
    refine lv_iload_n hx hb dX5_rests_7 rfl (lv_at hl 2 rfl) ?_
    refine sRdI (As := [.int a2]) (rest := []) hF (c_X5_isColumn l D cI cZ q a2) (gdS tm_2_8 tm_2_9 tm_1_1 tm_2_10) de_X5_isColumn ⟨Nat.le_of_ble_eq_true rfl, Nat.le_of_ble_eq_true rfl⟩ va_P_nil hK hl.1 rfl (Nat.le_of_ble_eq_true rfl) dX5_rests_8 ⟨Nat.zero_le _, Nat.zero_le _⟩ ?_
    refine lv_if_ne (tgt := 16) hx hb dX5_rests_11 (by decide) (fun c_11 => ?_) (fun c_11 => ?_)
    · rw [if_neg c_11] at hR
      refine lv_iload_n hx hb dX5_rests_16 rfl (lv_at hl 1 rfl) ?_
      refine lv_iload_n hx hb dX5_rests_17 rfl (lv_at hl 2 rfl) ?_
      refine lv_icmp_eq (tgt := 28) hx hb dX5_rests_18 (by decide) (fun c_18 => ?_) (fun c_18 => ?_)
      · rw [if_pos c_18] at hR
        refine lv_bipush (v := (-2 : Int32)) hx hb dX5_rests_28 (by decide) ?_
        subst hR
        exact fin _ _ dX5_rests_30 (nar_i _)
      · rw [if_neg c_18] at hR
        refine lv_iload_n hx hb dX5_rests_21 rfl (lv_at hl 3 rfl) ?_
        refine sRdI (As := [.int a3]) (rest := []) hF (c_X5_isCountOrFirst l D cI cZ q a3) (gdS tm_2_97 tm_2_98 tm_1_1 tm_2_99) de_X5_isCountOrFirst ⟨Nat.le_of_ble_eq_true rfl, Nat.le_of_ble_eq_true rfl⟩ va_P_nil hK hl.1 rfl (Nat.le_of_ble_eq_true rfl) dX5_rests_22 ⟨Nat.zero_le _, Nat.zero_le _⟩ ?_
        refine lv_if_ne (tgt := 31) hx hb dX5_rests_25 (by decide) (fun c_25 => ?_) (fun c_25 => ?_)
        · rw [if_neg c_25] at hR
          refine lv_iconst (v := (0 : Int32)) hx hb dX5_rests_31 (by decide) ?_
          refine lv_istore (lv' := [(4, .int (0 : Int32)), (0, .ref (q 0)), (1, .int a1), (2, .int a2), (3, .int a3)]) hx hb dX5_rests_32 hl (by decide) rfl (fun ls hl => ?_)
          refine lv_bipush (v := (-9 : Int32)) hx hb dX5_rests_34 (by decide) ?_
          refine lv_istore (lv' := [(5, .int (-9 : Int32)), (4, .int (0 : Int32)), (0, .ref (q 0)), (1, .int a1), (2, .int a2), (3, .int a3)]) hx hb dX5_rests_36 hl (by decide) rfl (fun ls hl => ?_)
          refine lv_iconst (v := (0 : Int32)) hx hb dX5_rests_38 (by decide) ?_
          refine lv_istore (lv' := [(6, .int (0 : Int32)), (5, .int (-9 : Int32)), (4, .int (0 : Int32)), (0, .ref (q 0)), (1, .int a1), (2, .int a2), (3, .int a3)]) hx hb dX5_rests_39 hl (by decide) rfl (fun ls hl => ?_)
          obtain ⟨T_41, hT_41⟩ : ∃ z, f_X5_rests_l41 now poles plain key stair air a1 a2 3 0 (0 : Int32) (-9 : Int32) = z := ⟨_, rfl⟩
          rw [hT_41] at hR
          have key_41 : ∀ (d_41 i_41 : Nat) (ct41 : Int32) (fi41 : Int32) (ls : Array Slot), i_41 + d_41 = 3 → f_X5_rests_l41 now poles plain key stair air a1 a2 d_41 i_41 ct41 fi41 = T_41 → lv_has ls 8 [(6, .int (nI i_41)), (5, .int fi41), (4, .int ct41), (0, .ref (q 0)), (1, .int a1), (2, .int a2), (3, .int a3)] → W p l e (rmO 6 148) s m args below meth c s.heap [] 0 0 Q (F0 m 41 ls []) := by
            intro d_41
            induction d_41 with
            | zero =>
              intro i_41 ct41 fi41 ls hi_41 hT_41 hl
              rw [f_X5_rests_l41_z] at hT_41
              refine lv_iload hx hb dX5_rests_41 (lv_at hl 0 rfl) ?_
              refine lv_iconst (v := (3 : Int32)) hx hb dX5_rests_43 (by decide) ?_
              refine lv_icmp_ge (tgt := 104) hx hb dX5_rests_44 (by decide) (fun c_44 => ?_) (fun c_44 => absurd (nI_le (a := 3) (by omega) (by omega)) c_44)
              subst hT_41
              try dsimp only at hR
              refine lv_iload_n hx hb dX5_rests_104 rfl (lv_at hl 6 rfl) ?_
              refine lv_if_ne (tgt := 113) hx hb dX5_rests_105 (by decide) (fun c_105 => ?_) (fun c_105 => ?_)
              · rw [if_neg c_105] at hR
                refine lv_iload hx hb dX5_rests_113 (lv_at hl 1 rfl) ?_
                subst hR
                exact fin _ _ dX5_rests_115 (nar_i _)
              · rw [if_pos c_105] at hR
                refine lv_iload hx hb dX5_rests_108 (lv_at hl 2 rfl) ?_
                refine lv_goto (tgt := 115) hx hb dX5_rests_110 (by decide) ?_
                subst hR
                exact fin _ _ dX5_rests_115 (nar_i _)
            | succ d_41 ih_41 =>
              intro i_41 ct41 fi41 ls hi_41 hT_41 hl
              rw [f_X5_rests_l41_s] at hT_41
              refine lv_iload hx hb dX5_rests_41 (lv_at hl 0 rfl) ?_
              refine lv_iconst (v := (3 : Int32)) hx hb dX5_rests_43 (by decide) ?_
              refine lv_icmp_ge (tgt := 104) hx hb dX5_rests_44 (by decide) (fun c_44 => absurd c_44 (nI_ge (b := 3) (by omega) (by omega))) (fun c_44 => ?_)
              refine lv_iconst (v := (0 : Int32)) hx hb dX5_rests_47 (by decide) ?_
              refine lv_istore (lv' := [(7, .int (0 : Int32)), (6, .int (nI i_41)), (5, .int fi41), (4, .int ct41), (0, .ref (q 0)), (1, .int a1), (2, .int a2), (3, .int a3)]) hx hb dX5_rests_48 hl (by decide) rfl (fun ls hl => ?_)
              obtain ⟨T_50, hT_50⟩ : ∃ z, f_X5_rests_l50 now poles plain key stair air a1 a2 i_41 3 0 ct41 fi41 = z := ⟨_, rfl⟩
              rw [hT_50] at hT_41
              have key_50 : ∀ (d_50 i_50 : Nat) (ct50 : Int32) (fi50 : Int32) (ls : Array Slot), i_50 + d_50 = 3 → f_X5_rests_l50 now poles plain key stair air a1 a2 i_41 d_50 i_50 ct50 fi50 = T_50 → lv_has ls 8 [(7, .int (nI i_50)), (6, .int (nI i_41)), (5, .int fi50), (4, .int ct50), (0, .ref (q 0)), (1, .int a1), (2, .int a2), (3, .int a3)] → W p l e (rmO 6 148) s m args below meth c s.heap [] 0 0 Q (F0 m 50 ls []) := by
                intro d_50
                induction d_50 with
                | zero =>
                  intro i_50 ct50 fi50 ls hi_50 hT_50 hl
                  rw [f_X5_rests_l50_z] at hT_50
                  refine lv_iload hx hb dX5_rests_50 (lv_at hl 0 rfl) ?_
                  refine lv_iconst (v := (3 : Int32)) hx hb dX5_rests_52 (by decide) ?_
                  refine lv_icmp_ge (tgt := 98) hx hb dX5_rests_53 (by decide) (fun c_53 => ?_) (fun c_53 => absurd (nI_le (a := 3) (by omega) (by omega)) c_53)
                  subst hT_50
                  try dsimp only at hT_41
                  refine lv_iinc (v := (nI (i_41 + 1))) (lv' := [(6, .int (nI (i_41 + 1))), (7, .int (nI i_50)), (5, .int fi50), (4, .int ct50), (0, .ref (q 0)), (1, .int a1), (2, .int a2), (3, .int a3)]) hx hb dX5_rests_98 hl (k := 1) rfl (nI_up i_41) (by decide) rfl (fun ls hl => ?_)
                  refine lv_goto (tgt := 41) hx hb dX5_rests_101 (by decide) ?_
                  exact ih_41 (i_41 + 1) ct50 fi50 ls (by omega) hT_41 (lv_sub hl [0, 2, 3, 4, 5, 6, 7] rfl)
                | succ d_50 ih_50 =>
                  intro i_50 ct50 fi50 ls hi_50 hT_50 hl
                  rw [f_X5_rests_l50_s] at hT_50
                  refine lv_iload hx hb dX5_rests_50 (lv_at hl 0 rfl) ?_
                  refine lv_iconst (v := (3 : Int32)) hx hb dX5_rests_52 (by decide) ?_
                  refine lv_icmp_ge (tgt := 98) hx hb dX5_rests_53 (by decide) (fun c_53 => absurd c_53 (nI_ge (b := 3) (by omega) (by omega))) (fun c_53 => ?_)
                  refine lv_aload_n hx hb dX5_rests_56 rfl (lv_at hl 4 rfl) ?_
                  refine lv_iload_n hx hb dX5_rests_57 rfl (lv_at hl 5 rfl) ?_
                  refine lv_iload_n hx hb dX5_rests_58 rfl (lv_at hl 6 rfl) ?_
                  refine lv_iload hx hb dX5_rests_59 (lv_at hl 1 rfl) ?_
                  refine lv_iload hx hb dX5_rests_61 (lv_at hl 0 rfl) ?_
                  refine vRdI (b := (q 0)) (As := [.int a1, .int a2, .int (nI i_41), .int (nI i_50)]) (rest := []) hF (c_X5_isRest l D cI cZ q now rains length poles parts plain key stair air acnt tcnt letters cells kinds frames rainsB abouts stoods kept keptF keptR seed a1 a2 (nI i_41) (nI i_50)) (gdV tm_2_184 tm_2_186 tp_4 tm_1_1 tm_2_187) de_X5_isRest ⟨Nat.le_of_ble_eq_true rfl, Nat.le_of_ble_eq_true rfl⟩ hP hK (va_recv hK hP (ci := 4) (q0 := 0) rfl XW_0) hl.1 rfl (Nat.le_of_ble_eq_true rfl) dX5_rests_63 ⟨Nat.zero_le _, Nat.zero_le _⟩ ?_
                  refine lv_if_eq (tgt := 92) hx hb dX5_rests_66 (by decide) (fun c_66 => ?_) (fun c_66 => ?_)
                  · rw [if_pos c_66] at hT_50
                    refine lv_iinc (v := (nI (i_50 + 1))) (lv' := [(7, .int (nI (i_50 + 1))), (6, .int (nI i_41)), (5, .int fi50), (4, .int ct50), (0, .ref (q 0)), (1, .int a1), (2, .int a2), (3, .int a3)]) hx hb dX5_rests_92 hl (k := 0) rfl (nI_up i_50) (by decide) rfl (fun ls hl => ?_)
                    refine lv_goto (tgt := 50) hx hb dX5_rests_95 (by decide) ?_
                    exact ih_50 (i_50 + 1) ct50 fi50 ls (by omega) hT_50 (lv_sub hl [0, 1, 2, 3, 4, 5, 6, 7] rfl)
                  · rw [if_neg c_66] at hT_50
                    refine lv_iload hx hb dX5_rests_69 (lv_at hl 3 rfl) ?_
                    refine lv_if_ne (tgt := 85) hx hb dX5_rests_71 (by decide) (fun c_71 => ?_) (fun c_71 => ?_)
                    · rw [if_neg c_71] at hT_50
                      refine lv_iload hx hb dX5_rests_85 (lv_at hl 2 rfl) ?_
                      refine lv_istore (lv' := [(5, .int fi50), (7, .int (nI i_50)), (6, .int (nI i_41)), (4, .int ct50), (0, .ref (q 0)), (1, .int a1), (2, .int a2), (3, .int a3)]) hx hb dX5_rests_87 hl (by decide) rfl (fun ls hl => ?_)
                      refine lv_iinc (v := (ct50 + (1 : Int32))) (lv' := [(4, .int (ct50 + (1 : Int32))), (5, .int fi50), (7, .int (nI i_50)), (6, .int (nI i_41)), (0, .ref (q 0)), (1, .int a1), (2, .int a2), (3, .int a3)]) hx hb dX5_rests_89 hl (k := 3) rfl rfl (by decide) rfl (fun ls hl => ?_)
                      refine lv_iinc (v := (nI (i_50 + 1))) (lv' := [(7, .int (nI (i_50 + 1))), (4, .int (ct50 + (1 : Int32))), (5, .int fi50), (6, .int (nI i_41)), (0, .ref (q 0)), (1, .int a1), (2, .int a2), (3, .int a3)]) hx hb dX5_rests_92 hl (k := 2) rfl (nI_up i_50) (by decide) rfl (fun ls hl => ?_)
                      refine lv_goto (tgt := 50) hx hb dX5_rests_95 (by decide) ?_
                      exact ih_50 (i_50 + 1) (ct50 + (1 : Int32)) fi50 ls (by omega) hT_50 (lv_sub hl [0, 3, 2, 1, 4, 5, 6, 7] rfl)
                    · rw [if_pos c_71] at hT_50
                      refine lv_bipush (v := (10 : Int32)) hx hb dX5_rests_74 (by decide) ?_
                      refine lv_iload hx hb dX5_rests_76 (lv_at hl 1 rfl) ?_
                      refine lv_imul hx hb dX5_rests_78 ?_
                      refine lv_iload hx hb dX5_rests_79 (lv_at hl 0 rfl) ?_
                      refine lv_iadd hx hb dX5_rests_81 ?_
                      refine lv_goto (tgt := 87) hx hb dX5_rests_82 (by decide) ?_
                      refine lv_istore (lv' := [(5, .int (((10 : Int32) * (nI i_41)) + (nI i_50))), (7, .int (nI i_50)), (6, .int (nI i_41)), (4, .int ct50), (0, .ref (q 0)), (1, .int a1), (2, .int a2), (3, .int a3)]) hx hb dX5_rests_87 hl (by decide) rfl (fun ls hl => ?_)
                      refine lv_iinc (v := (ct50 + (1 : Int32))) (lv' := [(4, .int (ct50 + (1 : Int32))), (5, .int (((10 : Int32) * (nI i_41)) + (nI i_50))), (7, .int (nI i_50)), (6, .int (nI i_41)), (0, .ref (q 0)), (1, .int a1), (2, .int a2), (3, .int a3)]) hx hb dX5_rests_89 hl (k := 3) rfl rfl (by decide) rfl (fun ls hl => ?_)
                      refine lv_iinc (v := (nI (i_50 + 1))) (lv' := [(7, .int (nI (i_50 + 1))), (4, .int (ct50 + (1 : Int32))), (5, .int (((10 : Int32) * (nI i_41)) + (nI i_50))), (6, .int (nI i_41)), (0, .ref (q 0)), (1, .int a1), (2, .int a2), (3, .int a3)]) hx hb dX5_rests_92 hl (k := 2) rfl (nI_up i_50) (by decide) rfl (fun ls hl => ?_)
                      refine lv_goto (tgt := 50) hx hb dX5_rests_95 (by decide) ?_
                      exact ih_50 (i_50 + 1) (ct50 + (1 : Int32)) (((10 : Int32) * (nI i_41)) + (nI i_50)) ls (by omega) hT_50 (lv_sub hl [0, 3, 2, 1, 4, 5, 6, 7] rfl)
              exact key_50 3 0 ct41 fi41 ls (by omega) hT_50 (lv_sub hl [0, 1, 2, 3, 4, 5, 6, 7] rfl)
          exact key_41 3 0 (0 : Int32) (-9 : Int32) ls (by omega) hT_41 (lv_sub hl [0, 1, 2, 3, 4, 5, 6] rfl)
        · rw [if_pos c_25] at hR
          refine lv_bipush (v := (-2 : Int32)) hx hb dX5_rests_28 (by decide) ?_
          subst hR
          exact fin _ _ dX5_rests_30 (nar_i _)
    · rw [if_pos c_11] at hR
      refine lv_iconst (v := (-1 : Int32)) hx hb dX5_rests_14 (by decide) ?_
      subst hR
      exact fin _ _ dX5_rests_15 (nar_i _)
def f_X5_wet_l74 (now : Int32) (plain : Int32) (key : Int32) (stair : Int32) (air : Int32) (a1 : Int32) (a2 : Int32) : Nat → Nat → (Int32) → Int32
  | 0, i_74, ab74 => ab74
  | d_74 + 1, i_74, ab74 => (if (f_J6_bitCount (f_X5_hadWithout now plain key stair air (nI i_74))) < a1 then (f_X5_wet_l74 now plain key stair air a1 a2 d_74 (i_74 + 1) ab74) else (f_X5_wet_l74 now plain key stair air a1 a2 d_74 (i_74 + 1) (ab74 + (f_X5_weightOf now (nI i_74) a2))))
theorem f_X5_wet_l74_z {now : Int32} {plain : Int32} {key : Int32} {stair : Int32} {air : Int32} {a1 : Int32} {a2 : Int32} {i_74 : Nat} {ab74 : Int32} : f_X5_wet_l74 now plain key stair air a1 a2 0 i_74 ab74 = ab74 := by rw [f_X5_wet_l74]
theorem f_X5_wet_l74_s {now : Int32} {plain : Int32} {key : Int32} {stair : Int32} {air : Int32} {a1 : Int32} {a2 : Int32} {d_74 : Nat} {i_74 : Nat} {ab74 : Int32} : f_X5_wet_l74 now plain key stair air a1 a2 (d_74 + 1) i_74 ab74 = (if (f_J6_bitCount (f_X5_hadWithout now plain key stair air (nI i_74))) < a1 then (f_X5_wet_l74 now plain key stair air a1 a2 d_74 (i_74 + 1) ab74) else (f_X5_wet_l74 now plain key stair air a1 a2 d_74 (i_74 + 1) (ab74 + (f_X5_weightOf now (nI i_74) a2)))) := by rw [f_X5_wet_l74]
def f_X5_wet_l32 (now : Int32) : Nat → Nat → (Int32) → Int32
  | 0, i_32, be32 => be32
  | d_32 + 1, i_32, be32 => (if (f_X2_canStrike now (nI i_32)) = (0 : Int32) then (f_X5_wet_l32 now d_32 (i_32 + 1) (be32 * (1 : Int32))) else (f_X5_wet_l32 now d_32 (i_32 + 1) (be32 * (10 : Int32))))
theorem f_X5_wet_l32_z {now : Int32} {i_32 : Nat} {be32 : Int32} : f_X5_wet_l32 now 0 i_32 be32 = be32 := by rw [f_X5_wet_l32]
theorem f_X5_wet_l32_s {now : Int32} {d_32 : Nat} {i_32 : Nat} {be32 : Int32} : f_X5_wet_l32 now (d_32 + 1) i_32 be32 = (if (f_X2_canStrike now (nI i_32)) = (0 : Int32) then (f_X5_wet_l32 now d_32 (i_32 + 1) (be32 * (1 : Int32))) else (f_X5_wet_l32 now d_32 (i_32 + 1) (be32 * (10 : Int32)))) := by rw [f_X5_wet_l32]
def f_X5_wet (now : Int32) (plain : Int32) (key : Int32) (stair : Int32) (air : Int32) (a1 : Int32) (a2 : Int32) (a3 : Int32) : Int32 := (if a1 < (0 : Int32) then (-2 : Int32) else (if (7 : Int32) < a1 then (-2 : Int32) else (if a2 < (0 : Int32) then (-2 : Int32) else (if a2 ≤ (10 : Int32) then (f_X5_told (f_X5_wet_l74 now plain key stair air a1 a2 16 0 (0 : Int32)) (f_X5_wet_l32 now 4 0 (1 : Int32)) a3) else (-2 : Int32)))))
set_option maxHeartbeats 4000000 in
set_option maxRecDepth 100000 in
theorem c_X5_wet (l : Launch) (D : va_G) (cI cZ : ClassId) (q : Nat → Nat) (now rains length poles parts plain key stair air acnt tcnt : Int32) (letters cells kinds frames rainsB abouts stoods kept keptF keptR : Nat → Int32) (seed : Int64) (a1 : Int32) (a2 : Int32) (a3 : Int32) : RdI l yX5_wet cX5_wet 7 .int 4 88 D (tyL cI cZ) (XW cI cZ q now rains length poles parts plain key stair air acnt tcnt letters cells kinds frames rainsB abouts stoods kept keptF keptR seed) [.ref (q 0), .int a1, .int a2, .int a3] (f_X5_wet now plain key stair air a1 a2 a3) := by
  refine RdI.of (by decide) (Nat.le_of_ble_eq_true rfl) ?_
  intro p e s m args below meth c Q hx hb hml hown hts hP hK fin ls hl
  have hown : s.vm.findClass RX5 = some m.cls := hown
  have hF : CallFix p m c cX5_wet 7 s args tb RX5 := ⟨hx, hb, hml, hown, hts⟩
  have hl : lv_has ls 7 [(0, .ref (q 0)), (1, .int a1), (2, .int a2), (3, .int a3)] := hl
  generalize hR : (f_X5_wet now plain key stair air a1 a2 a3) = R at fin
  unfold f_X5_wet at hR
  refine lv_iload_n hx hb dX5_wet_0 rfl (lv_at hl 1 rfl) ?_
  refine lv_if_lt (tgt := 20) hx hb dX5_wet_1 (by decide) (fun c_1 => ?_) (fun c_1 => ?_)
  · rw [if_pos c_1] at hR
    refine lv_bipush (v := (-2 : Int32)) hx hb dX5_wet_20 (by decide) ?_
    subst hR
    exact fin _ _ dX5_wet_22 (nar_i _)
  · rw [if_neg c_1] at hR
    refine lv_iload_n hx hb dX5_wet_4 rfl (lv_at hl 1 rfl) ?_
    refine lv_bipush (v := (7 : Int32)) hx hb dX5_wet_5 (by decide) ?_
    refine lv_icmp_gt (tgt := 20) hx hb dX5_wet_7 (by decide) (fun c_7 => ?_) (fun c_7 => ?_)
    · rw [if_pos c_7] at hR
      refine lv_bipush (v := (-2 : Int32)) hx hb dX5_wet_20 (by decide) ?_
      subst hR
      exact fin _ _ dX5_wet_22 (nar_i _)
    · rw [if_neg c_7] at hR
      refine lv_iload_n hx hb dX5_wet_10 rfl (lv_at hl 2 rfl) ?_
      refine lv_if_lt (tgt := 20) hx hb dX5_wet_11 (by decide) (fun c_11 => ?_) (fun c_11 => ?_)
      · rw [if_pos c_11] at hR
        refine lv_bipush (v := (-2 : Int32)) hx hb dX5_wet_20 (by decide) ?_
        subst hR
        exact fin _ _ dX5_wet_22 (nar_i _)
      · rw [if_neg c_11] at hR
        refine lv_iload_n hx hb dX5_wet_14 rfl (lv_at hl 2 rfl) ?_
        refine lv_bipush (v := (10 : Int32)) hx hb dX5_wet_15 (by decide) ?_
        refine lv_icmp_le (tgt := 23) hx hb dX5_wet_17 (by decide) (fun c_17 => ?_) (fun c_17 => ?_)
        · rw [if_pos c_17] at hR
          refine lv_iconst (v := (0 : Int32)) hx hb dX5_wet_23 (by decide) ?_
          refine lv_istore (lv' := [(4, .int (0 : Int32)), (0, .ref (q 0)), (1, .int a1), (2, .int a2), (3, .int a3)]) hx hb dX5_wet_24 hl (by decide) rfl (fun ls hl => ?_)
          refine lv_iconst (v := (1 : Int32)) hx hb dX5_wet_26 (by decide) ?_
          refine lv_istore (lv' := [(5, .int (1 : Int32)), (4, .int (0 : Int32)), (0, .ref (q 0)), (1, .int a1), (2, .int a2), (3, .int a3)]) hx hb dX5_wet_27 hl (by decide) rfl (fun ls hl => ?_)
          refine lv_iconst (v := (0 : Int32)) hx hb dX5_wet_29 (by decide) ?_
          refine lv_istore (lv' := [(6, .int (0 : Int32)), (5, .int (1 : Int32)), (4, .int (0 : Int32)), (0, .ref (q 0)), (1, .int a1), (2, .int a2), (3, .int a3)]) hx hb dX5_wet_30 hl (by decide) rfl (fun ls hl => ?_)
          obtain ⟨T_32, hT_32⟩ : ∃ z, f_X5_wet_l32 now 4 0 (1 : Int32) = z := ⟨_, rfl⟩
          rw [hT_32] at hR
          have key_32 : ∀ (d_32 i_32 : Nat) (be32 : Int32) (ls : Array Slot), i_32 + d_32 = 4 → f_X5_wet_l32 now d_32 i_32 be32 = T_32 → lv_has ls 7 [(6, .int (nI i_32)), (5, .int be32), (4, .int (0 : Int32)), (0, .ref (q 0)), (1, .int a1), (2, .int a2), (3, .int a3)] → W p l e (rmO 4 88) s m args below meth c s.heap [] 0 0 Q (F0 m 32 ls []) := by
            intro d_32
            induction d_32 with
            | zero =>
              intro i_32 be32 ls hi_32 hT_32 hl
              rw [f_X5_wet_l32_z] at hT_32
              refine lv_iload hx hb dX5_wet_32 (lv_at hl 0 rfl) ?_
              refine lv_iconst (v := (4 : Int32)) hx hb dX5_wet_34 (by decide) ?_
              refine lv_icmp_ge (tgt := 71) hx hb dX5_wet_35 (by decide) (fun c_35 => ?_) (fun c_35 => absurd (nI_le (a := 4) (by omega) (by omega)) c_35)
              subst hT_32
              try dsimp only at hR
              refine lv_iconst (v := (0 : Int32)) hx hb dX5_wet_71 (by decide) ?_
              refine lv_istore (lv' := [(6, .int (0 : Int32)), (5, .int be32), (4, .int (0 : Int32)), (0, .ref (q 0)), (1, .int a1), (2, .int a2), (3, .int a3)]) hx hb dX5_wet_72 hl (by decide) rfl (fun ls hl => ?_)
              obtain ⟨T_74, hT_74⟩ : ∃ z, f_X5_wet_l74 now plain key stair air a1 a2 16 0 (0 : Int32) = z := ⟨_, rfl⟩
              rw [hT_74] at hR
              have key_74 : ∀ (d_74 i_74 : Nat) (ab74 : Int32) (ls : Array Slot), i_74 + d_74 = 16 → f_X5_wet_l74 now plain key stair air a1 a2 d_74 i_74 ab74 = T_74 → lv_has ls 7 [(6, .int (nI i_74)), (5, .int be32), (4, .int ab74), (0, .ref (q 0)), (1, .int a1), (2, .int a2), (3, .int a3)] → W p l e (rmO 4 88) s m args below meth c s.heap [] 0 0 Q (F0 m 74 ls []) := by
                intro d_74
                induction d_74 with
                | zero =>
                  intro i_74 ab74 ls hi_74 hT_74 hl
                  rw [f_X5_wet_l74_z] at hT_74
                  refine lv_iload hx hb dX5_wet_74 (lv_at hl 0 rfl) ?_
                  refine lv_bipush (v := (16 : Int32)) hx hb dX5_wet_76 (by decide) ?_
                  refine lv_icmp_ge (tgt := 112) hx hb dX5_wet_78 (by decide) (fun c_78 => ?_) (fun c_78 => absurd (nI_le (a := 16) (by omega) (by omega)) c_78)
                  subst hT_74
                  try dsimp only at hR
                  refine lv_iload hx hb dX5_wet_112 (lv_at hl 2 rfl) ?_
                  refine lv_iload hx hb dX5_wet_114 (lv_at hl 1 rfl) ?_
                  refine lv_iload_n hx hb dX5_wet_116 rfl (lv_at hl 6 rfl) ?_
                  refine sRdI (As := [.int ab74, .int be32, .int a3]) (rest := []) hF (c_X5_told l D cI cZ q ab74 be32 a3) (gdS tm_2_151 tm_2_152 tm_1_1 tm_2_153) de_X5_told ⟨Nat.le_of_ble_eq_true rfl, Nat.le_of_ble_eq_true rfl⟩ va_P_nil hK hl.1 rfl (Nat.le_of_ble_eq_true rfl) dX5_wet_117 ⟨Nat.zero_le _, Nat.zero_le _⟩ ?_
                  subst hR
                  exact fin _ _ dX5_wet_120 (nar_i _)
                | succ d_74 ih_74 =>
                  intro i_74 ab74 ls hi_74 hT_74 hl
                  rw [f_X5_wet_l74_s] at hT_74
                  refine lv_iload hx hb dX5_wet_74 (lv_at hl 0 rfl) ?_
                  refine lv_bipush (v := (16 : Int32)) hx hb dX5_wet_76 (by decide) ?_
                  refine lv_icmp_ge (tgt := 112) hx hb dX5_wet_78 (by decide) (fun c_78 => absurd c_78 (nI_ge (b := 16) (by omega) (by omega))) (fun c_78 => ?_)
                  refine lv_aload_n hx hb dX5_wet_81 rfl (lv_at hl 3 rfl) ?_
                  refine lv_iload hx hb dX5_wet_82 (lv_at hl 0 rfl) ?_
                  refine vRdI (b := (q 0)) (As := [.int (nI i_74)]) (rest := []) hF (c_X5_hadWithout l D cI cZ q now rains length poles parts plain key stair air acnt tcnt letters cells kinds frames rainsB abouts stoods kept keptF keptR seed (nI i_74)) (gdV tm_2_203 tm_2_205 tp_7 tm_1_1 tm_2_206) de_X5_hadWithout ⟨Nat.le_of_ble_eq_true rfl, Nat.le_of_ble_eq_true rfl⟩ hP hK (va_recv hK hP (ci := 4) (q0 := 0) rfl XW_0) hl.1 rfl (Nat.le_of_ble_eq_true rfl) dX5_wet_84 ⟨Nat.zero_le _, Nat.zero_le _⟩ ?_
                  refine sRdI (As := [.int (f_X5_hadWithout now plain key stair air (nI i_74))]) (rest := []) hF (c_J6_bitCount l D cI cZ q (f_X5_hadWithout now plain key stair air (nI i_74))) (gdS tm_1_210 tm_1_200 tm_1_9 tm_1_201) de_J6_bitCount_0f7a4 ⟨Nat.le_of_ble_eq_true rfl, Nat.le_of_ble_eq_true rfl⟩ va_P_nil hK hl.1 rfl (Nat.le_of_ble_eq_true rfl) dX5_wet_87 ⟨Nat.zero_le _, Nat.zero_le _⟩ ?_
                  refine lv_iload_n hx hb dX5_wet_90 rfl (lv_at hl 4 rfl) ?_
                  refine lv_icmp_lt (tgt := 106) hx hb dX5_wet_91 (by decide) (fun c_91 => ?_) (fun c_91 => ?_)
                  · rw [if_pos c_91] at hT_74
                    refine lv_iinc (v := (nI (i_74 + 1))) (lv' := [(6, .int (nI (i_74 + 1))), (5, .int be32), (4, .int ab74), (0, .ref (q 0)), (1, .int a1), (2, .int a2), (3, .int a3)]) hx hb dX5_wet_106 hl (k := 0) rfl (nI_up i_74) (by decide) rfl (fun ls hl => ?_)
                    refine lv_goto (tgt := 74) hx hb dX5_wet_109 (by decide) ?_
                    exact ih_74 (i_74 + 1) ab74 ls (by omega) hT_74 (lv_sub hl [0, 1, 2, 3, 4, 5, 6] rfl)
                  · rw [if_neg c_91] at hT_74
                    refine lv_iload hx hb dX5_wet_94 (lv_at hl 2 rfl) ?_
                    refine lv_aload_n hx hb dX5_wet_96 rfl (lv_at hl 3 rfl) ?_
                    refine lv_iload hx hb dX5_wet_97 (lv_at hl 0 rfl) ?_
                    refine lv_iload_n hx hb dX5_wet_99 rfl (lv_at hl 5 rfl) ?_
                    refine vRdI (b := (q 0)) (As := [.int (nI i_74), .int a2]) (rest := [.int ab74]) hF (c_X5_weightOf l D cI cZ q now rains length poles parts plain key stair air acnt tcnt letters cells kinds frames rainsB abouts stoods kept keptF keptR seed (nI i_74) a2) (gdV tm_2_208 tm_2_210 tp_8 tm_1_1 tm_2_211) de_X5_weightOf ⟨Nat.le_of_ble_eq_true rfl, Nat.le_of_ble_eq_true rfl⟩ hP hK (va_recv hK hP (ci := 4) (q0 := 0) rfl XW_0) hl.1 rfl (Nat.le_of_ble_eq_true rfl) dX5_wet_100 ⟨Nat.zero_le _, Nat.zero_le _⟩ ?_
                    refine lv_iadd hx hb dX5_wet_103 ?_
                    refine lv_istore (lv' := [(4, .int (ab74 + (f_X5_weightOf now (nI i_74) a2))), (6, .int (nI i_74)), (5, .int be32), (0, .ref (q 0)), (1, .int a1), (2, .int a2), (3, .int a3)]) hx hb dX5_wet_104 hl (by decide) rfl (fun ls hl => ?_)
                    refine lv_iinc (v := (nI (i_74 + 1))) (lv' := [(6, .int (nI (i_74 + 1))), (4, .int (ab74 + (f_X5_weightOf now (nI i_74) a2))), (5, .int be32), (0, .ref (q 0)), (1, .int a1), (2, .int a2), (3, .int a3)]) hx hb dX5_wet_106 hl (k := 1) rfl (nI_up i_74) (by decide) rfl (fun ls hl => ?_)
                    refine lv_goto (tgt := 74) hx hb dX5_wet_109 (by decide) ?_
                    exact ih_74 (i_74 + 1) (ab74 + (f_X5_weightOf now (nI i_74) a2)) ls (by omega) hT_74 (lv_sub hl [0, 2, 1, 3, 4, 5, 6] rfl)
              exact key_74 16 0 (0 : Int32) ls (by omega) hT_74 (lv_sub hl [0, 1, 2, 3, 4, 5, 6] rfl)
            | succ d_32 ih_32 =>
              intro i_32 be32 ls hi_32 hT_32 hl
              rw [f_X5_wet_l32_s] at hT_32
              refine lv_iload hx hb dX5_wet_32 (lv_at hl 0 rfl) ?_
              refine lv_iconst (v := (4 : Int32)) hx hb dX5_wet_34 (by decide) ?_
              refine lv_icmp_ge (tgt := 71) hx hb dX5_wet_35 (by decide) (fun c_35 => absurd c_35 (nI_ge (b := 4) (by omega) (by omega))) (fun c_35 => ?_)
              refine lv_iload hx hb dX5_wet_38 (lv_at hl 1 rfl) ?_
              refine lv_aload_n hx hb dX5_wet_40 rfl (lv_at hl 3 rfl) ?_
              refine va_get (D := D) (ci := 4) (v := .ref (q 2)) (C := RX5) (T := TX5) (N := 10) hx hb hts tbX5 hown hK hP 0 XW_0 rfl 1 (by decide) (hts _ tm_1_102) (fun _ h9 => h9) rfl dX5_wet_41 ?_
              refine lv_aload_n hx hb dX5_wet_44 rfl (lv_at hl 3 rfl) ?_
              refine va_get (D := D) (ci := 4) (v := .int now) (C := RX5) (T := TX5) (N := 10) hx hb hts tbX5 hown hK hP 0 XW_0 rfl 7 (by decide) (hts _ tm_1_108) (fun _ h9 => h9) rfl dX5_wet_45 ?_
              refine lv_iload hx hb dX5_wet_48 (lv_at hl 0 rfl) ?_
              refine vRdI (b := (q 2)) (As := [.int now, .int (nI i_32)]) (rest := [.int be32]) hF (c_X2_canStrike l D cI cZ q poles parts plain key stair air cells kinds now (nI i_32)) (gdV tm_2_56 tm_2_57 tm_2_58 tm_1_3 tm_2_59) de_X2_canStrike ⟨Nat.le_of_ble_eq_true rfl, Nat.le_of_ble_eq_true rfl⟩ (XW_P hP) hK (va_recv hK hP (ci := 1) (q0 := 2) rfl XW_2) hl.1 rfl (Nat.le_of_ble_eq_true rfl) dX5_wet_50 ⟨Nat.zero_le _, Nat.zero_le _⟩ ?_
              refine lv_if_eq (tgt := 61) hx hb dX5_wet_53 (by decide) (fun c_53 => ?_) (fun c_53 => ?_)
              · rw [if_pos c_53] at hT_32
                refine lv_iconst (v := (1 : Int32)) hx hb dX5_wet_61 (by decide) ?_
                refine lv_imul hx hb dX5_wet_62 ?_
                refine lv_istore (lv' := [(5, .int (be32 * (1 : Int32))), (6, .int (nI i_32)), (4, .int (0 : Int32)), (0, .ref (q 0)), (1, .int a1), (2, .int a2), (3, .int a3)]) hx hb dX5_wet_63 hl (by decide) rfl (fun ls hl => ?_)
                refine lv_iinc (v := (nI (i_32 + 1))) (lv' := [(6, .int (nI (i_32 + 1))), (5, .int (be32 * (1 : Int32))), (4, .int (0 : Int32)), (0, .ref (q 0)), (1, .int a1), (2, .int a2), (3, .int a3)]) hx hb dX5_wet_65 hl (k := 1) rfl (nI_up i_32) (by decide) rfl (fun ls hl => ?_)
                refine lv_goto (tgt := 32) hx hb dX5_wet_68 (by decide) ?_
                exact ih_32 (i_32 + 1) (be32 * (1 : Int32)) ls (by omega) hT_32 (lv_sub hl [0, 1, 2, 3, 4, 5, 6] rfl)
              · rw [if_neg c_53] at hT_32
                refine lv_bipush (v := (10 : Int32)) hx hb dX5_wet_56 (by decide) ?_
                refine lv_goto (tgt := 62) hx hb dX5_wet_58 (by decide) ?_
                refine lv_imul hx hb dX5_wet_62 ?_
                refine lv_istore (lv' := [(5, .int (be32 * (10 : Int32))), (6, .int (nI i_32)), (4, .int (0 : Int32)), (0, .ref (q 0)), (1, .int a1), (2, .int a2), (3, .int a3)]) hx hb dX5_wet_63 hl (by decide) rfl (fun ls hl => ?_)
                refine lv_iinc (v := (nI (i_32 + 1))) (lv' := [(6, .int (nI (i_32 + 1))), (5, .int (be32 * (10 : Int32))), (4, .int (0 : Int32)), (0, .ref (q 0)), (1, .int a1), (2, .int a2), (3, .int a3)]) hx hb dX5_wet_65 hl (k := 1) rfl (nI_up i_32) (by decide) rfl (fun ls hl => ?_)
                refine lv_goto (tgt := 32) hx hb dX5_wet_68 (by decide) ?_
                exact ih_32 (i_32 + 1) (be32 * (10 : Int32)) ls (by omega) hT_32 (lv_sub hl [0, 1, 2, 3, 4, 5, 6] rfl)
          exact key_32 4 0 (1 : Int32) ls (by omega) hT_32 (lv_sub hl [0, 1, 2, 3, 4, 5, 6] rfl)
        · rw [if_neg c_17] at hR
          refine lv_bipush (v := (-2 : Int32)) hx hb dX5_wet_20 (by decide) ?_
          subst hR
          exact fin _ _ dX5_wet_22 (nar_i _)
def f_X5_seed (seed : Int64) (a1 : Int64) : (Int64) × (Int64) := (seed, a1)
set_option maxHeartbeats 4000000 in
set_option maxRecDepth 100000 in
theorem c_X5_seed (l : Launch) (D : va_G) (cI cZ : ClassId) (q : Nat → Nat) (now rains length poles parts plain key stair air acnt tcnt : Int32) (letters cells kinds frames rainsB abouts stoods kept keptF keptR : Nat → Int32) (seed : Int64) (a1 : Int64) : WrL l yX5_seed cX5_seed 5 0 0 D (tyL cI cZ) (XW cI cZ q now rains length poles parts plain key stair air acnt tcnt letters cells kinds frames rainsB abouts stoods kept keptF keptR seed) [.ref (q 0), .long a1] (f_X5_seed seed a1).1 (XW cI cZ q now rains length poles parts plain key stair air acnt tcnt letters cells kinds frames rainsB abouts stoods kept keptF keptR (f_X5_seed seed a1).2) := by
  refine WrL.of (by decide) (Nat.le_of_ble_eq_true rfl) ?_
  intro p e s m args below meth c Q A hx hb hml hown hts hP hK hD hS fin ls hl
  have hown : s.vm.findClass RX5 = some m.cls := hown
  have hF : CallFix p m c cX5_seed 5 s args tb RX5 := ⟨hx, hb, hml, hown, hts⟩
  have hl : lv_has ls 5 [(0, .ref (q 0)), (1, .long a1)] := hl
  generalize hR : (f_X5_seed seed a1) = R at fin
  unfold f_X5_seed at hR
  refine lv_aload_n hx hb dX5_seed_0 rfl (lv_at hl 0 rfl) ?_
  refine va_get (D := D) (ci := 4) (v := .long seed) (C := RX5) (T := TX5) (N := 10) hx hb hts tbX5 hown hK hP 0 XW_0 rfl 9 (by decide) (hts _ tm_1_110) (fun _ h9 => h9) rfl dX5_seed_1 ?_
  refine lv_lstore_n (lv' := [(3, .long seed), (0, .ref (q 0)), (1, .long a1)]) hx hb dX5_seed_4 rfl hl (by decide) rfl (fun ls hl => ?_)
  refine lv_aload_n hx hb dX5_seed_5 rfl (lv_at hl 1 rfl) ?_
  refine lv_lload_n hx hb dX5_seed_6 rfl (lv_at hl 2 rfl) ?_
  refine va_put (D := D) (ci := 4) (v := .long a1) (ty := .long) (C := RX5) (T := TX5) (N := 10) hx hb hts tbX5 tyX5 tyX5_ok nmX5 hown hK hP hD hS 0 XW_0 rfl 9 (by decide) (hts _ tm_1_110) (fun _ h9 => h9) rfl (by decide +kernel) rfl rfl (Nat.le_of_ble_eq_true rfl) dX5_seed_7 (fun H locs hP hD hS => ?_)
  have hP : va_P D vwCl (XW cI cZ q now rains length poles parts plain key stair air acnt tcnt letters cells kinds frames rainsB abouts stoods kept keptF keptR a1) H := hP
  have hD : va_D A (XW cI cZ q now rains length poles parts plain key stair air acnt tcnt letters cells kinds frames rainsB abouts stoods kept keptF keptR a1) := hD.same rfl
  refine lv_lload_n hx hb dX5_seed_10 rfl (lv_at hl 0 rfl) ?_
  subst hR
  exact fin _ _ _ _ dX5_seed_11 hP hS
def f_X5_terms_l24 (poles : Int32) (plain : Int32) (key : Int32) (stair : Int32) (air : Int32) : Nat → Nat → (Int32) → (Int32) → (Int64) → (Int32) × (Int32) × (Int64)
  | 0, i_24, fr24, sm24, sd24 => (fr24, sm24, sd24)
  | d_24 + 1, i_24, fr24, sm24, sd24 => (idd (f_X5_terms_l24 poles plain key stair air d_24 (i_24 + 1) (f_X5_withChance poles plain key stair air fr24 (sdX (sdN sd24))) (sm24 + (f_X1_countHad (f_X5_withChance poles plain key stair air fr24 (sdX (sdN sd24))))) (sdN sd24)))
theorem f_X5_terms_l24_z {poles : Int32} {plain : Int32} {key : Int32} {stair : Int32} {air : Int32} {i_24 : Nat} {fr24 : Int32} {sm24 : Int32} {sd24 : Int64} : f_X5_terms_l24 poles plain key stair air 0 i_24 fr24 sm24 sd24 = (fr24, sm24, sd24) := by rw [f_X5_terms_l24]
theorem f_X5_terms_l24_s {poles : Int32} {plain : Int32} {key : Int32} {stair : Int32} {air : Int32} {d_24 : Nat} {i_24 : Nat} {fr24 : Int32} {sm24 : Int32} {sd24 : Int64} : f_X5_terms_l24 poles plain key stair air (d_24 + 1) i_24 fr24 sm24 sd24 = (idd (f_X5_terms_l24 poles plain key stair air d_24 (i_24 + 1) (f_X5_withChance poles plain key stair air fr24 (sdX (sdN sd24))) (sm24 + (f_X1_countHad (f_X5_withChance poles plain key stair air fr24 (sdX (sdN sd24))))) (sdN sd24))) := by rw [f_X5_terms_l24]
def f_X5_terms (now : Int32) (poles : Int32) (plain : Int32) (key : Int32) (stair : Int32) (air : Int32) (seed : Int64) (a1 : Int32) : (Int32) × (Int64) := (if a1 < (1 : Int32) then ((-2 : Int32), seed) else (if a1 ≤ (30 : Int32) then ((f_X5_terms_l24 poles plain key stair air a1.toNatClampNeg 0 now (0 : Int32) seed).2.1, (f_X5_terms_l24 poles plain key stair air a1.toNatClampNeg 0 now (0 : Int32) seed).2.2) else ((-2 : Int32), seed)))
set_option maxHeartbeats 4000000 in
set_option maxRecDepth 100000 in
theorem c_X5_terms (l : Launch) (D : va_G) (cI cZ : ClassId) (q : Nat → Nat) (now rains length poles parts plain key stair air acnt tcnt : Int32) (letters cells kinds frames rainsB abouts stoods kept keptF keptR : Nat → Int32) (seed : Int64) (a1 : Int32) : WrI l yX5_terms cX5_terms 5 .int 5 118 D (tyL cI cZ) (XW cI cZ q now rains length poles parts plain key stair air acnt tcnt letters cells kinds frames rainsB abouts stoods kept keptF keptR seed) [.ref (q 0), .int a1] (f_X5_terms now poles plain key stair air seed a1).1 (XW cI cZ q now rains length poles parts plain key stair air acnt tcnt letters cells kinds frames rainsB abouts stoods kept keptF keptR (f_X5_terms now poles plain key stair air seed a1).2) := by
  refine WrI.of (by decide) (Nat.le_of_ble_eq_true rfl) ?_
  intro p e s m args below meth c Q A hx hb hml hown hts hP hK hD hS fin ls hl
  have hown : s.vm.findClass RX5 = some m.cls := hown
  have hF : CallFix p m c cX5_terms 5 s args tb RX5 := ⟨hx, hb, hml, hown, hts⟩
  have hl : lv_has ls 5 [(0, .ref (q 0)), (1, .int a1)] := hl
  generalize hR : (f_X5_terms now poles plain key stair air seed a1) = R at fin
  unfold f_X5_terms at hR
  refine lv_iload_n hx hb dX5_terms_0 rfl (lv_at hl 1 rfl) ?_
  refine lv_iconst (v := (1 : Int32)) hx hb dX5_terms_1 (by decide) ?_
  refine lv_icmp_lt (tgt := 11) hx hb dX5_terms_2 (by decide) (fun c_2 => ?_) (fun c_2 => ?_)
  · rw [if_pos c_2] at hR
    refine lv_bipush (v := (-2 : Int32)) hx hb dX5_terms_11 (by decide) ?_
    subst hR
    exact fin _ _ _ _ dX5_terms_13 (nar_i _) hP hS
  · rw [if_neg c_2] at hR
    refine lv_iload_n hx hb dX5_terms_5 rfl (lv_at hl 1 rfl) ?_
    refine lv_bipush (v := (30 : Int32)) hx hb dX5_terms_6 (by decide) ?_
    refine lv_icmp_le (tgt := 14) hx hb dX5_terms_8 (by decide) (fun c_8 => ?_) (fun c_8 => ?_)
    · rw [if_pos c_8] at hR
      have hna : a1 = nI a1.toNatClampNeg := nI_self1 c_2
      have hna30 : a1.toNatClampNeg ≤ 30 := cl_le' (b := 30) (by decide) c_8
      refine lv_aload_n hx hb dX5_terms_14 rfl (lv_at hl 0 rfl) ?_
      refine va_get (D := D) (ci := 4) (v := .int now) (C := RX5) (T := TX5) (N := 10) hx hb hts tbX5 hown hK hP 0 XW_0 rfl 7 (by decide) (hts _ tm_1_108) (fun _ h9 => h9) rfl dX5_terms_15 ?_
      refine lv_istore_n (lv' := [(2, .int now), (0, .ref (q 0)), (1, .int a1)]) hx hb dX5_terms_18 rfl hl (by decide) rfl (fun ls hl => ?_)
      refine lv_iconst (v := (0 : Int32)) hx hb dX5_terms_19 (by decide) ?_
      refine lv_istore_n (lv' := [(3, .int (0 : Int32)), (2, .int now), (0, .ref (q 0)), (1, .int a1)]) hx hb dX5_terms_20 rfl hl (by decide) rfl (fun ls hl => ?_)
      refine lv_iconst (v := (0 : Int32)) hx hb dX5_terms_21 (by decide) ?_
      refine lv_istore (lv' := [(4, .int (0 : Int32)), (3, .int (0 : Int32)), (2, .int now), (0, .ref (q 0)), (1, .int a1)]) hx hb dX5_terms_22 hl (by decide) rfl (fun ls hl => ?_)
      obtain ⟨T_24, hT_24⟩ : ∃ z, f_X5_terms_l24 poles plain key stair air a1.toNatClampNeg 0 now (0 : Int32) seed = z := ⟨_, rfl⟩
      rw [hT_24] at hR
      have key_24 : ∀ (d_24 i_24 : Nat) (fr24 : Int32) (sm24 : Int32) (sd24 : Int64) (ls : Array Slot) (H : Heap) (locs : List Loc), i_24 + d_24 = a1.toNatClampNeg → f_X5_terms_l24 poles plain key stair air d_24 i_24 fr24 sm24 sd24 = T_24 → lv_has ls 5 [(4, .int (nI i_24)), (3, .int sm24), (2, .int fr24), (0, .ref (q 0)), (1, .int a1)] → va_P D vwCl (XW cI cZ q now rains length poles parts plain key stair air acnt tcnt letters cells kinds frames rainsB abouts stoods kept keptF keptR sd24) H → va_S A s.heap H locs → W p l e (rmO 5 118) s m args below meth c H locs 0 0 Q (F0 m 24 ls []) := by
        intro d_24
        induction d_24 with
        | zero =>
          intro i_24 fr24 sm24 sd24 ls H locs hi_24 hT_24 hl hP hS
          have hD : va_D A (XW cI cZ q now rains length poles parts plain key stair air acnt tcnt letters cells kinds frames rainsB abouts stoods kept keptF keptR sd24) := hD.same rfl
          rw [f_X5_terms_l24_z] at hT_24
          refine lv_iload hx hb dX5_terms_24 (lv_at hl 0 rfl) ?_
          refine lv_iload_n hx hb dX5_terms_26 rfl (lv_at hl 4 rfl) ?_
          refine lv_icmp_ge (tgt := 77) hx hb dX5_terms_27 (by decide) (fun c_27 => ?_) (fun c_27 => absurd (by rw [hna]; exact nI_le  (by omega) (by omega)) c_27)
          subst hT_24
          try dsimp only at hR
          refine lv_iload_n hx hb dX5_terms_77 rfl (lv_at hl 1 rfl) ?_
          subst hR
          exact fin _ _ _ _ dX5_terms_78 (nar_i _) hP hS
        | succ d_24 ih_24 =>
          intro i_24 fr24 sm24 sd24 ls H locs hi_24 hT_24 hl hP hS
          have hD : va_D A (XW cI cZ q now rains length poles parts plain key stair air acnt tcnt letters cells kinds frames rainsB abouts stoods kept keptF keptR sd24) := hD.same rfl
          rw [f_X5_terms_l24_s] at hT_24
          refine lv_iload hx hb dX5_terms_24 (lv_at hl 0 rfl) ?_
          refine lv_iload_n hx hb dX5_terms_26 rfl (lv_at hl 4 rfl) ?_
          refine lv_icmp_ge (tgt := 77) hx hb dX5_terms_27 (by decide) (fun c_27 => absurd c_27 (by rw [hna]; exact nI_ge  (by omega) (by omega))) (fun c_27 => ?_)
          refine lv_aload_n hx hb dX5_terms_30 rfl (lv_at hl 3 rfl) ?_
          refine lv_aload_n hx hb dX5_terms_31 rfl (lv_at hl 3 rfl) ?_
          refine va_get (D := D) (ci := 4) (v := .long sd24) (C := RX5) (T := TX5) (N := 10) hx hb hts tbX5 hown hK hP 0 XW_0 rfl 9 (by decide) (hts _ tm_1_110) (fun _ h9 => h9) rfl dX5_terms_32 ?_
          refine lv_ldc2 (v := (6364136223846793005 : Int64)) hx hb hown (hts _ tm_2_220) dX5_terms_35 ?_
          refine lv_rwl (z := kA) rfl ?_
          refine lv_lmul hx hb dX5_terms_38 ?_
          refine lv_ldc2 (v := (1442695040888963407 : Int64)) hx hb hown (hts _ tm_2_221) dX5_terms_39 ?_
          refine lv_rwl (z := kB) rfl ?_
          refine lv_ladd hx hb dX5_terms_42 ?_
          refine lv_rwl (z := (sdN sd24)) rfl ?_
          refine va_put (D := D) (ci := 4) (v := .long (sdN sd24)) (ty := .long) (C := RX5) (T := TX5) (N := 10) hx hb hts tbX5 tyX5 tyX5_ok nmX5 hown hK hP hD hS 0 XW_0 rfl 9 (by decide) (hts _ tm_1_110) (fun _ h9 => h9) rfl (by decide +kernel) rfl rfl (Nat.le_of_ble_eq_true rfl) dX5_terms_43 (fun H locs hP hD hS => ?_)
          have hP : va_P D vwCl (XW cI cZ q now rains length poles parts plain key stair air acnt tcnt letters cells kinds frames rainsB abouts stoods kept keptF keptR (sdN sd24)) H := hP
          have hD : va_D A (XW cI cZ q now rains length poles parts plain key stair air acnt tcnt letters cells kinds frames rainsB abouts stoods kept keptF keptR (sdN sd24)) := hD.same rfl
          refine lv_aload_n hx hb dX5_terms_46 rfl (lv_at hl 3 rfl) ?_
          refine lv_iload_n hx hb dX5_terms_47 rfl (lv_at hl 2 rfl) ?_
          refine lv_aload_n hx hb dX5_terms_48 rfl (lv_at hl 3 rfl) ?_
          refine va_get (D := D) (ci := 4) (v := .long (sdN sd24)) (C := RX5) (T := TX5) (N := 10) hx hb hts tbX5 hown hK hP 0 XW_0 rfl 9 (by decide) (hts _ tm_1_110) (fun _ h9 => h9) rfl dX5_terms_49 ?_
          refine lv_bipush (v := (33 : Int32)) hx hb dX5_terms_52 (by decide) ?_
          refine lv_lushr (v := (ushl (sdN sd24) (33 : Int32))) hx hb dX5_terms_54 rfl ?_
          refine lv_ldc2 (v := (16 : Int64)) hx hb hown (hts _ tm_2_222) dX5_terms_55 ?_
          refine lv_lrem hx hb dX5_terms_58 (by decide) ?_
          refine lv_rwl (z := (jrl (ushl (sdN sd24) (33 : Int32)) (16 : Int64))) rfl ?_
          refine lv_l2i (v := (jrl (ushl (sdN sd24) (33 : Int32)) (16 : Int64)).toInt32) hx hb dX5_terms_59 rfl ?_
          refine lv_rw (z := (sdX (sdN sd24))) rfl ?_
          refine vRdI (b := (q 0)) (As := [.int fr24, .int (sdX (sdN sd24))]) (rest := []) hF (c_X5_withChance l D cI cZ q now rains length poles parts plain key stair air acnt tcnt letters cells kinds frames rainsB abouts stoods kept keptF keptR (sdN sd24) fr24 (sdX (sdN sd24))) (gdV tm_2_223 tm_2_225 tp_9 tm_1_1 tm_2_226) de_X5_withChance ⟨Nat.le_of_ble_eq_true rfl, Nat.le_of_ble_eq_true rfl⟩ hP hK (va_recv hK hP (ci := 4) (q0 := 0) rfl XW_0) hl.1 rfl (Nat.le_of_ble_eq_true rfl) dX5_terms_60 ⟨Nat.zero_le _, Nat.zero_le _⟩ ?_
          refine lv_istore_n (lv' := [(2, .int (f_X5_withChance poles plain key stair air fr24 (sdX (sdN sd24)))), (4, .int (nI i_24)), (3, .int sm24), (0, .ref (q 0)), (1, .int a1)]) hx hb dX5_terms_63 rfl hl (by decide) rfl (fun ls hl => ?_)
          refine lv_iload_n hx hb dX5_terms_64 rfl (lv_at hl 2 rfl) ?_
          refine lv_iload_n hx hb dX5_terms_65 rfl (lv_at hl 0 rfl) ?_
          refine sRdI (As := [.int (f_X5_withChance poles plain key stair air fr24 (sdX (sdN sd24)))]) (rest := [.int sm24]) hF (c_X1_countHad l D cI cZ q (f_X5_withChance poles plain key stair air fr24 (sdX (sdN sd24)))) (gdS tm_2_48 tm_2_49 tm_1_8 tm_2_50) de_X1_countHad ⟨Nat.le_of_ble_eq_true rfl, Nat.le_of_ble_eq_true rfl⟩ va_P_nil hK hl.1 rfl (Nat.le_of_ble_eq_true rfl) dX5_terms_66 ⟨Nat.zero_le _, Nat.zero_le _⟩ ?_
          refine lv_iadd hx hb dX5_terms_69 ?_
          refine lv_istore_n (lv' := [(3, .int (sm24 + (f_X1_countHad (f_X5_withChance poles plain key stair air fr24 (sdX (sdN sd24)))))), (2, .int (f_X5_withChance poles plain key stair air fr24 (sdX (sdN sd24)))), (4, .int (nI i_24)), (0, .ref (q 0)), (1, .int a1)]) hx hb dX5_terms_70 rfl hl (by decide) rfl (fun ls hl => ?_)
          refine lv_iinc (v := (nI (i_24 + 1))) (lv' := [(4, .int (nI (i_24 + 1))), (3, .int (sm24 + (f_X1_countHad (f_X5_withChance poles plain key stair air fr24 (sdX (sdN sd24)))))), (2, .int (f_X5_withChance poles plain key stair air fr24 (sdX (sdN sd24)))), (0, .ref (q 0)), (1, .int a1)]) hx hb dX5_terms_71 hl (k := 2) rfl (nI_up i_24) (by decide) rfl (fun ls hl => ?_)
          refine lv_goto (tgt := 24) hx hb dX5_terms_74 (by decide) ?_
          rw [idd_eq] at hT_24
          exact ih_24 (i_24 + 1) (f_X5_withChance poles plain key stair air fr24 (sdX (sdN sd24))) (sm24 + (f_X1_countHad (f_X5_withChance poles plain key stair air fr24 (sdX (sdN sd24))))) (sdN sd24) ls _ _ (by omega) hT_24 (lv_sub hl [0, 1, 2, 3, 4] rfl) hP hS
      exact key_24 a1.toNatClampNeg 0 now (0 : Int32) seed ls _ _ (by omega) hT_24 (lv_sub hl [0, 1, 2, 3, 4] rfl) hP hS
    · rw [if_neg c_8] at hR
      refine lv_bipush (v := (-2 : Int32)) hx hb dX5_terms_11 (by decide) ?_
      subst hR
      exact fin _ _ _ _ dX5_terms_13 (nar_i _) hP hS
def f_X5_keep (now : Int32) (rains : Int32) (kept : Nat → Int32) (keptF : Nat → Int32) (keptR : Nat → Int32) (a1 : Int32) : (Int32) × (Nat → Int32) × (Nat → Int32) × (Nat → Int32) := (if a1 < (0 : Int32) then ((-1 : Int32), kept, keptF, keptR) else (if a1 < (2 : Int32) then ((f_X5_allPoles now), (upd kept a1.toNatClampNeg (1 : Int32)), (upd keptF a1.toNatClampNeg now), (upd keptR a1.toNatClampNeg rains)) else ((-1 : Int32), kept, keptF, keptR)))
set_option maxHeartbeats 4000000 in
set_option maxRecDepth 100000 in
theorem c_X5_keep (l : Launch) (D : va_G) (cI cZ : ClassId) (q : Nat → Nat) (now rains length poles parts plain key stair air acnt tcnt : Int32) (letters cells kinds frames rainsB abouts stoods kept keptF keptR : Nat → Int32) (seed : Int64) (a1 : Int32) : WrI l yX5_keep cX5_keep 2 .int 2 40 D (tyL cI cZ) (XW cI cZ q now rains length poles parts plain key stair air acnt tcnt letters cells kinds frames rainsB abouts stoods kept keptF keptR seed) [.ref (q 0), .int a1] (f_X5_keep now rains kept keptF keptR a1).1 (XW cI cZ q now rains length poles parts plain key stair air acnt tcnt letters cells kinds frames rainsB abouts stoods (f_X5_keep now rains kept keptF keptR a1).2.1 (f_X5_keep now rains kept keptF keptR a1).2.2.1 (f_X5_keep now rains kept keptF keptR a1).2.2.2 seed) := by
  refine WrI.of (by decide) (Nat.le_of_ble_eq_true rfl) ?_
  intro p e s m args below meth c Q A hx hb hml hown hts hP hK hD hS fin ls hl
  have hown : s.vm.findClass RX5 = some m.cls := hown
  have hF : CallFix p m c cX5_keep 2 s args tb RX5 := ⟨hx, hb, hml, hown, hts⟩
  have hl : lv_has ls 2 [(0, .ref (q 0)), (1, .int a1)] := hl
  generalize hR : (f_X5_keep now rains kept keptF keptR a1) = R at fin
  unfold f_X5_keep at hR
  refine lv_iload_n hx hb dX5_keep_0 rfl (lv_at hl 1 rfl) ?_
  refine lv_if_lt (tgt := 9) hx hb dX5_keep_1 (by decide) (fun c_1 => ?_) (fun c_1 => ?_)
  · rw [if_pos c_1] at hR
    refine lv_iconst (v := (-1 : Int32)) hx hb dX5_keep_9 (by decide) ?_
    subst hR
    exact fin _ _ _ _ dX5_keep_10 (nar_i _) hP hS
  · rw [if_neg c_1] at hR
    refine lv_iload_n hx hb dX5_keep_4 rfl (lv_at hl 1 rfl) ?_
    refine lv_iconst (v := (2 : Int32)) hx hb dX5_keep_5 (by decide) ?_
    refine lv_icmp_lt (tgt := 11) hx hb dX5_keep_6 (by decide) (fun c_6 => ?_) (fun c_6 => ?_)
    · rw [if_pos c_6] at hR
      refine lv_aload_n hx hb dX5_keep_11 rfl (lv_at hl 0 rfl) ?_
      refine va_get (D := D) (ci := 4) (v := .ref (q 12)) (C := RX5) (T := TX5) (N := 10) hx hb hts tbX5 hown hK hP 0 XW_0 rfl 4 (by decide) (hts _ tm_1_105) (fun _ h9 => h9) rfl dX5_keep_12 ?_
      refine lv_iload_n hx hb dX5_keep_15 rfl (lv_at hl 1 rfl) ?_
      refine lv_iconst (v := (1 : Int32)) hx hb dX5_keep_16 (by decide) ?_
      refine va_zast hx hb hK hP hD hS 12 1 XW_12 rfl (vi_a (b := 2) (by decide) c_1 c_6) dX5_keep_17 (fun H locs hP hD hS => ?_)
      have hP : va_P D vwCl (XW cI cZ q now rains length poles parts plain key stair air acnt tcnt letters cells kinds frames rainsB abouts stoods (upd kept a1.toNatClampNeg (vp_nar .boolean (1 : Int32))) keptF keptR seed) H := hP
      rw [show vp_nar .boolean (1 : Int32) = (1 : Int32) from rfl] at hP
      have hD : va_D A (XW cI cZ q now rains length poles parts plain key stair air acnt tcnt letters cells kinds frames rainsB abouts stoods (upd kept a1.toNatClampNeg (1 : Int32)) keptF keptR seed) := hD.same rfl
      refine lv_aload_n hx hb dX5_keep_18 rfl (lv_at hl 0 rfl) ?_
      refine va_get (D := D) (ci := 4) (v := .ref (q 13)) (C := RX5) (T := TX5) (N := 10) hx hb hts tbX5 hown hK hP 0 XW_0 rfl 5 (by decide) (hts _ tm_1_106) (fun _ h9 => h9) rfl dX5_keep_19 ?_
      refine lv_iload_n hx hb dX5_keep_22 rfl (lv_at hl 1 rfl) ?_
      refine lv_aload_n hx hb dX5_keep_23 rfl (lv_at hl 0 rfl) ?_
      refine va_get (D := D) (ci := 4) (v := .int now) (C := RX5) (T := TX5) (N := 10) hx hb hts tbX5 hown hK hP 0 XW_0 rfl 7 (by decide) (hts _ tm_1_108) (fun _ h9 => h9) rfl dX5_keep_24 ?_
      refine va_iast hx hb hK hP hD hS 13 0 XW_13 rfl (vi_a (b := 2) (by decide) c_1 c_6) dX5_keep_27 (fun H locs hP hD hS => ?_)
      have hP : va_P D vwCl (XW cI cZ q now rains length poles parts plain key stair air acnt tcnt letters cells kinds frames rainsB abouts stoods (upd kept a1.toNatClampNeg (1 : Int32)) (upd keptF a1.toNatClampNeg now) keptR seed) H := hP
      have hD : va_D A (XW cI cZ q now rains length poles parts plain key stair air acnt tcnt letters cells kinds frames rainsB abouts stoods (upd kept a1.toNatClampNeg (1 : Int32)) (upd keptF a1.toNatClampNeg now) keptR seed) := hD.same rfl
      refine lv_aload_n hx hb dX5_keep_28 rfl (lv_at hl 0 rfl) ?_
      refine va_get (D := D) (ci := 4) (v := .ref (q 14)) (C := RX5) (T := TX5) (N := 10) hx hb hts tbX5 hown hK hP 0 XW_0 rfl 6 (by decide) (hts _ tm_1_107) (fun _ h9 => h9) rfl dX5_keep_29 ?_
      refine lv_iload_n hx hb dX5_keep_32 rfl (lv_at hl 1 rfl) ?_
      refine lv_aload_n hx hb dX5_keep_33 rfl (lv_at hl 0 rfl) ?_
      refine va_get (D := D) (ci := 4) (v := .int rains) (C := RX5) (T := TX5) (N := 10) hx hb hts tbX5 hown hK hP 0 XW_0 rfl 8 (by decide) (hts _ tm_1_109) (fun _ h9 => h9) rfl dX5_keep_34 ?_
      refine va_iast hx hb hK hP hD hS 14 0 XW_14 rfl (vi_a (b := 2) (by decide) c_1 c_6) dX5_keep_37 (fun H locs hP hD hS => ?_)
      have hP : va_P D vwCl (XW cI cZ q now rains length poles parts plain key stair air acnt tcnt letters cells kinds frames rainsB abouts stoods (upd kept a1.toNatClampNeg (1 : Int32)) (upd keptF a1.toNatClampNeg now) (upd keptR a1.toNatClampNeg rains) seed) H := hP
      have hD : va_D A (XW cI cZ q now rains length poles parts plain key stair air acnt tcnt letters cells kinds frames rainsB abouts stoods (upd kept a1.toNatClampNeg (1 : Int32)) (upd keptF a1.toNatClampNeg now) (upd keptR a1.toNatClampNeg rains) seed) := hD.same rfl
      refine lv_aload_n hx hb dX5_keep_38 rfl (lv_at hl 0 rfl) ?_
      refine vRdI (b := (q 0)) (As := []) (rest := []) hF (c_X5_allPoles l D cI cZ q now rains length poles parts plain key stair air acnt tcnt letters cells kinds frames rainsB abouts stoods (upd kept a1.toNatClampNeg (1 : Int32)) (upd keptF a1.toNatClampNeg now) (upd keptR a1.toNatClampNeg rains) seed) (gdV tm_1_205 tm_1_207 tp_0 tm_1_1 tm_1_208) de_X5_allPoles ⟨Nat.le_of_ble_eq_true rfl, Nat.le_of_ble_eq_true rfl⟩ hP hK (va_recv hK hP (ci := 4) (q0 := 0) rfl XW_0) hl.1 rfl (Nat.le_of_ble_eq_true rfl) dX5_keep_39 ⟨Nat.zero_le _, Nat.zero_le _⟩ ?_
      subst hR
      exact fin _ _ _ _ dX5_keep_42 (nar_i _) hP hS
    · rw [if_neg c_6] at hR
      refine lv_iconst (v := (-1 : Int32)) hx hb dX5_keep_9 (by decide) ?_
      subst hR
      exact fin _ _ _ _ dX5_keep_10 (nar_i _) hP hS
def f_X5_again (now : Int32) (rains : Int32) (acnt : Int32) (kept : Nat → Int32) (keptF : Nat → Int32) (keptR : Nat → Int32) (a1 : Int32) : (Int32) × (Int32) × (Int32) × (Int32) := (if a1 < (0 : Int32) then ((-1 : Int32), now, rains, acnt) else (if a1 < (2 : Int32) then (if (kept a1.toNatClampNeg) = (0 : Int32) then ((-3 : Int32), now, rains, acnt) else ((f_X5_allPoles (keptF a1.toNatClampNeg)), (keptF a1.toNatClampNeg), (keptR a1.toNatClampNeg), (0 : Int32))) else ((-1 : Int32), now, rains, acnt)))
set_option maxHeartbeats 4000000 in
set_option maxRecDepth 100000 in
theorem c_X5_again (l : Launch) (D : va_G) (cI cZ : ClassId) (q : Nat → Nat) (now rains length poles parts plain key stair air acnt tcnt : Int32) (letters cells kinds frames rainsB abouts stoods kept keptF keptR : Nat → Int32) (seed : Int64) (a1 : Int32) : WrI l yX5_again cX5_again 2 .int 2 40 D (tyL cI cZ) (XW cI cZ q now rains length poles parts plain key stair air acnt tcnt letters cells kinds frames rainsB abouts stoods kept keptF keptR seed) [.ref (q 0), .int a1] (f_X5_again now rains acnt kept keptF keptR a1).1 (XW cI cZ q (f_X5_again now rains acnt kept keptF keptR a1).2.1 (f_X5_again now rains acnt kept keptF keptR a1).2.2.1 length poles parts plain key stair air (f_X5_again now rains acnt kept keptF keptR a1).2.2.2 tcnt letters cells kinds frames rainsB abouts stoods kept keptF keptR seed) := by
  refine WrI.of (by decide) (Nat.le_of_ble_eq_true rfl) ?_
  intro p e s m args below meth c Q A hx hb hml hown hts hP hK hD hS fin ls hl
  have hown : s.vm.findClass RX5 = some m.cls := hown
  have hF : CallFix p m c cX5_again 2 s args tb RX5 := ⟨hx, hb, hml, hown, hts⟩
  have hl : lv_has ls 2 [(0, .ref (q 0)), (1, .int a1)] := hl
  generalize hR : (f_X5_again now rains acnt kept keptF keptR a1) = R at fin
  unfold f_X5_again at hR
  refine lv_iload_n hx hb dX5_again_0 rfl (lv_at hl 1 rfl) ?_
  refine lv_if_lt (tgt := 9) hx hb dX5_again_1 (by decide) (fun c_1 => ?_) (fun c_1 => ?_)
  · rw [if_pos c_1] at hR
    refine lv_iconst (v := (-1 : Int32)) hx hb dX5_again_9 (by decide) ?_
    subst hR
    exact fin _ _ _ _ dX5_again_10 (nar_i _) hP hS
  · rw [if_neg c_1] at hR
    refine lv_iload_n hx hb dX5_again_4 rfl (lv_at hl 1 rfl) ?_
    refine lv_iconst (v := (2 : Int32)) hx hb dX5_again_5 (by decide) ?_
    refine lv_icmp_lt (tgt := 11) hx hb dX5_again_6 (by decide) (fun c_6 => ?_) (fun c_6 => ?_)
    · rw [if_pos c_6] at hR
      refine lv_aload_n hx hb dX5_again_11 rfl (lv_at hl 0 rfl) ?_
      refine va_get (D := D) (ci := 4) (v := .ref (q 12)) (C := RX5) (T := TX5) (N := 10) hx hb hts tbX5 hown hK hP 0 XW_0 rfl 4 (by decide) (hts _ tm_1_105) (fun _ h9 => h9) rfl dX5_again_12 ?_
      refine lv_iload_n hx hb dX5_again_15 rfl (lv_at hl 1 rfl) ?_
      refine va_zald hx hb hK hP 12 1 XW_12 rfl (vi_a (b := 2) (by decide) c_1 c_6) dX5_again_16 ?_
      refine lv_if_ne (tgt := 23) hx hb dX5_again_17 (by decide) (fun c_17 => ?_) (fun c_17 => ?_)
      · rw [if_neg c_17] at hR
        refine lv_aload_n hx hb dX5_again_23 rfl (lv_at hl 0 rfl) ?_
        refine lv_aload_n hx hb dX5_again_24 rfl (lv_at hl 0 rfl) ?_
        refine va_get (D := D) (ci := 4) (v := .ref (q 13)) (C := RX5) (T := TX5) (N := 10) hx hb hts tbX5 hown hK hP 0 XW_0 rfl 5 (by decide) (hts _ tm_1_106) (fun _ h9 => h9) rfl dX5_again_25 ?_
        refine lv_iload_n hx hb dX5_again_28 rfl (lv_at hl 1 rfl) ?_
        refine va_iald hx hb hK hP 13 0 XW_13 rfl (vi_a (b := 2) (by decide) c_1 c_6) dX5_again_29 ?_
        refine va_put (D := D) (ci := 4) (v := .int (keptF a1.toNatClampNeg)) (ty := .int) (C := RX5) (T := TX5) (N := 10) hx hb hts tbX5 tyX5 tyX5_ok nmX5 hown hK hP hD hS 0 XW_0 rfl 7 (by decide) (hts _ tm_1_108) (fun _ h9 => h9) rfl (by decide +kernel) rfl rfl (Nat.le_of_ble_eq_true rfl) dX5_again_30 (fun H locs hP hD hS => ?_)
        have hP : va_P D vwCl (XW cI cZ q (keptF a1.toNatClampNeg) rains length poles parts plain key stair air acnt tcnt letters cells kinds frames rainsB abouts stoods kept keptF keptR seed) H := hP
        have hD : va_D A (XW cI cZ q (keptF a1.toNatClampNeg) rains length poles parts plain key stair air acnt tcnt letters cells kinds frames rainsB abouts stoods kept keptF keptR seed) := hD.same rfl
        refine lv_aload_n hx hb dX5_again_33 rfl (lv_at hl 0 rfl) ?_
        refine lv_aload_n hx hb dX5_again_34 rfl (lv_at hl 0 rfl) ?_
        refine va_get (D := D) (ci := 4) (v := .ref (q 14)) (C := RX5) (T := TX5) (N := 10) hx hb hts tbX5 hown hK hP 0 XW_0 rfl 6 (by decide) (hts _ tm_1_107) (fun _ h9 => h9) rfl dX5_again_35 ?_
        refine lv_iload_n hx hb dX5_again_38 rfl (lv_at hl 1 rfl) ?_
        refine va_iald hx hb hK hP 14 0 XW_14 rfl (vi_a (b := 2) (by decide) c_1 c_6) dX5_again_39 ?_
        refine va_put (D := D) (ci := 4) (v := .int (keptR a1.toNatClampNeg)) (ty := .int) (C := RX5) (T := TX5) (N := 10) hx hb hts tbX5 tyX5 tyX5_ok nmX5 hown hK hP hD hS 0 XW_0 rfl 8 (by decide) (hts _ tm_1_109) (fun _ h9 => h9) rfl (by decide +kernel) rfl rfl (Nat.le_of_ble_eq_true rfl) dX5_again_40 (fun H locs hP hD hS => ?_)
        have hP : va_P D vwCl (XW cI cZ q (keptF a1.toNatClampNeg) (keptR a1.toNatClampNeg) length poles parts plain key stair air acnt tcnt letters cells kinds frames rainsB abouts stoods kept keptF keptR seed) H := hP
        have hD : va_D A (XW cI cZ q (keptF a1.toNatClampNeg) (keptR a1.toNatClampNeg) length poles parts plain key stair air acnt tcnt letters cells kinds frames rainsB abouts stoods kept keptF keptR seed) := hD.same rfl
        refine lv_aload_n hx hb dX5_again_43 rfl (lv_at hl 0 rfl) ?_
        refine va_get (D := D) (ci := 4) (v := .ref (q 3)) (C := RX5) (T := TX5) (N := 10) hx hb hts tbX5 hown hK hP 0 XW_0 rfl 2 (by decide) (hts _ tm_1_103) (fun _ h9 => h9) rfl dX5_again_44 ?_
        refine lv_iconst (v := (0 : Int32)) hx hb dX5_again_47 (by decide) ?_
        refine va_put (D := D) (ci := 0) (v := .int (0 : Int32)) (ty := .int) (C := RX0) (T := TX0) (N := 3) hx hb hts tbX0 tyX0 tyX0_ok nmX0 hown hK hP hD hS 3 XW_3 rfl 2 (by decide) (hts _ tm_1_75) (fun _ h9 => h9) rfl (by decide +kernel) rfl rfl (Nat.le_of_ble_eq_true rfl) dX5_again_48 (fun H locs hP hD hS => ?_)
        have hP : va_P D vwCl (XW cI cZ q (keptF a1.toNatClampNeg) (keptR a1.toNatClampNeg) length poles parts plain key stair air (0 : Int32) tcnt letters cells kinds frames rainsB abouts stoods kept keptF keptR seed) H := hP
        have hD : va_D A (XW cI cZ q (keptF a1.toNatClampNeg) (keptR a1.toNatClampNeg) length poles parts plain key stair air (0 : Int32) tcnt letters cells kinds frames rainsB abouts stoods kept keptF keptR seed) := hD.same rfl
        refine lv_aload_n hx hb dX5_again_51 rfl (lv_at hl 0 rfl) ?_
        refine vRdI (b := (q 0)) (As := []) (rest := []) hF (c_X5_allPoles l D cI cZ q (keptF a1.toNatClampNeg) (keptR a1.toNatClampNeg) length poles parts plain key stair air (0 : Int32) tcnt letters cells kinds frames rainsB abouts stoods kept keptF keptR seed) (gdV tm_1_205 tm_1_207 tp_0 tm_1_1 tm_1_208) de_X5_allPoles ⟨Nat.le_of_ble_eq_true rfl, Nat.le_of_ble_eq_true rfl⟩ hP hK (va_recv hK hP (ci := 4) (q0 := 0) rfl XW_0) hl.1 rfl (Nat.le_of_ble_eq_true rfl) dX5_again_52 ⟨Nat.zero_le _, Nat.zero_le _⟩ ?_
        subst hR
        exact fin _ _ _ _ dX5_again_55 (nar_i _) hP hS
      · rw [if_pos c_17] at hR
        refine lv_bipush (v := (-3 : Int32)) hx hb dX5_again_20 (by decide) ?_
        subst hR
        exact fin _ _ _ _ dX5_again_22 (nar_i _) hP hS
    · rw [if_neg c_6] at hR
      refine lv_iconst (v := (-1 : Int32)) hx hb dX5_again_9 (by decide) ?_
      subst hR
      exact fin _ _ _ _ dX5_again_10 (nar_i _) hP hS
