theorem de_X5_isColumn : deOK yX5_isColumn 1 := by decide +kernel
theorem de_X5_isCountOrFirst : deOK yX5_isCountOrFirst 1 := by decide +kernel
theorem de_X5_downToGround : deOK yX5_downToGround 1 := by decide +kernel
theorem de_X5_factorial : deOK yX5_factorial 1 := by decide +kernel
theorem de_X5_powerOfTen : deOK yX5_powerOfTen 1 := by decide +kernel
theorem de_X5_doingFromEnd : deOK yX5_doingFromEnd 2 := by decide +kernel
theorem de_X5_commonDivisor : deOK yX5_commonDivisor 2 := by decide +kernel
theorem de_X5_told : deOK yX5_told 3 := by decide +kernel
theorem de_X5_worth : deOK yX5_worth 2 := by decide +kernel
theorem de_X5_allPoles : deOK yX5_allPoles 0 := by decide +kernel
theorem de_X5_withChoice : deOK yX5_withChoice 3 := by decide +kernel
theorem de_X5_withChoices : deOK yX5_withChoices 4 := by decide +kernel
theorem de_X5_withChance : deOK yX5_withChance 2 := by decide +kernel
theorem de_X5_withDoing : deOK yX5_withDoing 2 := by decide +kernel
theorem de_X5_canBe : deOK yX5_canBe 2 := by decide +kernel
theorem de_X5_ordersWith : deOK yX5_ordersWith 1 := by decide +kernel
theorem de_X5_isRest : deOK yX5_isRest 4 := by decide +kernel
theorem de_X5_hadWithout : deOK yX5_hadWithout 1 := by decide +kernel
theorem de_X5_weightOf : deOK yX5_weightOf 2 := by decide +kernel
def f_X5_isColumn (a1 : Int32) : Int32 := (if a1 < (0 : Int32) then (0 : Int32) else (if (4 : Int32) ≤ a1 then (0 : Int32) else (1 : Int32)))
set_option maxHeartbeats 4000000 in
set_option maxRecDepth 100000 in
theorem c_X5_isColumn (l : Launch) (D : va_G) (cI cZ : ClassId) (q : Nat → Nat) (a1 : Int32) : RdI l yX5_isColumn cX5_isColumn 1 .boolean 0 0 D (tyL cI cZ) [] [.int a1] (f_X5_isColumn a1) := by
  refine RdI.of (by decide) (Nat.le_of_ble_eq_true rfl) ?_
  intro p e s m args below meth c Q hx hb hml hown hts hP hK fin ls hl
  have hown : s.vm.findClass RX5 = some m.cls := hown
  have hF : CallFix p m c cX5_isColumn 1 s args tb RX5 := ⟨hx, hb, hml, hown, hts⟩
  have hl : lv_has ls 1 [(0, .int a1)] := hl
  generalize hR : (f_X5_isColumn a1) = R at fin
  unfold f_X5_isColumn at hR
  refine lv_iload_n hx hb dX5_isColumn_0 rfl (lv_at hl 0 rfl) ?_
  refine lv_if_lt (tgt := 13) hx hb dX5_isColumn_1 (by decide) (fun c_1 => ?_) (fun c_1 => ?_)
  · rw [if_pos c_1] at hR
    refine lv_iconst (v := (0 : Int32)) hx hb dX5_isColumn_13 (by decide) ?_
    subst hR
    exact fin _ _ dX5_isColumn_14 (nar_b (Or.inl rfl))
  · rw [if_neg c_1] at hR
    refine lv_iload_n hx hb dX5_isColumn_4 rfl (lv_at hl 0 rfl) ?_
    refine lv_iconst (v := (4 : Int32)) hx hb dX5_isColumn_5 (by decide) ?_
    refine lv_icmp_ge (tgt := 13) hx hb dX5_isColumn_6 (by decide) (fun c_6 => ?_) (fun c_6 => ?_)
    · rw [if_pos c_6] at hR
      refine lv_iconst (v := (0 : Int32)) hx hb dX5_isColumn_13 (by decide) ?_
      subst hR
      exact fin _ _ dX5_isColumn_14 (nar_b (Or.inl rfl))
    · rw [if_neg c_6] at hR
      refine lv_iconst (v := (1 : Int32)) hx hb dX5_isColumn_9 (by decide) ?_
      refine lv_goto (tgt := 14) hx hb dX5_isColumn_10 (by decide) ?_
      subst hR
      exact fin _ _ dX5_isColumn_14 (nar_b (Or.inr rfl))
def f_X5_isCountOrFirst (a1 : Int32) : Int32 := (if a1 = (0 : Int32) then (1 : Int32) else (if a1 = (1 : Int32) then (1 : Int32) else (0 : Int32)))
set_option maxHeartbeats 4000000 in
set_option maxRecDepth 100000 in
theorem c_X5_isCountOrFirst (l : Launch) (D : va_G) (cI cZ : ClassId) (q : Nat → Nat) (a1 : Int32) : RdI l yX5_isCountOrFirst cX5_isCountOrFirst 1 .boolean 0 0 D (tyL cI cZ) [] [.int a1] (f_X5_isCountOrFirst a1) := by
  refine RdI.of (by decide) (Nat.le_of_ble_eq_true rfl) ?_
  intro p e s m args below meth c Q hx hb hml hown hts hP hK fin ls hl
  have hown : s.vm.findClass RX5 = some m.cls := hown
  have hF : CallFix p m c cX5_isCountOrFirst 1 s args tb RX5 := ⟨hx, hb, hml, hown, hts⟩
  have hl : lv_has ls 1 [(0, .int a1)] := hl
  generalize hR : (f_X5_isCountOrFirst a1) = R at fin
  unfold f_X5_isCountOrFirst at hR
  refine lv_iload_n hx hb dX5_isCountOrFirst_0 rfl (lv_at hl 0 rfl) ?_
  refine lv_if_eq (tgt := 9) hx hb dX5_isCountOrFirst_1 (by decide) (fun c_1 => ?_) (fun c_1 => ?_)
  · rw [if_pos c_1] at hR
    refine lv_iconst (v := (1 : Int32)) hx hb dX5_isCountOrFirst_9 (by decide) ?_
    refine lv_goto (tgt := 14) hx hb dX5_isCountOrFirst_10 (by decide) ?_
    subst hR
    exact fin _ _ dX5_isCountOrFirst_14 (nar_b (Or.inr rfl))
  · rw [if_neg c_1] at hR
    refine lv_iload_n hx hb dX5_isCountOrFirst_4 rfl (lv_at hl 0 rfl) ?_
    refine lv_iconst (v := (1 : Int32)) hx hb dX5_isCountOrFirst_5 (by decide) ?_
    refine lv_icmp_ne (tgt := 13) hx hb dX5_isCountOrFirst_6 (by decide) (fun c_6 => ?_) (fun c_6 => ?_)
    · rw [if_neg c_6] at hR
      refine lv_iconst (v := (0 : Int32)) hx hb dX5_isCountOrFirst_13 (by decide) ?_
      subst hR
      exact fin _ _ dX5_isCountOrFirst_14 (nar_b (Or.inl rfl))
    · rw [if_pos c_6] at hR
      refine lv_iconst (v := (1 : Int32)) hx hb dX5_isCountOrFirst_9 (by decide) ?_
      refine lv_goto (tgt := 14) hx hb dX5_isCountOrFirst_10 (by decide) ?_
      subst hR
      exact fin _ _ dX5_isCountOrFirst_14 (nar_b (Or.inr rfl))
def f_X5_downToGround (a1 : Int32) : Int32 := (((a1 ||| (shr a1 (4 : Int32))) ||| (shr a1 (8 : Int32))) ||| (shr a1 (12 : Int32)))
set_option maxHeartbeats 4000000 in
set_option maxRecDepth 100000 in
theorem c_X5_downToGround (l : Launch) (D : va_G) (cI cZ : ClassId) (q : Nat → Nat) (a1 : Int32) : RdI l yX5_downToGround cX5_downToGround 1 .int 0 0 D (tyL cI cZ) [] [.int a1] (f_X5_downToGround a1) := by
  refine RdI.of (by decide) (Nat.le_of_ble_eq_true rfl) ?_
  intro p e s m args below meth c Q hx hb hml hown hts hP hK fin ls hl
  have hown : s.vm.findClass RX5 = some m.cls := hown
  have hF : CallFix p m c cX5_downToGround 1 s args tb RX5 := ⟨hx, hb, hml, hown, hts⟩
  have hl : lv_has ls 1 [(0, .int a1)] := hl
  generalize hR : (f_X5_downToGround a1) = R at fin
  unfold f_X5_downToGround at hR
  refine lv_iload_n hx hb dX5_downToGround_0 rfl (lv_at hl 0 rfl) ?_
  refine lv_iload_n hx hb dX5_downToGround_1 rfl (lv_at hl 0 rfl) ?_
  refine lv_iconst (v := (4 : Int32)) hx hb dX5_downToGround_2 (by decide) ?_
  refine lv_ishr hx hb dX5_downToGround_3 ?_
  refine lv_rw (z := (shr a1 (4 : Int32))) rfl ?_
  refine lv_ior hx hb dX5_downToGround_4 ?_
  refine lv_iload_n hx hb dX5_downToGround_5 rfl (lv_at hl 0 rfl) ?_
  refine lv_bipush (v := (8 : Int32)) hx hb dX5_downToGround_6 (by decide) ?_
  refine lv_ishr hx hb dX5_downToGround_8 ?_
  refine lv_rw (z := (shr a1 (8 : Int32))) rfl ?_
  refine lv_ior hx hb dX5_downToGround_9 ?_
  refine lv_iload_n hx hb dX5_downToGround_10 rfl (lv_at hl 0 rfl) ?_
  refine lv_bipush (v := (12 : Int32)) hx hb dX5_downToGround_11 (by decide) ?_
  refine lv_ishr hx hb dX5_downToGround_13 ?_
  refine lv_rw (z := (shr a1 (12 : Int32))) rfl ?_
  refine lv_ior hx hb dX5_downToGround_14 ?_
  subst hR
  exact fin _ _ dX5_downToGround_15 (nar_i _)
def f_X5_factorial_l4 (a1 : Int32) : Nat → Nat → (Int32) → Int32
  | 0, i_4, pr4 => pr4
  | d_4 + 1, i_4, pr4 => (if a1 < (nI i_4) then pr4 else (f_X5_factorial_l4 a1 d_4 (i_4 + 1) (pr4 * (nI i_4))))
theorem f_X5_factorial_l4_z {a1 : Int32} {i_4 : Nat} {pr4 : Int32} : f_X5_factorial_l4 a1 0 i_4 pr4 = pr4 := by rw [f_X5_factorial_l4]
theorem f_X5_factorial_l4_s {a1 : Int32} {d_4 : Nat} {i_4 : Nat} {pr4 : Int32} : f_X5_factorial_l4 a1 (d_4 + 1) i_4 pr4 = (if a1 < (nI i_4) then pr4 else (f_X5_factorial_l4 a1 d_4 (i_4 + 1) (pr4 * (nI i_4)))) := by rw [f_X5_factorial_l4]
def f_X5_factorial (a1 : Int32) : Int32 := (f_X5_factorial_l4 a1 70 2 (1 : Int32))
set_option maxHeartbeats 4000000 in
set_option maxRecDepth 100000 in
theorem c_X5_factorial (l : Launch) (D : va_G) (cI cZ : ClassId) (q : Nat → Nat) (a1 : Int32) (ha : a1.toInt < 72) : RdI l yX5_factorial cX5_factorial 3 .int 0 0 D (tyL cI cZ) [] [.int a1] (f_X5_factorial a1) := by
  refine RdI.of (by decide) (Nat.le_of_ble_eq_true rfl) ?_
  intro p e s m args below meth c Q hx hb hml hown hts hP hK fin ls hl
  have hown : s.vm.findClass RX5 = some m.cls := hown
  have hF : CallFix p m c cX5_factorial 3 s args tb RX5 := ⟨hx, hb, hml, hown, hts⟩
  have hl : lv_has ls 3 [(0, .int a1)] := hl
  generalize hR : (f_X5_factorial a1) = R at fin
  unfold f_X5_factorial at hR
  refine lv_iconst (v := (1 : Int32)) hx hb dX5_factorial_0 (by decide) ?_
  refine lv_istore_n (lv' := [(1, .int (1 : Int32)), (0, .int a1)]) hx hb dX5_factorial_1 rfl hl (by decide) rfl (fun ls hl => ?_)
  refine lv_iconst (v := (2 : Int32)) hx hb dX5_factorial_2 (by decide) ?_
  refine lv_istore_n (lv' := [(2, .int (2 : Int32)), (1, .int (1 : Int32)), (0, .int a1)]) hx hb dX5_factorial_3 rfl hl (by decide) rfl (fun ls hl => ?_)
  have key_4 : ∀ (d_4 i_4 : Nat) (pr4 : Int32) (ls : Array Slot), i_4 + d_4 = 72 → a1.toInt < ((i_4 + d_4 : Nat) : Int) → f_X5_factorial_l4 a1 d_4 i_4 pr4 = R → lv_has ls 3 [(2, .int (nI i_4)), (1, .int pr4), (0, .int a1)] → W p l e (rmO 0 0) s m args below meth c s.heap [] 0 0 Q (F0 m 4 ls []) := by
    intro d_4
    induction d_4 with
    | zero =>
      intro i_4 pr4 ls hi_4 hf_4 hR hl
      rw [f_X5_factorial_l4_z] at hR
      refine lv_iload_n hx hb dX5_factorial_4 rfl (lv_at hl 0 rfl) ?_
      refine lv_iload_n hx hb dX5_factorial_5 rfl (lv_at hl 2 rfl) ?_
      refine lv_icmp_gt (tgt := 19) hx hb dX5_factorial_6 (by decide) (fun c_6 => ?_) (fun c_6 => absurd (lt_nI (by omega) (by omega)) c_6)
      refine lv_iload_n hx hb dX5_factorial_19 rfl (lv_at hl 1 rfl) ?_
      subst hR
      exact fin _ _ dX5_factorial_20 (nar_i _)
    | succ d_4 ih_4 =>
      intro i_4 pr4 ls hi_4 hf_4 hR hl
      rw [f_X5_factorial_l4_s] at hR
      refine lv_iload_n hx hb dX5_factorial_4 rfl (lv_at hl 0 rfl) ?_
      refine lv_iload_n hx hb dX5_factorial_5 rfl (lv_at hl 2 rfl) ?_
      refine lv_icmp_gt (tgt := 19) hx hb dX5_factorial_6 (by decide) (fun c_6 => ?_) (fun c_6 => ?_)
      · rw [if_pos c_6] at hR
        refine lv_iload_n hx hb dX5_factorial_19 rfl (lv_at hl 1 rfl) ?_
        subst hR
        exact fin _ _ dX5_factorial_20 (nar_i _)
      · rw [if_neg c_6] at hR
        refine lv_iload_n hx hb dX5_factorial_9 rfl (lv_at hl 1 rfl) ?_
        refine lv_iload_n hx hb dX5_factorial_10 rfl (lv_at hl 0 rfl) ?_
        refine lv_imul hx hb dX5_factorial_11 ?_
        refine lv_istore_n (lv' := [(1, .int (pr4 * (nI i_4))), (2, .int (nI i_4)), (0, .int a1)]) hx hb dX5_factorial_12 rfl hl (by decide) rfl (fun ls hl => ?_)
        refine lv_iinc (v := (nI (i_4 + 1))) (lv' := [(2, .int (nI (i_4 + 1))), (1, .int (pr4 * (nI i_4))), (0, .int a1)]) hx hb dX5_factorial_13 hl (k := 1) rfl (nI_up i_4) (by decide) rfl (fun ls hl => ?_)
        refine lv_goto (tgt := 4) hx hb dX5_factorial_16 (by decide) ?_
        exact ih_4 (i_4 + 1) (pr4 * (nI i_4)) ls (by omega) (by omega) hR (lv_sub hl [0, 1, 2] rfl)
  exact key_4 70 2 (1 : Int32) ls (by omega) (by omega) hR (lv_sub hl [0, 1, 2] rfl)
def f_X5_powerOfTen_l4  : Nat → Nat → (Int64) → Int64
  | 0, i_4, pw4 => pw4
  | d_4 + 1, i_4, pw4 => (f_X5_powerOfTen_l4  d_4 (i_4 + 1) (pw4 * (10 : Int64)))
theorem f_X5_powerOfTen_l4_z  {i_4 : Nat} {pw4 : Int64} : f_X5_powerOfTen_l4  0 i_4 pw4 = pw4 := by rw [f_X5_powerOfTen_l4]
theorem f_X5_powerOfTen_l4_s  {d_4 : Nat} {i_4 : Nat} {pw4 : Int64} : f_X5_powerOfTen_l4  (d_4 + 1) i_4 pw4 = (f_X5_powerOfTen_l4  d_4 (i_4 + 1) (pw4 * (10 : Int64))) := by rw [f_X5_powerOfTen_l4]
def f_X5_powerOfTen (k : Nat) : Int64 := (f_X5_powerOfTen_l4  k 0 (1 : Int64))
set_option maxHeartbeats 4000000 in
set_option maxRecDepth 100000 in
theorem c_X5_powerOfTen (l : Launch) (D : va_G) (cI cZ : ClassId) (q : Nat → Nat) (a1 : Int32) (k : Nat) (hk : a1 = nI k) (hk31 : k < 2 ^ 31) : RdL l yX5_powerOfTen cX5_powerOfTen 4 0 0 D (tyL cI cZ) [] [.int a1] (f_X5_powerOfTen k) := by
  refine RdL.of (by decide) (Nat.le_of_ble_eq_true rfl) ?_
  intro p e s m args below meth c Q hx hb hml hown hts hP hK fin ls hl
  have hown : s.vm.findClass RX5 = some m.cls := hown
  have hF : CallFix p m c cX5_powerOfTen 4 s args tb RX5 := ⟨hx, hb, hml, hown, hts⟩
  have hl : lv_has ls 4 [(0, .int a1)] := hl
  generalize hR : (f_X5_powerOfTen k) = R at fin
  unfold f_X5_powerOfTen at hR
  refine lv_lconst (v := (1 : Int64)) hx hb dX5_powerOfTen_0 (by decide) ?_
  refine lv_lstore_n (lv' := [(1, .long (1 : Int64)), (0, .int a1)]) hx hb dX5_powerOfTen_1 rfl hl (by decide) rfl (fun ls hl => ?_)
  refine lv_iconst (v := (0 : Int32)) hx hb dX5_powerOfTen_2 (by decide) ?_
  refine lv_istore_n (lv' := [(3, .int (0 : Int32)), (1, .long (1 : Int64)), (0, .int a1)]) hx hb dX5_powerOfTen_3 rfl hl (by decide) rfl (fun ls hl => ?_)
  obtain ⟨T_4, hT_4⟩ : ∃ z, f_X5_powerOfTen_l4  k 0 (1 : Int64) = z := ⟨_, rfl⟩
  rw [hT_4] at hR
  have key_4 : ∀ (d_4 i_4 : Nat) (pw4 : Int64) (ls : Array Slot), i_4 + d_4 = k → f_X5_powerOfTen_l4  d_4 i_4 pw4 = T_4 → lv_has ls 4 [(3, .int (nI i_4)), (1, .long pw4), (0, .int a1)] → W p l e (rmO 0 0) s m args below meth c s.heap [] 0 0 Q (F0 m 4 ls []) := by
    intro d_4
    induction d_4 with
    | zero =>
      intro i_4 pw4 ls hi_4 hT_4 hl
      rw [f_X5_powerOfTen_l4_z] at hT_4
      refine lv_iload_n hx hb dX5_powerOfTen_4 rfl (lv_at hl 0 rfl) ?_
      refine lv_iload_n hx hb dX5_powerOfTen_5 rfl (lv_at hl 2 rfl) ?_
      refine lv_icmp_ge (tgt := 21) hx hb dX5_powerOfTen_6 (by decide) (fun c_6 => ?_) (fun c_6 => absurd (by rw [hk]; exact nI_le  (by omega) (by omega)) c_6)
      subst hT_4
      try dsimp only at hR
      refine lv_lload_n hx hb dX5_powerOfTen_21 rfl (lv_at hl 1 rfl) ?_
      subst hR
      exact fin _ _ dX5_powerOfTen_22
    | succ d_4 ih_4 =>
      intro i_4 pw4 ls hi_4 hT_4 hl
      rw [f_X5_powerOfTen_l4_s] at hT_4
      refine lv_iload_n hx hb dX5_powerOfTen_4 rfl (lv_at hl 0 rfl) ?_
      refine lv_iload_n hx hb dX5_powerOfTen_5 rfl (lv_at hl 2 rfl) ?_
      refine lv_icmp_ge (tgt := 21) hx hb dX5_powerOfTen_6 (by decide) (fun c_6 => absurd c_6 (by rw [hk]; exact nI_ge  (by omega) (by omega))) (fun c_6 => ?_)
      refine lv_lload_n hx hb dX5_powerOfTen_9 rfl (lv_at hl 1 rfl) ?_
      refine lv_ldc2 (v := (10 : Int64)) hx hb hown (hts _ tm_2_118) dX5_powerOfTen_10 ?_
      refine lv_lmul hx hb dX5_powerOfTen_13 ?_
      refine lv_lstore_n (lv' := [(1, .long (pw4 * (10 : Int64))), (3, .int (nI i_4)), (0, .int a1)]) hx hb dX5_powerOfTen_14 rfl hl (by decide) rfl (fun ls hl => ?_)
      refine lv_iinc (v := (nI (i_4 + 1))) (lv' := [(3, .int (nI (i_4 + 1))), (1, .long (pw4 * (10 : Int64))), (0, .int a1)]) hx hb dX5_powerOfTen_15 hl (k := 1) rfl (nI_up i_4) (by decide) rfl (fun ls hl => ?_)
      refine lv_goto (tgt := 4) hx hb dX5_powerOfTen_18 (by decide) ?_
      exact ih_4 (i_4 + 1) (pw4 * (10 : Int64)) ls (by omega) hT_4 (lv_sub hl [0, 1, 2] rfl)
  exact key_4 k 0 (1 : Int64) ls (by omega) hT_4 (lv_sub hl [0, 1, 2] rfl)
def f_X5_doingFromEnd_l5  : Nat → Nat → (Int64) → Int64
  | 0, i_5, rs5 => rs5
  | d_5 + 1, i_5, rs5 => (f_X5_doingFromEnd_l5  d_5 (i_5 + 1) (rs5 / (1000 : Int64)))
theorem f_X5_doingFromEnd_l5_z  {i_5 : Nat} {rs5 : Int64} : f_X5_doingFromEnd_l5  0 i_5 rs5 = rs5 := by rw [f_X5_doingFromEnd_l5]
theorem f_X5_doingFromEnd_l5_s  {d_5 : Nat} {i_5 : Nat} {rs5 : Int64} : f_X5_doingFromEnd_l5  (d_5 + 1) i_5 rs5 = (f_X5_doingFromEnd_l5  d_5 (i_5 + 1) (rs5 / (1000 : Int64))) := by rw [f_X5_doingFromEnd_l5]
def f_X5_doingFromEnd (k : Nat) (a1 : Int64) : Int32 := (jrl (f_X5_doingFromEnd_l5  k 0 a1) (1000 : Int64)).toInt32
set_option maxHeartbeats 4000000 in
set_option maxRecDepth 100000 in
theorem c_X5_doingFromEnd (l : Launch) (D : va_G) (cI cZ : ClassId) (q : Nat → Nat) (a1 : Int64) (a2 : Int32) (k : Nat) (hk : a2 = nI k) (hk31 : k < 2 ^ 31) : RdI l yX5_doingFromEnd cX5_doingFromEnd 6 .int 0 0 D (tyL cI cZ) [] [.long a1, .int a2] (f_X5_doingFromEnd k a1) := by
  refine RdI.of (by decide) (Nat.le_of_ble_eq_true rfl) ?_
  intro p e s m args below meth c Q hx hb hml hown hts hP hK fin ls hl
  have hown : s.vm.findClass RX5 = some m.cls := hown
  have hF : CallFix p m c cX5_doingFromEnd 6 s args tb RX5 := ⟨hx, hb, hml, hown, hts⟩
  have hl : lv_has ls 6 [(0, .long a1), (2, .int a2)] := hl
  generalize hR : (f_X5_doingFromEnd k a1) = R at fin
  unfold f_X5_doingFromEnd at hR
  refine lv_lload_n hx hb dX5_doingFromEnd_0 rfl (lv_at hl 0 rfl) ?_
  refine lv_lstore_n (lv' := [(3, .long a1), (0, .long a1), (2, .int a2)]) hx hb dX5_doingFromEnd_1 rfl hl (by decide) rfl (fun ls hl => ?_)
  refine lv_iconst (v := (0 : Int32)) hx hb dX5_doingFromEnd_2 (by decide) ?_
  refine lv_istore (lv' := [(5, .int (0 : Int32)), (3, .long a1), (0, .long a1), (2, .int a2)]) hx hb dX5_doingFromEnd_3 hl (by decide) rfl (fun ls hl => ?_)
  obtain ⟨T_5, hT_5⟩ : ∃ z, f_X5_doingFromEnd_l5  k 0 a1 = z := ⟨_, rfl⟩
  rw [hT_5] at hR
  have key_5 : ∀ (d_5 i_5 : Nat) (rs5 : Int64) (ls : Array Slot), i_5 + d_5 = k → f_X5_doingFromEnd_l5  d_5 i_5 rs5 = T_5 → lv_has ls 6 [(5, .int (nI i_5)), (3, .long rs5), (0, .long a1), (2, .int a2)] → W p l e (rmO 0 0) s m args below meth c s.heap [] 0 0 Q (F0 m 5 ls []) := by
    intro d_5
    induction d_5 with
    | zero =>
      intro i_5 rs5 ls hi_5 hT_5 hl
      rw [f_X5_doingFromEnd_l5_z] at hT_5
      refine lv_iload hx hb dX5_doingFromEnd_5 (lv_at hl 0 rfl) ?_
      refine lv_iload_n hx hb dX5_doingFromEnd_7 rfl (lv_at hl 3 rfl) ?_
      refine lv_icmp_ge (tgt := 23) hx hb dX5_doingFromEnd_8 (by decide) (fun c_8 => ?_) (fun c_8 => absurd (by rw [hk]; exact nI_le  (by omega) (by omega)) c_8)
      subst hT_5
      try dsimp only at hR
      refine lv_lload_n hx hb dX5_doingFromEnd_23 rfl (lv_at hl 1 rfl) ?_
      refine lv_ldc2 (v := (1000 : Int64)) hx hb hown (hts _ tm_2_126) dX5_doingFromEnd_24 ?_
      refine lv_lrem hx hb dX5_doingFromEnd_27 (by decide) ?_
      refine lv_rwl (z := (jrl rs5 (1000 : Int64))) rfl ?_
      refine lv_l2i (v := (jrl rs5 (1000 : Int64)).toInt32) hx hb dX5_doingFromEnd_28 rfl ?_
      subst hR
      exact fin _ _ dX5_doingFromEnd_29 (nar_i _)
    | succ d_5 ih_5 =>
      intro i_5 rs5 ls hi_5 hT_5 hl
      rw [f_X5_doingFromEnd_l5_s] at hT_5
      refine lv_iload hx hb dX5_doingFromEnd_5 (lv_at hl 0 rfl) ?_
      refine lv_iload_n hx hb dX5_doingFromEnd_7 rfl (lv_at hl 3 rfl) ?_
      refine lv_icmp_ge (tgt := 23) hx hb dX5_doingFromEnd_8 (by decide) (fun c_8 => absurd c_8 (by rw [hk]; exact nI_ge  (by omega) (by omega))) (fun c_8 => ?_)
      refine lv_lload_n hx hb dX5_doingFromEnd_11 rfl (lv_at hl 1 rfl) ?_
      refine lv_ldc2 (v := (1000 : Int64)) hx hb hown (hts _ tm_2_126) dX5_doingFromEnd_12 ?_
      refine lv_ldiv hx hb dX5_doingFromEnd_15 (by decide) ?_
      refine lv_lstore_n (lv' := [(3, .long (rs5 / (1000 : Int64))), (5, .int (nI i_5)), (0, .long a1), (2, .int a2)]) hx hb dX5_doingFromEnd_16 rfl hl (by decide) rfl (fun ls hl => ?_)
      refine lv_iinc (v := (nI (i_5 + 1))) (lv' := [(5, .int (nI (i_5 + 1))), (3, .long (rs5 / (1000 : Int64))), (0, .long a1), (2, .int a2)]) hx hb dX5_doingFromEnd_17 hl (k := 1) rfl (nI_up i_5) (by decide) rfl (fun ls hl => ?_)
      refine lv_goto (tgt := 5) hx hb dX5_doingFromEnd_20 (by decide) ?_
      exact ih_5 (i_5 + 1) (rs5 / (1000 : Int64)) ls (by omega) hT_5 (lv_sub hl [0, 1, 2, 3] rfl)
  exact key_5 k 0 a1 ls (by omega) hT_5 (lv_sub hl [0, 1, 2, 3] rfl)
def f_X5_commonDivisor_l7  : Nat → Nat → (Int32) → (Int32) → Int32
  | 0, i_7, lg7, sm7 => lg7
  | d_7 + 1, i_7, lg7, sm7 => (if sm7 = (0 : Int32) then lg7 else (f_X5_commonDivisor_l7  d_7 (i_7 + 1) sm7 (jr lg7 sm7)))
theorem f_X5_commonDivisor_l7_z  {i_7 : Nat} {lg7 : Int32} {sm7 : Int32} : f_X5_commonDivisor_l7  0 i_7 lg7 sm7 = lg7 := by rw [f_X5_commonDivisor_l7]
theorem f_X5_commonDivisor_l7_s  {d_7 : Nat} {i_7 : Nat} {lg7 : Int32} {sm7 : Int32} : f_X5_commonDivisor_l7  (d_7 + 1) i_7 lg7 sm7 = (if sm7 = (0 : Int32) then lg7 else (f_X5_commonDivisor_l7  d_7 (i_7 + 1) sm7 (jr lg7 sm7))) := by rw [f_X5_commonDivisor_l7]
def f_X5_commonDivisor (a1 : Int32) (a2 : Int32) : Int32 := (f_X5_commonDivisor_l7  64 0 a1 a2)
set_option maxHeartbeats 4000000 in
set_option maxRecDepth 100000 in
theorem c_X5_commonDivisor (l : Launch) (D : va_G) (cI cZ : ClassId) (q : Nat → Nat) (a1 : Int32) (a2 : Int32) : RdI l yX5_commonDivisor cX5_commonDivisor 6 .int 0 0 D (tyL cI cZ) [] [.int a1, .int a2] (f_X5_commonDivisor a1 a2) := by
  refine RdI.of (by decide) (Nat.le_of_ble_eq_true rfl) ?_
  intro p e s m args below meth c Q hx hb hml hown hts hP hK fin ls hl
  have hown : s.vm.findClass RX5 = some m.cls := hown
  have hF : CallFix p m c cX5_commonDivisor 6 s args tb RX5 := ⟨hx, hb, hml, hown, hts⟩
  have hl : lv_has ls 6 [(0, .int a1), (1, .int a2)] := hl
  generalize hR : (f_X5_commonDivisor a1 a2) = R at fin
  unfold f_X5_commonDivisor at hR
  refine lv_iload_n hx hb dX5_commonDivisor_0 rfl (lv_at hl 0 rfl) ?_
  refine lv_istore_n (lv' := [(2, .int a1), (0, .int a1), (1, .int a2)]) hx hb dX5_commonDivisor_1 rfl hl (by decide) rfl (fun ls hl => ?_)
  refine lv_iload_n hx hb dX5_commonDivisor_2 rfl (lv_at hl 2 rfl) ?_
  refine lv_istore_n (lv' := [(3, .int a2), (2, .int a1), (0, .int a1), (1, .int a2)]) hx hb dX5_commonDivisor_3 rfl hl (by decide) rfl (fun ls hl => ?_)
  refine lv_iconst (v := (0 : Int32)) hx hb dX5_commonDivisor_4 (by decide) ?_
  refine lv_istore (lv' := [(4, .int (0 : Int32)), (3, .int a2), (2, .int a1), (0, .int a1), (1, .int a2)]) hx hb dX5_commonDivisor_5 hl (by decide) rfl (fun ls hl => ?_)
  have key_7 : ∀ (d_7 i_7 : Nat) (lg7 : Int32) (sm7 : Int32) (ls : Array Slot), i_7 + d_7 = 64 → f_X5_commonDivisor_l7  d_7 i_7 lg7 sm7 = R → lv_has ls 6 [(4, .int (nI i_7)), (3, .int sm7), (2, .int lg7), (0, .int a1), (1, .int a2)] → W p l e (rmO 0 0) s m args below meth c s.heap [] 0 0 Q (F0 m 7 ls []) := by
    intro d_7
    induction d_7 with
    | zero =>
      intro i_7 lg7 sm7 ls hi_7 hR hl
      rw [f_X5_commonDivisor_l7_z] at hR
      refine lv_iload hx hb dX5_commonDivisor_7 (lv_at hl 0 rfl) ?_
      refine lv_bipush (v := (64 : Int32)) hx hb dX5_commonDivisor_9 (by decide) ?_
      refine lv_icmp_ge (tgt := 34) hx hb dX5_commonDivisor_11 (by decide) (fun c_11 => ?_) (fun c_11 => absurd (nI_le (a := 64) (by omega) (by omega)) c_11)
      refine lv_iload_n hx hb dX5_commonDivisor_34 rfl (lv_at hl 2 rfl) ?_
      subst hR
      exact fin _ _ dX5_commonDivisor_35 (nar_i _)
    | succ d_7 ih_7 =>
      intro i_7 lg7 sm7 ls hi_7 hR hl
      rw [f_X5_commonDivisor_l7_s] at hR
      refine lv_iload hx hb dX5_commonDivisor_7 (lv_at hl 0 rfl) ?_
      refine lv_bipush (v := (64 : Int32)) hx hb dX5_commonDivisor_9 (by decide) ?_
      refine lv_icmp_ge (tgt := 34) hx hb dX5_commonDivisor_11 (by decide) (fun c_11 => absurd c_11 (nI_ge (b := 64) (by omega) (by omega))) (fun c_11 => ?_)
      refine lv_iload_n hx hb dX5_commonDivisor_14 rfl (lv_at hl 1 rfl) ?_
      refine lv_if_eq (tgt := 34) hx hb dX5_commonDivisor_15 (by decide) (fun c_15 => ?_) (fun c_15 => ?_)
      · rw [if_pos c_15] at hR
        refine lv_iload_n hx hb dX5_commonDivisor_34 rfl (lv_at hl 2 rfl) ?_
        subst hR
        exact fin _ _ dX5_commonDivisor_35 (nar_i _)
      · rw [if_neg c_15] at hR
        refine lv_iload_n hx hb dX5_commonDivisor_18 rfl (lv_at hl 2 rfl) ?_
        refine lv_iload_n hx hb dX5_commonDivisor_19 rfl (lv_at hl 1 rfl) ?_
        refine lv_irem hx hb dX5_commonDivisor_20 c_15 ?_
        refine lv_rw (z := (jr lg7 sm7)) rfl ?_
        refine lv_istore (lv' := [(5, .int (jr lg7 sm7)), (4, .int (nI i_7)), (3, .int sm7), (2, .int lg7), (0, .int a1), (1, .int a2)]) hx hb dX5_commonDivisor_21 hl (by decide) rfl (fun ls hl => ?_)
        refine lv_iload_n hx hb dX5_commonDivisor_23 rfl (lv_at hl 2 rfl) ?_
        refine lv_istore_n (lv' := [(2, .int sm7), (5, .int (jr lg7 sm7)), (4, .int (nI i_7)), (3, .int sm7), (0, .int a1), (1, .int a2)]) hx hb dX5_commonDivisor_24 rfl hl (by decide) rfl (fun ls hl => ?_)
        refine lv_iload hx hb dX5_commonDivisor_25 (lv_at hl 1 rfl) ?_
        refine lv_istore_n (lv' := [(3, .int (jr lg7 sm7)), (2, .int sm7), (5, .int (jr lg7 sm7)), (4, .int (nI i_7)), (0, .int a1), (1, .int a2)]) hx hb dX5_commonDivisor_27 rfl hl (by decide) rfl (fun ls hl => ?_)
        refine lv_iinc (v := (nI (i_7 + 1))) (lv' := [(4, .int (nI (i_7 + 1))), (3, .int (jr lg7 sm7)), (2, .int sm7), (5, .int (jr lg7 sm7)), (0, .int a1), (1, .int a2)]) hx hb dX5_commonDivisor_28 hl (k := 3) rfl (nI_up i_7) (by decide) rfl (fun ls hl => ?_)
        refine lv_goto (tgt := 7) hx hb dX5_commonDivisor_31 (by decide) ?_
        exact ih_7 (i_7 + 1) sm7 (jr lg7 sm7) ls (by omega) hR (lv_sub hl [0, 1, 2, 4, 5] rfl)
  exact key_7 64 0 a1 a2 ls (by omega) hR (lv_sub hl [0, 1, 2, 3, 4] rfl)
def f_X5_told (a1 : Int32) (a2 : Int32) (a3 : Int32) : Int32 := (if (1 : Int32) ≤ (f_X5_commonDivisor a1 a2) then (if a3 = (0 : Int32) then (a2 / (f_X5_commonDivisor a1 a2)) else (a1 / (f_X5_commonDivisor a1 a2))) else (if a3 = (0 : Int32) then a2 else a1))
set_option maxHeartbeats 4000000 in
set_option maxRecDepth 100000 in
theorem c_X5_told (l : Launch) (D : va_G) (cI cZ : ClassId) (q : Nat → Nat) (a1 : Int32) (a2 : Int32) (a3 : Int32) : RdI l yX5_told cX5_told 4 .int 1 25 D (tyL cI cZ) [] [.int a1, .int a2, .int a3] (f_X5_told a1 a2 a3) := by
  refine RdI.of (by decide) (Nat.le_of_ble_eq_true rfl) ?_
  intro p e s m args below meth c Q hx hb hml hown hts hP hK fin ls hl
  have hown : s.vm.findClass RX5 = some m.cls := hown
  have hF : CallFix p m c cX5_told 4 s args tb RX5 := ⟨hx, hb, hml, hown, hts⟩
  have hl : lv_has ls 4 [(0, .int a1), (1, .int a2), (2, .int a3)] := hl
  generalize hR : (f_X5_told a1 a2 a3) = R at fin
  unfold f_X5_told at hR
  refine lv_iload_n hx hb dX5_told_0 rfl (lv_at hl 0 rfl) ?_
  refine lv_iload_n hx hb dX5_told_1 rfl (lv_at hl 1 rfl) ?_
  refine sRdI (As := [.int a1, .int a2]) (rest := []) hF (c_X5_commonDivisor l D cI cZ q a1 a2) (gdS tm_2_154 tm_2_155 tm_1_1 tm_2_156) de_X5_commonDivisor ⟨Nat.le_of_ble_eq_true rfl, Nat.le_of_ble_eq_true rfl⟩ va_P_nil hK hl.1 rfl (Nat.le_of_ble_eq_true rfl) dX5_told_2 ⟨Nat.zero_le _, Nat.zero_le _⟩ ?_
  refine lv_istore_n (lv' := [(3, .int (f_X5_commonDivisor a1 a2)), (0, .int a1), (1, .int a2), (2, .int a3)]) hx hb dX5_told_5 rfl hl (by decide) rfl (fun ls hl => ?_)
  refine lv_iload_n hx hb dX5_told_6 rfl (lv_at hl 0 rfl) ?_
  refine lv_iconst (v := (1 : Int32)) hx hb dX5_told_7 (by decide) ?_
  refine lv_icmp_ge (tgt := 21) hx hb dX5_told_8 (by decide) (fun c_8 => ?_) (fun c_8 => ?_)
  · rw [if_pos c_8] at hR
    refine lv_iload_n hx hb dX5_told_21 rfl (lv_at hl 3 rfl) ?_
    refine lv_if_eq (tgt := 31) hx hb dX5_told_22 (by decide) (fun c_22 => ?_) (fun c_22 => ?_)
    · rw [if_pos c_22] at hR
      refine lv_iload_n hx hb dX5_told_31 rfl (lv_at hl 2 rfl) ?_
      refine lv_iload_n hx hb dX5_told_32 rfl (lv_at hl 0 rfl) ?_
      refine lv_idiv hx hb dX5_told_33 (ne0_of_ge c_8) ?_
      subst hR
      exact fin _ _ dX5_told_34 (nar_i _)
    · rw [if_neg c_22] at hR
      refine lv_iload_n hx hb dX5_told_25 rfl (lv_at hl 1 rfl) ?_
      refine lv_iload_n hx hb dX5_told_26 rfl (lv_at hl 0 rfl) ?_
      refine lv_idiv hx hb dX5_told_27 (ne0_of_ge c_8) ?_
      refine lv_goto (tgt := 34) hx hb dX5_told_28 (by decide) ?_
      subst hR
      exact fin _ _ dX5_told_34 (nar_i _)
  · rw [if_neg c_8] at hR
    refine lv_iload_n hx hb dX5_told_11 rfl (lv_at hl 3 rfl) ?_
    refine lv_if_eq (tgt := 19) hx hb dX5_told_12 (by decide) (fun c_12 => ?_) (fun c_12 => ?_)
    · rw [if_pos c_12] at hR
      refine lv_iload_n hx hb dX5_told_19 rfl (lv_at hl 2 rfl) ?_
      subst hR
      exact fin _ _ dX5_told_20 (nar_i _)
    · rw [if_neg c_12] at hR
      refine lv_iload_n hx hb dX5_told_15 rfl (lv_at hl 1 rfl) ?_
      refine lv_goto (tgt := 20) hx hb dX5_told_16 (by decide) ?_
      subst hR
      exact fin _ _ dX5_told_20 (nar_i _)
def f_X5_worth (a1 : Int32) (a2 : Int32) : Int32 := (((2 : Int32) * (f_J6_bitCount ((f_X1_had a1) &&& (shl (4369 : Int32) a2)))) - (f_X1_height a1 a2))
set_option maxHeartbeats 4000000 in
set_option maxRecDepth 100000 in
theorem c_X5_worth (l : Launch) (D : va_G) (cI cZ : ClassId) (q : Nat → Nat) (a1 : Int32) (a2 : Int32) : RdI l yX5_worth cX5_worth 3 .int 2 41 D (tyL cI cZ) [] [.int a1, .int a2] (f_X5_worth a1 a2) := by
  refine RdI.of (by decide) (Nat.le_of_ble_eq_true rfl) ?_
  intro p e s m args below meth c Q hx hb hml hown hts hP hK fin ls hl
  have hown : s.vm.findClass RX5 = some m.cls := hown
  have hF : CallFix p m c cX5_worth 3 s args tb RX5 := ⟨hx, hb, hml, hown, hts⟩
  have hl : lv_has ls 3 [(0, .int a1), (1, .int a2)] := hl
  generalize hR : (f_X5_worth a1 a2) = R at fin
  unfold f_X5_worth at hR
  refine lv_iload_n hx hb dX5_worth_0 rfl (lv_at hl 0 rfl) ?_
  refine sRdI (As := [.int a1]) (rest := []) hF (c_X1_had l D cI cZ q a1) (gdS tm_1_211 tm_1_212 tm_1_8 tm_1_213) de_X1_had ⟨Nat.le_of_ble_eq_true rfl, Nat.le_of_ble_eq_true rfl⟩ va_P_nil hK hl.1 rfl (Nat.le_of_ble_eq_true rfl) dX5_worth_1 ⟨Nat.zero_le _, Nat.zero_le _⟩ ?_
  refine lv_sipush (v := (4369 : Int32)) hx hb dX5_worth_4 (by decide) ?_
  refine lv_iload_n hx hb dX5_worth_7 rfl (lv_at hl 1 rfl) ?_
  refine lv_ishl hx hb dX5_worth_8 ?_
  refine lv_rw (z := (shl (4369 : Int32) a2)) rfl ?_
  refine lv_iand hx hb dX5_worth_9 ?_
  refine sRdI (As := [.int ((f_X1_had a1) &&& (shl (4369 : Int32) a2))]) (rest := []) hF (c_J6_bitCount l D cI cZ q ((f_X1_had a1) &&& (shl (4369 : Int32) a2))) (gdS tm_1_210 tm_1_200 tm_1_9 tm_1_201) de_J6_bitCount_0f7a4 ⟨Nat.le_of_ble_eq_true rfl, Nat.le_of_ble_eq_true rfl⟩ va_P_nil hK hl.1 rfl (Nat.le_of_ble_eq_true rfl) dX5_worth_10 ⟨Nat.zero_le _, Nat.zero_le _⟩ ?_
  refine lv_istore_n (lv' := [(2, .int (f_J6_bitCount ((f_X1_had a1) &&& (shl (4369 : Int32) a2)))), (0, .int a1), (1, .int a2)]) hx hb dX5_worth_13 rfl hl (by decide) rfl (fun ls hl => ?_)
  refine lv_iconst (v := (2 : Int32)) hx hb dX5_worth_14 (by decide) ?_
  refine lv_iload_n hx hb dX5_worth_15 rfl (lv_at hl 0 rfl) ?_
  refine lv_imul hx hb dX5_worth_16 ?_
  refine lv_iload_n hx hb dX5_worth_17 rfl (lv_at hl 1 rfl) ?_
  refine lv_iload_n hx hb dX5_worth_18 rfl (lv_at hl 2 rfl) ?_
  refine sRdI (As := [.int a1, .int a2]) (rest := [.int ((2 : Int32) * (f_J6_bitCount ((f_X1_had a1) &&& (shl (4369 : Int32) a2))))]) hF (c_X1_height l D cI cZ q a1 a2) (gdS tm_2_11 tm_2_12 tm_1_8 tm_2_13) de_X1_height ⟨Nat.le_of_ble_eq_true rfl, Nat.le_of_ble_eq_true rfl⟩ va_P_nil hK hl.1 rfl (Nat.le_of_ble_eq_true rfl) dX5_worth_19 ⟨Nat.zero_le _, Nat.zero_le _⟩ ?_
  refine lv_isub hx hb dX5_worth_22 ?_
  subst hR
  exact fin _ _ dX5_worth_23 (nar_i _)
def f_X5_allPoles (now : Int32) : Int32 := (f_J6_bitCount (f_X1_poles now))
set_option maxHeartbeats 4000000 in
set_option maxRecDepth 100000 in
theorem c_X5_allPoles (l : Launch) (D : va_G) (cI cZ : ClassId) (q : Nat → Nat) (now rains length poles parts plain key stair air acnt tcnt : Int32) (letters cells kinds frames rainsB abouts stoods kept keptF keptR : Nat → Int32) (seed : Int64) : RdI l yX5_allPoles cX5_allPoles 1 .int 1 20 D (tyL cI cZ) (XW cI cZ q now rains length poles parts plain key stair air acnt tcnt letters cells kinds frames rainsB abouts stoods kept keptF keptR seed) [.ref (q 0)] (f_X5_allPoles now) := by
  refine RdI.of (by decide) (Nat.le_of_ble_eq_true rfl) ?_
  intro p e s m args below meth c Q hx hb hml hown hts hP hK fin ls hl
  have hown : s.vm.findClass RX5 = some m.cls := hown
  have hF : CallFix p m c cX5_allPoles 1 s args tb RX5 := ⟨hx, hb, hml, hown, hts⟩
  have hl : lv_has ls 1 [(0, .ref (q 0))] := hl
  generalize hR : (f_X5_allPoles now) = R at fin
  unfold f_X5_allPoles at hR
  refine lv_aload_n hx hb dX5_allPoles_0 rfl (lv_at hl 0 rfl) ?_
  refine va_get (D := D) (ci := 4) (v := .int now) (C := RX5) (T := TX5) (N := 10) hx hb hts tbX5 hown hK hP 0 XW_0 rfl 7 (by decide) (hts _ tm_1_108) (fun _ h9 => h9) rfl dX5_allPoles_1 ?_
  refine sRdI (As := [.int now]) (rest := []) hF (c_X1_poles l D cI cZ q now) (gdS tm_1_209 tm_1_196 tm_1_8 tm_1_197) de_X1_poles ⟨Nat.le_of_ble_eq_true rfl, Nat.le_of_ble_eq_true rfl⟩ va_P_nil hK hl.1 rfl (Nat.le_of_ble_eq_true rfl) dX5_allPoles_4 ⟨Nat.zero_le _, Nat.zero_le _⟩ ?_
  refine sRdI (As := [.int (f_X1_poles now)]) (rest := []) hF (c_J6_bitCount l D cI cZ q (f_X1_poles now)) (gdS tm_1_210 tm_1_200 tm_1_9 tm_1_201) de_J6_bitCount_0f7a4 ⟨Nat.le_of_ble_eq_true rfl, Nat.le_of_ble_eq_true rfl⟩ va_P_nil hK hl.1 rfl (Nat.le_of_ble_eq_true rfl) dX5_allPoles_7 ⟨Nat.zero_le _, Nat.zero_le _⟩ ?_
  subst hR
  exact fin _ _ dX5_allPoles_10 (nar_i _)
def f_X5_withChoice (poles : Int32) (plain : Int32) (key : Int32) (stair : Int32) (air : Int32) (a1 : Int32) (a2 : Int32) (a3 : Int32) : Int32 := (if a3 = (1 : Int32) then (if (f_X2_canPut poles a1 a2) = (0 : Int32) then (if a3 = (2 : Int32) then (if (f_X2_canStrike a1 a2) = (0 : Int32) then a1 else (f_X2_withStruck plain key stair air a1 a2)) else a1) else (f_X2_withPut plain key stair air a1 a2)) else (if a3 = (2 : Int32) then (if (f_X2_canStrike a1 a2) = (0 : Int32) then a1 else (f_X2_withStruck plain key stair air a1 a2)) else a1))
set_option maxHeartbeats 4000000 in
set_option maxRecDepth 100000 in
theorem c_X5_withChoice (l : Launch) (D : va_G) (cI cZ : ClassId) (q : Nat → Nat) (now rains length poles parts plain key stair air acnt tcnt : Int32) (letters cells kinds frames rainsB abouts stoods kept keptF keptR : Nat → Int32) (seed : Int64) (a1 : Int32) (a2 : Int32) (a3 : Int32) : RdI l yX5_withChoice cX5_withChoice 4 .int 3 73 D (tyL cI cZ) (XW cI cZ q now rains length poles parts plain key stair air acnt tcnt letters cells kinds frames rainsB abouts stoods kept keptF keptR seed) [.ref (q 0), .int a1, .int a2, .int a3] (f_X5_withChoice poles plain key stair air a1 a2 a3) := by
  refine RdI.of (by decide) (Nat.le_of_ble_eq_true rfl) ?_
  intro p e s m args below meth c Q hx hb hml hown hts hP hK fin ls hl
  have hown : s.vm.findClass RX5 = some m.cls := hown
  have hF : CallFix p m c cX5_withChoice 4 s args tb RX5 := ⟨hx, hb, hml, hown, hts⟩
  have hl : lv_has ls 4 [(0, .ref (q 0)), (1, .int a1), (2, .int a2), (3, .int a3)] := hl
  generalize hR : (f_X5_withChoice poles plain key stair air a1 a2 a3) = R at fin
  unfold f_X5_withChoice at hR
  refine lv_iload_n hx hb dX5_withChoice_0 rfl (lv_at hl 3 rfl) ?_
  refine lv_iconst (v := (1 : Int32)) hx hb dX5_withChoice_1 (by decide) ?_
  refine lv_icmp_ne (tgt := 27) hx hb dX5_withChoice_2 (by decide) (fun c_2 => ?_) (fun c_2 => ?_)
  · rw [if_neg c_2] at hR
    refine lv_iload_n hx hb dX5_withChoice_27 rfl (lv_at hl 3 rfl) ?_
    refine lv_iconst (v := (2 : Int32)) hx hb dX5_withChoice_28 (by decide) ?_
    refine lv_icmp_ne (tgt := 54) hx hb dX5_withChoice_29 (by decide) (fun c_29 => ?_) (fun c_29 => ?_)
    · rw [if_neg c_29] at hR
      refine lv_iload_n hx hb dX5_withChoice_54 rfl (lv_at hl 1 rfl) ?_
      subst hR
      exact fin _ _ dX5_withChoice_55 (nar_i _)
    · rw [if_pos c_29] at hR
      refine lv_aload_n hx hb dX5_withChoice_32 rfl (lv_at hl 0 rfl) ?_
      refine va_get (D := D) (ci := 4) (v := .ref (q 2)) (C := RX5) (T := TX5) (N := 10) hx hb hts tbX5 hown hK hP 0 XW_0 rfl 1 (by decide) (hts _ tm_1_102) (fun _ h9 => h9) rfl dX5_withChoice_33 ?_
      refine lv_iload_n hx hb dX5_withChoice_36 rfl (lv_at hl 1 rfl) ?_
      refine lv_iload_n hx hb dX5_withChoice_37 rfl (lv_at hl 2 rfl) ?_
      refine vRdI (b := (q 2)) (As := [.int a1, .int a2]) (rest := []) hF (c_X2_canStrike l D cI cZ q poles parts plain key stair air cells kinds a1 a2) (gdV tm_2_56 tm_2_57 tm_2_58 tm_1_3 tm_2_59) de_X2_canStrike ⟨Nat.le_of_ble_eq_true rfl, Nat.le_of_ble_eq_true rfl⟩ (XW_P hP) hK (va_recv hK hP (ci := 1) (q0 := 2) rfl XW_2) hl.1 rfl (Nat.le_of_ble_eq_true rfl) dX5_withChoice_38 ⟨Nat.zero_le _, Nat.zero_le _⟩ ?_
      refine lv_if_eq (tgt := 54) hx hb dX5_withChoice_41 (by decide) (fun c_41 => ?_) (fun c_41 => ?_)
      · rw [if_pos c_41] at hR
        refine lv_iload_n hx hb dX5_withChoice_54 rfl (lv_at hl 1 rfl) ?_
        subst hR
        exact fin _ _ dX5_withChoice_55 (nar_i _)
      · rw [if_neg c_41] at hR
        refine lv_aload_n hx hb dX5_withChoice_44 rfl (lv_at hl 0 rfl) ?_
        refine va_get (D := D) (ci := 4) (v := .ref (q 2)) (C := RX5) (T := TX5) (N := 10) hx hb hts tbX5 hown hK hP 0 XW_0 rfl 1 (by decide) (hts _ tm_1_102) (fun _ h9 => h9) rfl dX5_withChoice_45 ?_
        refine lv_iload_n hx hb dX5_withChoice_48 rfl (lv_at hl 1 rfl) ?_
        refine lv_iload_n hx hb dX5_withChoice_49 rfl (lv_at hl 2 rfl) ?_
        refine vRdI (b := (q 2)) (As := [.int a1, .int a2]) (rest := []) hF (c_X2_withStruck l D cI cZ q poles parts plain key stair air cells kinds a1 a2) (gdV tm_2_60 tm_2_61 tm_2_62 tm_1_3 tm_2_63) de_X2_withStruck ⟨Nat.le_of_ble_eq_true rfl, Nat.le_of_ble_eq_true rfl⟩ (XW_P hP) hK (va_recv hK hP (ci := 1) (q0 := 2) rfl XW_2) hl.1 rfl (Nat.le_of_ble_eq_true rfl) dX5_withChoice_50 ⟨Nat.zero_le _, Nat.zero_le _⟩ ?_
        subst hR
        exact fin _ _ dX5_withChoice_53 (nar_i _)
  · rw [if_pos c_2] at hR
    refine lv_aload_n hx hb dX5_withChoice_5 rfl (lv_at hl 0 rfl) ?_
    refine va_get (D := D) (ci := 4) (v := .ref (q 2)) (C := RX5) (T := TX5) (N := 10) hx hb hts tbX5 hown hK hP 0 XW_0 rfl 1 (by decide) (hts _ tm_1_102) (fun _ h9 => h9) rfl dX5_withChoice_6 ?_
    refine lv_iload_n hx hb dX5_withChoice_9 rfl (lv_at hl 1 rfl) ?_
    refine lv_iload_n hx hb dX5_withChoice_10 rfl (lv_at hl 2 rfl) ?_
    refine vRdI (b := (q 2)) (As := [.int a1, .int a2]) (rest := []) hF (c_X2_canPut l D cI cZ q poles parts plain key stair air cells kinds a1 a2) (gdV tm_2_110 tm_2_111 tm_2_112 tm_1_3 tm_2_113) de_X2_canPut ⟨Nat.le_of_ble_eq_true rfl, Nat.le_of_ble_eq_true rfl⟩ (XW_P hP) hK (va_recv hK hP (ci := 1) (q0 := 2) rfl XW_2) hl.1 rfl (Nat.le_of_ble_eq_true rfl) dX5_withChoice_11 ⟨Nat.zero_le _, Nat.zero_le _⟩ ?_
    refine lv_if_eq (tgt := 27) hx hb dX5_withChoice_14 (by decide) (fun c_14 => ?_) (fun c_14 => ?_)
    · rw [if_pos c_14] at hR
      refine lv_iload_n hx hb dX5_withChoice_27 rfl (lv_at hl 3 rfl) ?_
      refine lv_iconst (v := (2 : Int32)) hx hb dX5_withChoice_28 (by decide) ?_
      refine lv_icmp_ne (tgt := 54) hx hb dX5_withChoice_29 (by decide) (fun c_29 => ?_) (fun c_29 => ?_)
      · rw [if_neg c_29] at hR
        refine lv_iload_n hx hb dX5_withChoice_54 rfl (lv_at hl 1 rfl) ?_
        subst hR
        exact fin _ _ dX5_withChoice_55 (nar_i _)
      · rw [if_pos c_29] at hR
        refine lv_aload_n hx hb dX5_withChoice_32 rfl (lv_at hl 0 rfl) ?_
        refine va_get (D := D) (ci := 4) (v := .ref (q 2)) (C := RX5) (T := TX5) (N := 10) hx hb hts tbX5 hown hK hP 0 XW_0 rfl 1 (by decide) (hts _ tm_1_102) (fun _ h9 => h9) rfl dX5_withChoice_33 ?_
        refine lv_iload_n hx hb dX5_withChoice_36 rfl (lv_at hl 1 rfl) ?_
        refine lv_iload_n hx hb dX5_withChoice_37 rfl (lv_at hl 2 rfl) ?_
        refine vRdI (b := (q 2)) (As := [.int a1, .int a2]) (rest := []) hF (c_X2_canStrike l D cI cZ q poles parts plain key stair air cells kinds a1 a2) (gdV tm_2_56 tm_2_57 tm_2_58 tm_1_3 tm_2_59) de_X2_canStrike ⟨Nat.le_of_ble_eq_true rfl, Nat.le_of_ble_eq_true rfl⟩ (XW_P hP) hK (va_recv hK hP (ci := 1) (q0 := 2) rfl XW_2) hl.1 rfl (Nat.le_of_ble_eq_true rfl) dX5_withChoice_38 ⟨Nat.zero_le _, Nat.zero_le _⟩ ?_
        refine lv_if_eq (tgt := 54) hx hb dX5_withChoice_41 (by decide) (fun c_41 => ?_) (fun c_41 => ?_)
        · rw [if_pos c_41] at hR
          refine lv_iload_n hx hb dX5_withChoice_54 rfl (lv_at hl 1 rfl) ?_
          subst hR
          exact fin _ _ dX5_withChoice_55 (nar_i _)
        · rw [if_neg c_41] at hR
          refine lv_aload_n hx hb dX5_withChoice_44 rfl (lv_at hl 0 rfl) ?_
          refine va_get (D := D) (ci := 4) (v := .ref (q 2)) (C := RX5) (T := TX5) (N := 10) hx hb hts tbX5 hown hK hP 0 XW_0 rfl 1 (by decide) (hts _ tm_1_102) (fun _ h9 => h9) rfl dX5_withChoice_45 ?_
          refine lv_iload_n hx hb dX5_withChoice_48 rfl (lv_at hl 1 rfl) ?_
          refine lv_iload_n hx hb dX5_withChoice_49 rfl (lv_at hl 2 rfl) ?_
          refine vRdI (b := (q 2)) (As := [.int a1, .int a2]) (rest := []) hF (c_X2_withStruck l D cI cZ q poles parts plain key stair air cells kinds a1 a2) (gdV tm_2_60 tm_2_61 tm_2_62 tm_1_3 tm_2_63) de_X2_withStruck ⟨Nat.le_of_ble_eq_true rfl, Nat.le_of_ble_eq_true rfl⟩ (XW_P hP) hK (va_recv hK hP (ci := 1) (q0 := 2) rfl XW_2) hl.1 rfl (Nat.le_of_ble_eq_true rfl) dX5_withChoice_50 ⟨Nat.zero_le _, Nat.zero_le _⟩ ?_
          subst hR
          exact fin _ _ dX5_withChoice_53 (nar_i _)
    · rw [if_neg c_14] at hR
      refine lv_aload_n hx hb dX5_withChoice_17 rfl (lv_at hl 0 rfl) ?_
      refine va_get (D := D) (ci := 4) (v := .ref (q 2)) (C := RX5) (T := TX5) (N := 10) hx hb hts tbX5 hown hK hP 0 XW_0 rfl 1 (by decide) (hts _ tm_1_102) (fun _ h9 => h9) rfl dX5_withChoice_18 ?_
      refine lv_iload_n hx hb dX5_withChoice_21 rfl (lv_at hl 1 rfl) ?_
      refine lv_iload_n hx hb dX5_withChoice_22 rfl (lv_at hl 2 rfl) ?_
      refine vRdI (b := (q 2)) (As := [.int a1, .int a2]) (rest := []) hF (c_X2_withPut l D cI cZ q poles parts plain key stair air cells kinds a1 a2) (gdV tm_2_36 tm_2_37 tm_2_38 tm_1_3 tm_2_39) de_X2_withPut ⟨Nat.le_of_ble_eq_true rfl, Nat.le_of_ble_eq_true rfl⟩ (XW_P hP) hK (va_recv hK hP (ci := 1) (q0 := 2) rfl XW_2) hl.1 rfl (Nat.le_of_ble_eq_true rfl) dX5_withChoice_23 ⟨Nat.zero_le _, Nat.zero_le _⟩ ?_
      subst hR
      exact fin _ _ dX5_withChoice_26 (nar_i _)
def f_X5_withChoices (now : Int32) (poles : Int32) (plain : Int32) (key : Int32) (stair : Int32) (air : Int32) (a1 : Int32) (a2 : Int32) (a3 : Int32) (a4 : Int32) : Int32 := (f_X5_withChoice poles plain key stair air (f_X5_withChoice poles plain key stair air now a1 a2) a3 a4)
set_option maxHeartbeats 4000000 in
set_option maxRecDepth 100000 in
theorem c_X5_withChoices (l : Launch) (D : va_G) (cI cZ : ClassId) (q : Nat → Nat) (now rains length poles parts plain key stair air acnt tcnt : Int32) (letters cells kinds frames rainsB abouts stoods kept keptF keptR : Nat → Int32) (seed : Int64) (a1 : Int32) (a2 : Int32) (a3 : Int32) (a4 : Int32) : RdI l yX5_withChoices cX5_withChoices 5 .int 4 96 D (tyL cI cZ) (XW cI cZ q now rains length poles parts plain key stair air acnt tcnt letters cells kinds frames rainsB abouts stoods kept keptF keptR seed) [.ref (q 0), .int a1, .int a2, .int a3, .int a4] (f_X5_withChoices now poles plain key stair air a1 a2 a3 a4) := by
  refine RdI.of (by decide) (Nat.le_of_ble_eq_true rfl) ?_
  intro p e s m args below meth c Q hx hb hml hown hts hP hK fin ls hl
  have hown : s.vm.findClass RX5 = some m.cls := hown
  have hF : CallFix p m c cX5_withChoices 5 s args tb RX5 := ⟨hx, hb, hml, hown, hts⟩
  have hl : lv_has ls 5 [(0, .ref (q 0)), (1, .int a1), (2, .int a2), (3, .int a3), (4, .int a4)] := hl
  generalize hR : (f_X5_withChoices now poles plain key stair air a1 a2 a3 a4) = R at fin
  unfold f_X5_withChoices at hR
  refine lv_aload_n hx hb dX5_withChoices_0 rfl (lv_at hl 0 rfl) ?_
  refine lv_aload_n hx hb dX5_withChoices_1 rfl (lv_at hl 0 rfl) ?_
  refine lv_aload_n hx hb dX5_withChoices_2 rfl (lv_at hl 0 rfl) ?_
  refine va_get (D := D) (ci := 4) (v := .int now) (C := RX5) (T := TX5) (N := 10) hx hb hts tbX5 hown hK hP 0 XW_0 rfl 7 (by decide) (hts _ tm_1_108) (fun _ h9 => h9) rfl dX5_withChoices_3 ?_
  refine lv_iload_n hx hb dX5_withChoices_6 rfl (lv_at hl 1 rfl) ?_
  refine lv_iload_n hx hb dX5_withChoices_7 rfl (lv_at hl 2 rfl) ?_
  refine vRdI (b := (q 0)) (As := [.int now, .int a1, .int a2]) (rest := [.ref (q 0)]) hF (c_X5_withChoice l D cI cZ q now rains length poles parts plain key stair air acnt tcnt letters cells kinds frames rainsB abouts stoods kept keptF keptR seed now a1 a2) (gdV tm_2_192 tm_2_194 tp_6 tm_1_1 tm_2_195) de_X5_withChoice ⟨Nat.le_of_ble_eq_true rfl, Nat.le_of_ble_eq_true rfl⟩ hP hK (va_recv hK hP (ci := 4) (q0 := 0) rfl XW_0) hl.1 rfl (Nat.le_of_ble_eq_true rfl) dX5_withChoices_8 ⟨Nat.zero_le _, Nat.zero_le _⟩ ?_
  refine lv_iload_n hx hb dX5_withChoices_11 rfl (lv_at hl 3 rfl) ?_
  refine lv_iload hx hb dX5_withChoices_12 (lv_at hl 4 rfl) ?_
  refine vRdI (b := (q 0)) (As := [.int (f_X5_withChoice poles plain key stair air now a1 a2), .int a3, .int a4]) (rest := []) hF (c_X5_withChoice l D cI cZ q now rains length poles parts plain key stair air acnt tcnt letters cells kinds frames rainsB abouts stoods kept keptF keptR seed (f_X5_withChoice poles plain key stair air now a1 a2) a3 a4) (gdV tm_2_192 tm_2_194 tp_6 tm_1_1 tm_2_195) de_X5_withChoice ⟨Nat.le_of_ble_eq_true rfl, Nat.le_of_ble_eq_true rfl⟩ hP hK (va_recv hK hP (ci := 4) (q0 := 0) rfl XW_0) hl.1 rfl (Nat.le_of_ble_eq_true rfl) dX5_withChoices_14 ⟨Nat.zero_le _, Nat.zero_le _⟩ ?_
  subst hR
  exact fin _ _ dX5_withChoices_17 (nar_i _)
def f_X5_withChance (poles : Int32) (plain : Int32) (key : Int32) (stair : Int32) (air : Int32) (a1 : Int32) (a2 : Int32) : Int32 := (if a2 = (15 : Int32) then (f_X2_withRain plain key stair air a1) else (if (8 : Int32) < a2 then (f_X5_withChoice poles plain key stair air a1 (jr a2 (4 : Int32)) (2 : Int32)) else (f_X5_withChoice poles plain key stair air a1 (jr a2 (4 : Int32)) (1 : Int32))))
set_option maxHeartbeats 4000000 in
set_option maxRecDepth 100000 in
theorem c_X5_withChance (l : Launch) (D : va_G) (cI cZ : ClassId) (q : Nat → Nat) (now rains length poles parts plain key stair air acnt tcnt : Int32) (letters cells kinds frames rainsB abouts stoods kept keptF keptR : Nat → Int32) (seed : Int64) (a1 : Int32) (a2 : Int32) : RdI l yX5_withChance cX5_withChance 3 .int 4 96 D (tyL cI cZ) (XW cI cZ q now rains length poles parts plain key stair air acnt tcnt letters cells kinds frames rainsB abouts stoods kept keptF keptR seed) [.ref (q 0), .int a1, .int a2] (f_X5_withChance poles plain key stair air a1 a2) := by
  refine RdI.of (by decide) (Nat.le_of_ble_eq_true rfl) ?_
  intro p e s m args below meth c Q hx hb hml hown hts hP hK fin ls hl
  have hown : s.vm.findClass RX5 = some m.cls := hown
  have hF : CallFix p m c cX5_withChance 3 s args tb RX5 := ⟨hx, hb, hml, hown, hts⟩
  have hl : lv_has ls 3 [(0, .ref (q 0)), (1, .int a1), (2, .int a2)] := hl
  generalize hR : (f_X5_withChance poles plain key stair air a1 a2) = R at fin
  unfold f_X5_withChance at hR
  refine lv_iload_n hx hb dX5_withChance_0 rfl (lv_at hl 2 rfl) ?_
  refine lv_bipush (v := (15 : Int32)) hx hb dX5_withChance_1 (by decide) ?_
  refine lv_icmp_ne (tgt := 15) hx hb dX5_withChance_3 (by decide) (fun c_3 => ?_) (fun c_3 => ?_)
  · rw [if_neg c_3] at hR
    refine lv_aload_n hx hb dX5_withChance_15 rfl (lv_at hl 0 rfl) ?_
    refine lv_iload_n hx hb dX5_withChance_16 rfl (lv_at hl 1 rfl) ?_
    refine lv_iload_n hx hb dX5_withChance_17 rfl (lv_at hl 2 rfl) ?_
    refine lv_iconst (v := (4 : Int32)) hx hb dX5_withChance_18 (by decide) ?_
    refine lv_irem hx hb dX5_withChance_19 (by decide) ?_
    refine lv_rw (z := (jr a2 (4 : Int32))) rfl ?_
    refine lv_iload_n hx hb dX5_withChance_20 rfl (lv_at hl 2 rfl) ?_
    refine lv_bipush (v := (8 : Int32)) hx hb dX5_withChance_21 (by decide) ?_
    refine lv_icmp_gt (tgt := 30) hx hb dX5_withChance_23 (by decide) (fun c_23 => ?_) (fun c_23 => ?_)
    · rw [if_pos c_23] at hR
      refine lv_iconst (v := (2 : Int32)) hx hb dX5_withChance_30 (by decide) ?_
      refine vRdI (b := (q 0)) (As := [.int a1, .int (jr a2 (4 : Int32)), .int (2 : Int32)]) (rest := []) hF (c_X5_withChoice l D cI cZ q now rains length poles parts plain key stair air acnt tcnt letters cells kinds frames rainsB abouts stoods kept keptF keptR seed a1 (jr a2 (4 : Int32)) (2 : Int32)) (gdV tm_2_192 tm_2_194 tp_6 tm_1_1 tm_2_195) de_X5_withChoice ⟨Nat.le_of_ble_eq_true rfl, Nat.le_of_ble_eq_true rfl⟩ hP hK (va_recv hK hP (ci := 4) (q0 := 0) rfl XW_0) hl.1 rfl (Nat.le_of_ble_eq_true rfl) dX5_withChance_31 ⟨Nat.zero_le _, Nat.zero_le _⟩ ?_
      subst hR
      exact fin _ _ dX5_withChance_34 (nar_i _)
    · rw [if_neg c_23] at hR
      refine lv_iconst (v := (1 : Int32)) hx hb dX5_withChance_26 (by decide) ?_
      refine lv_goto (tgt := 31) hx hb dX5_withChance_27 (by decide) ?_
      refine vRdI (b := (q 0)) (As := [.int a1, .int (jr a2 (4 : Int32)), .int (1 : Int32)]) (rest := []) hF (c_X5_withChoice l D cI cZ q now rains length poles parts plain key stair air acnt tcnt letters cells kinds frames rainsB abouts stoods kept keptF keptR seed a1 (jr a2 (4 : Int32)) (1 : Int32)) (gdV tm_2_192 tm_2_194 tp_6 tm_1_1 tm_2_195) de_X5_withChoice ⟨Nat.le_of_ble_eq_true rfl, Nat.le_of_ble_eq_true rfl⟩ hP hK (va_recv hK hP (ci := 4) (q0 := 0) rfl XW_0) hl.1 rfl (Nat.le_of_ble_eq_true rfl) dX5_withChance_31 ⟨Nat.zero_le _, Nat.zero_le _⟩ ?_
      subst hR
      exact fin _ _ dX5_withChance_34 (nar_i _)
  · rw [if_pos c_3] at hR
    refine lv_aload_n hx hb dX5_withChance_6 rfl (lv_at hl 0 rfl) ?_
    refine va_get (D := D) (ci := 4) (v := .ref (q 2)) (C := RX5) (T := TX5) (N := 10) hx hb hts tbX5 hown hK hP 0 XW_0 rfl 1 (by decide) (hts _ tm_1_102) (fun _ h9 => h9) rfl dX5_withChance_7 ?_
    refine lv_iload_n hx hb dX5_withChance_10 rfl (lv_at hl 1 rfl) ?_
    refine vRdI (b := (q 2)) (As := [.int a1]) (rest := []) hF (c_X2_withRain l D cI cZ q poles parts plain key stair air cells kinds a1) (gdV tm_2_69 tm_2_70 tm_2_71 tm_1_3 tm_2_72) de_X2_withRain ⟨Nat.le_of_ble_eq_true rfl, Nat.le_of_ble_eq_true rfl⟩ (XW_P hP) hK (va_recv hK hP (ci := 1) (q0 := 2) rfl XW_2) hl.1 rfl (Nat.le_of_ble_eq_true rfl) dX5_withChance_11 ⟨Nat.zero_le _, Nat.zero_le _⟩ ?_
    subst hR
    exact fin _ _ dX5_withChance_14 (nar_i _)
def f_X5_withDoing (plain : Int32) (key : Int32) (stair : Int32) (air : Int32) (a1 : Int32) (a2 : Int32) : Int32 := (if (a2 / (100 : Int32)) = (1 : Int32) then (f_X2_withPut plain key stair air a1 (jr a2 (10 : Int32))) else (if (a2 / (100 : Int32)) = (2 : Int32) then (f_X2_withStruck plain key stair air a1 (jr a2 (10 : Int32))) else (if (a2 / (100 : Int32)) = (3 : Int32) then (f_X2_withRain plain key stair air a1) else a1)))
set_option maxHeartbeats 4000000 in
set_option maxRecDepth 100000 in
theorem c_X5_withDoing (l : Launch) (D : va_G) (cI cZ : ClassId) (q : Nat → Nat) (now rains length poles parts plain key stair air acnt tcnt : Int32) (letters cells kinds frames rainsB abouts stoods kept keptF keptR : Nat → Int32) (seed : Int64) (a1 : Int32) (a2 : Int32) : RdI l yX5_withDoing cX5_withDoing 3 .int 3 73 D (tyL cI cZ) (XW cI cZ q now rains length poles parts plain key stair air acnt tcnt letters cells kinds frames rainsB abouts stoods kept keptF keptR seed) [.ref (q 0), .int a1, .int a2] (f_X5_withDoing plain key stair air a1 a2) := by
  refine RdI.of (by decide) (Nat.le_of_ble_eq_true rfl) ?_
  intro p e s m args below meth c Q hx hb hml hown hts hP hK fin ls hl
  have hown : s.vm.findClass RX5 = some m.cls := hown
  have hF : CallFix p m c cX5_withDoing 3 s args tb RX5 := ⟨hx, hb, hml, hown, hts⟩
  have hl : lv_has ls 3 [(0, .ref (q 0)), (1, .int a1), (2, .int a2)] := hl
  generalize hR : (f_X5_withDoing plain key stair air a1 a2) = R at fin
  unfold f_X5_withDoing at hR
  refine lv_iload_n hx hb dX5_withDoing_0 rfl (lv_at hl 2 rfl) ?_
  refine lv_bipush (v := (100 : Int32)) hx hb dX5_withDoing_1 (by decide) ?_
  refine lv_idiv hx hb dX5_withDoing_3 (by decide) ?_
  refine Decidable.byCases (p := (a2 / (100 : Int32)) = (1 : Int32)) (fun c_4_1 => ?_) (fun c_4_1 => ?_)
  · rw [if_pos c_4_1] at hR
    refine lv_tableIn (tgt := 32) hx hb dX5_withDoing_4 (by rw [c_4_1]; decide) (by rw [c_4_1]; decide) (by rw [c_4_1]; rfl) (by decide) ?_
    refine lv_aload_n hx hb dX5_withDoing_32 rfl (lv_at hl 0 rfl) ?_
    refine va_get (D := D) (ci := 4) (v := .ref (q 2)) (C := RX5) (T := TX5) (N := 10) hx hb hts tbX5 hown hK hP 0 XW_0 rfl 1 (by decide) (hts _ tm_1_102) (fun _ h9 => h9) rfl dX5_withDoing_33 ?_
    refine lv_iload_n hx hb dX5_withDoing_36 rfl (lv_at hl 1 rfl) ?_
    refine lv_iload_n hx hb dX5_withDoing_37 rfl (lv_at hl 2 rfl) ?_
    refine lv_bipush (v := (10 : Int32)) hx hb dX5_withDoing_38 (by decide) ?_
    refine lv_irem hx hb dX5_withDoing_40 (by decide) ?_
    refine lv_rw (z := (jr a2 (10 : Int32))) rfl ?_
    refine vRdI (b := (q 2)) (As := [.int a1, .int (jr a2 (10 : Int32))]) (rest := []) hF (c_X2_withPut l D cI cZ q poles parts plain key stair air cells kinds a1 (jr a2 (10 : Int32))) (gdV tm_2_36 tm_2_37 tm_2_38 tm_1_3 tm_2_39) de_X2_withPut ⟨Nat.le_of_ble_eq_true rfl, Nat.le_of_ble_eq_true rfl⟩ (XW_P hP) hK (va_recv hK hP (ci := 1) (q0 := 2) rfl XW_2) hl.1 rfl (Nat.le_of_ble_eq_true rfl) dX5_withDoing_41 ⟨Nat.zero_le _, Nat.zero_le _⟩ ?_
    subst hR
    exact fin _ _ dX5_withDoing_44 (nar_i _)
  · rw [if_neg c_4_1] at hR
    refine Decidable.byCases (p := (a2 / (100 : Int32)) = (2 : Int32)) (fun c_4_2 => ?_) (fun c_4_2 => ?_)
    · rw [if_pos c_4_2] at hR
      refine lv_tableIn (tgt := 45) hx hb dX5_withDoing_4 (by rw [c_4_2]; decide) (by rw [c_4_2]; decide) (by rw [c_4_2]; rfl) (by decide) ?_
      refine lv_aload_n hx hb dX5_withDoing_45 rfl (lv_at hl 0 rfl) ?_
      refine va_get (D := D) (ci := 4) (v := .ref (q 2)) (C := RX5) (T := TX5) (N := 10) hx hb hts tbX5 hown hK hP 0 XW_0 rfl 1 (by decide) (hts _ tm_1_102) (fun _ h9 => h9) rfl dX5_withDoing_46 ?_
      refine lv_iload_n hx hb dX5_withDoing_49 rfl (lv_at hl 1 rfl) ?_
      refine lv_iload_n hx hb dX5_withDoing_50 rfl (lv_at hl 2 rfl) ?_
      refine lv_bipush (v := (10 : Int32)) hx hb dX5_withDoing_51 (by decide) ?_
      refine lv_irem hx hb dX5_withDoing_53 (by decide) ?_
      refine lv_rw (z := (jr a2 (10 : Int32))) rfl ?_
      refine vRdI (b := (q 2)) (As := [.int a1, .int (jr a2 (10 : Int32))]) (rest := []) hF (c_X2_withStruck l D cI cZ q poles parts plain key stair air cells kinds a1 (jr a2 (10 : Int32))) (gdV tm_2_60 tm_2_61 tm_2_62 tm_1_3 tm_2_63) de_X2_withStruck ⟨Nat.le_of_ble_eq_true rfl, Nat.le_of_ble_eq_true rfl⟩ (XW_P hP) hK (va_recv hK hP (ci := 1) (q0 := 2) rfl XW_2) hl.1 rfl (Nat.le_of_ble_eq_true rfl) dX5_withDoing_54 ⟨Nat.zero_le _, Nat.zero_le _⟩ ?_
      subst hR
      exact fin _ _ dX5_withDoing_57 (nar_i _)
    · rw [if_neg c_4_2] at hR
      refine Decidable.byCases (p := (a2 / (100 : Int32)) = (3 : Int32)) (fun c_4_3 => ?_) (fun c_4_3 => ?_)
      · rw [if_pos c_4_3] at hR
        refine lv_tableIn (tgt := 58) hx hb dX5_withDoing_4 (by rw [c_4_3]; decide) (by rw [c_4_3]; decide) (by rw [c_4_3]; rfl) (by decide) ?_
        refine lv_aload_n hx hb dX5_withDoing_58 rfl (lv_at hl 0 rfl) ?_
        refine va_get (D := D) (ci := 4) (v := .ref (q 2)) (C := RX5) (T := TX5) (N := 10) hx hb hts tbX5 hown hK hP 0 XW_0 rfl 1 (by decide) (hts _ tm_1_102) (fun _ h9 => h9) rfl dX5_withDoing_59 ?_
        refine lv_iload_n hx hb dX5_withDoing_62 rfl (lv_at hl 1 rfl) ?_
        refine vRdI (b := (q 2)) (As := [.int a1]) (rest := []) hF (c_X2_withRain l D cI cZ q poles parts plain key stair air cells kinds a1) (gdV tm_2_69 tm_2_70 tm_2_71 tm_1_3 tm_2_72) de_X2_withRain ⟨Nat.le_of_ble_eq_true rfl, Nat.le_of_ble_eq_true rfl⟩ (XW_P hP) hK (va_recv hK hP (ci := 1) (q0 := 2) rfl XW_2) hl.1 rfl (Nat.le_of_ble_eq_true rfl) dX5_withDoing_63 ⟨Nat.zero_le _, Nat.zero_le _⟩ ?_
        subst hR
        exact fin _ _ dX5_withDoing_66 (nar_i _)
      · rw [if_neg c_4_3] at hR
        refine lv_tableOut (tgt := 67) hx hb dX5_withDoing_4 (by have h0 := lv_neT c_4_1 (a := 1) (by decide); have h1 := lv_neT c_4_2 (a := 2) (by decide); have h2 := lv_neT c_4_3 (a := 3) (by decide); omega) (by decide) ?_
        refine lv_iload_n hx hb dX5_withDoing_67 rfl (lv_at hl 1 rfl) ?_
        subst hR
        exact fin _ _ dX5_withDoing_68 (nar_i _)
def f_X5_canBe (poles : Int32) (parts : Int32) (cells : Nat → Int32) (a1 : Int32) (a2 : Int32) : Int32 := (if (a2 / (100 : Int32)) = (1 : Int32) then (if (jr (a2 / (10 : Int32)) (10 : Int32)) = (0 : Int32) then (if (f_X5_isColumn (jr a2 (10 : Int32))) = (0 : Int32) then (0 : Int32) else (if (f_X2_canPut poles a1 (jr a2 (10 : Int32))) = (0 : Int32) then (0 : Int32) else (1 : Int32))) else (0 : Int32)) else (if (a2 / (100 : Int32)) = (2 : Int32) then (if (jr (a2 / (10 : Int32)) (10 : Int32)) = (0 : Int32) then (if (f_X5_isColumn (jr a2 (10 : Int32))) = (0 : Int32) then (0 : Int32) else (if (f_X2_canStrike a1 (jr a2 (10 : Int32))) = (0 : Int32) then (0 : Int32) else (1 : Int32))) else (0 : Int32)) else (if (a2 / (100 : Int32)) = (3 : Int32) then (if (jr (a2 / (10 : Int32)) (10 : Int32)) = (0 : Int32) then (if (jr a2 (10 : Int32)) = (0 : Int32) then (1 : Int32) else (0 : Int32)) else (0 : Int32)) else (if (a2 / (100 : Int32)) = (4 : Int32) then (if (jr (a2 / (10 : Int32)) (10 : Int32)) = (0 : Int32) then (if (f_X2_isPart parts (jr a2 (10 : Int32))) = (0 : Int32) then (0 : Int32) else (if ((shr (f_X1_had a1) (f_X2_cellOf parts cells (jr a2 (10 : Int32)))) &&& (1 : Int32)) = (1 : Int32) then (1 : Int32) else (0 : Int32))) else (0 : Int32)) else (if (a2 / (100 : Int32)) = (5 : Int32) then (if (f_X5_isColumn (jr (a2 / (10 : Int32)) (10 : Int32))) = (0 : Int32) then (0 : Int32) else (if (f_X1_height a1 (jr (a2 / (10 : Int32)) (10 : Int32))) < (jr a2 (10 : Int32)) then (0 : Int32) else (1 : Int32))) else (0 : Int32))))))
set_option maxHeartbeats 4000000 in
set_option maxRecDepth 100000 in
theorem c_X5_canBe (l : Launch) (D : va_G) (cI cZ : ClassId) (q : Nat → Nat) (now rains length poles parts plain key stair air acnt tcnt : Int32) (letters cells kinds frames rainsB abouts stoods kept keptF keptR : Nat → Int32) (seed : Int64) (a1 : Int32) (a2 : Int32) : RdI l yX5_canBe cX5_canBe 5 .boolean 3 63 D (tyL cI cZ) (XW cI cZ q now rains length poles parts plain key stair air acnt tcnt letters cells kinds frames rainsB abouts stoods kept keptF keptR seed) [.ref (q 0), .int a1, .int a2] (f_X5_canBe poles parts cells a1 a2) := by
  refine RdI.of (by decide) (Nat.le_of_ble_eq_true rfl) ?_
  intro p e s m args below meth c Q hx hb hml hown hts hP hK fin ls hl
  have hown : s.vm.findClass RX5 = some m.cls := hown
  have hF : CallFix p m c cX5_canBe 5 s args tb RX5 := ⟨hx, hb, hml, hown, hts⟩
  have hl : lv_has ls 5 [(0, .ref (q 0)), (1, .int a1), (2, .int a2)] := hl
  generalize hR : (f_X5_canBe poles parts cells a1 a2) = R at fin
  unfold f_X5_canBe at hR
  refine lv_iload_n hx hb dX5_canBe_0 rfl (lv_at hl 2 rfl) ?_
  refine lv_bipush (v := (10 : Int32)) hx hb dX5_canBe_1 (by decide) ?_
  refine lv_idiv hx hb dX5_canBe_3 (by decide) ?_
  refine lv_bipush (v := (10 : Int32)) hx hb dX5_canBe_4 (by decide) ?_
  refine lv_irem hx hb dX5_canBe_6 (by decide) ?_
  refine lv_rw (z := (jr (a2 / (10 : Int32)) (10 : Int32))) rfl ?_
  refine lv_istore_n (lv' := [(3, .int (jr (a2 / (10 : Int32)) (10 : Int32))), (0, .ref (q 0)), (1, .int a1), (2, .int a2)]) hx hb dX5_canBe_7 rfl hl (by decide) rfl (fun ls hl => ?_)
  refine lv_iload_n hx hb dX5_canBe_8 rfl (lv_at hl 3 rfl) ?_
  refine lv_bipush (v := (10 : Int32)) hx hb dX5_canBe_9 (by decide) ?_
  refine lv_irem hx hb dX5_canBe_11 (by decide) ?_
  refine lv_rw (z := (jr a2 (10 : Int32))) rfl ?_
  refine lv_istore (lv' := [(4, .int (jr a2 (10 : Int32))), (3, .int (jr (a2 / (10 : Int32)) (10 : Int32))), (0, .ref (q 0)), (1, .int a1), (2, .int a2)]) hx hb dX5_canBe_12 hl (by decide) rfl (fun ls hl => ?_)
  refine lv_iload_n hx hb dX5_canBe_14 rfl (lv_at hl 4 rfl) ?_
  refine lv_bipush (v := (100 : Int32)) hx hb dX5_canBe_15 (by decide) ?_
  refine lv_idiv hx hb dX5_canBe_17 (by decide) ?_
  refine Decidable.byCases (p := (a2 / (100 : Int32)) = (1 : Int32)) (fun c_18_1 => ?_) (fun c_18_1 => ?_)
  · rw [if_pos c_18_1] at hR
    refine lv_tableIn (tgt := 52) hx hb dX5_canBe_18 (by rw [c_18_1]; decide) (by rw [c_18_1]; decide) (by rw [c_18_1]; rfl) (by decide) ?_
    refine lv_iload_n hx hb dX5_canBe_52 rfl (lv_at hl 1 rfl) ?_
    refine lv_if_ne (tgt := 81) hx hb dX5_canBe_53 (by decide) (fun c_53 => ?_) (fun c_53 => ?_)
    · rw [if_neg c_53] at hR
      refine lv_iconst (v := (0 : Int32)) hx hb dX5_canBe_81 (by decide) ?_
      subst hR
      exact fin _ _ dX5_canBe_82 (nar_b (Or.inl rfl))
    · rw [if_pos c_53] at hR
      refine lv_iload hx hb dX5_canBe_56 (lv_at hl 0 rfl) ?_
      refine sRdI (As := [.int (jr a2 (10 : Int32))]) (rest := []) hF (c_X5_isColumn l D cI cZ q (jr a2 (10 : Int32))) (gdS tm_2_8 tm_2_9 tm_1_1 tm_2_10) de_X5_isColumn ⟨Nat.le_of_ble_eq_true rfl, Nat.le_of_ble_eq_true rfl⟩ va_P_nil hK hl.1 rfl (Nat.le_of_ble_eq_true rfl) dX5_canBe_58 ⟨Nat.zero_le _, Nat.zero_le _⟩ ?_
      refine lv_if_eq (tgt := 81) hx hb dX5_canBe_61 (by decide) (fun c_61 => ?_) (fun c_61 => ?_)
      · rw [if_pos c_61] at hR
        refine lv_iconst (v := (0 : Int32)) hx hb dX5_canBe_81 (by decide) ?_
        subst hR
        exact fin _ _ dX5_canBe_82 (nar_b (Or.inl rfl))
      · rw [if_neg c_61] at hR
        refine lv_aload_n hx hb dX5_canBe_64 rfl (lv_at hl 2 rfl) ?_
        refine va_get (D := D) (ci := 4) (v := .ref (q 2)) (C := RX5) (T := TX5) (N := 10) hx hb hts tbX5 hown hK hP 0 XW_0 rfl 1 (by decide) (hts _ tm_1_102) (fun _ h9 => h9) rfl dX5_canBe_65 ?_
        refine lv_iload_n hx hb dX5_canBe_68 rfl (lv_at hl 3 rfl) ?_
        refine lv_iload hx hb dX5_canBe_69 (lv_at hl 0 rfl) ?_
        refine vRdI (b := (q 2)) (As := [.int a1, .int (jr a2 (10 : Int32))]) (rest := []) hF (c_X2_canPut l D cI cZ q poles parts plain key stair air cells kinds a1 (jr a2 (10 : Int32))) (gdV tm_2_110 tm_2_111 tm_2_112 tm_1_3 tm_2_113) de_X2_canPut ⟨Nat.le_of_ble_eq_true rfl, Nat.le_of_ble_eq_true rfl⟩ (XW_P hP) hK (va_recv hK hP (ci := 1) (q0 := 2) rfl XW_2) hl.1 rfl (Nat.le_of_ble_eq_true rfl) dX5_canBe_71 ⟨Nat.zero_le _, Nat.zero_le _⟩ ?_
        refine lv_if_eq (tgt := 81) hx hb dX5_canBe_74 (by decide) (fun c_74 => ?_) (fun c_74 => ?_)
        · rw [if_pos c_74] at hR
          refine lv_iconst (v := (0 : Int32)) hx hb dX5_canBe_81 (by decide) ?_
          subst hR
          exact fin _ _ dX5_canBe_82 (nar_b (Or.inl rfl))
        · rw [if_neg c_74] at hR
          refine lv_iconst (v := (1 : Int32)) hx hb dX5_canBe_77 (by decide) ?_
          refine lv_goto (tgt := 82) hx hb dX5_canBe_78 (by decide) ?_
          subst hR
          exact fin _ _ dX5_canBe_82 (nar_b (Or.inr rfl))
  · rw [if_neg c_18_1] at hR
    refine Decidable.byCases (p := (a2 / (100 : Int32)) = (2 : Int32)) (fun c_18_2 => ?_) (fun c_18_2 => ?_)
    · rw [if_pos c_18_2] at hR
      refine lv_tableIn (tgt := 83) hx hb dX5_canBe_18 (by rw [c_18_2]; decide) (by rw [c_18_2]; decide) (by rw [c_18_2]; rfl) (by decide) ?_
      refine lv_iload_n hx hb dX5_canBe_83 rfl (lv_at hl 1 rfl) ?_
      refine lv_if_ne (tgt := 112) hx hb dX5_canBe_84 (by decide) (fun c_84 => ?_) (fun c_84 => ?_)
      · rw [if_neg c_84] at hR
        refine lv_iconst (v := (0 : Int32)) hx hb dX5_canBe_112 (by decide) ?_
        subst hR
        exact fin _ _ dX5_canBe_113 (nar_b (Or.inl rfl))
      · rw [if_pos c_84] at hR
        refine lv_iload hx hb dX5_canBe_87 (lv_at hl 0 rfl) ?_
        refine sRdI (As := [.int (jr a2 (10 : Int32))]) (rest := []) hF (c_X5_isColumn l D cI cZ q (jr a2 (10 : Int32))) (gdS tm_2_8 tm_2_9 tm_1_1 tm_2_10) de_X5_isColumn ⟨Nat.le_of_ble_eq_true rfl, Nat.le_of_ble_eq_true rfl⟩ va_P_nil hK hl.1 rfl (Nat.le_of_ble_eq_true rfl) dX5_canBe_89 ⟨Nat.zero_le _, Nat.zero_le _⟩ ?_
        refine lv_if_eq (tgt := 112) hx hb dX5_canBe_92 (by decide) (fun c_92 => ?_) (fun c_92 => ?_)
        · rw [if_pos c_92] at hR
          refine lv_iconst (v := (0 : Int32)) hx hb dX5_canBe_112 (by decide) ?_
          subst hR
          exact fin _ _ dX5_canBe_113 (nar_b (Or.inl rfl))
        · rw [if_neg c_92] at hR
          refine lv_aload_n hx hb dX5_canBe_95 rfl (lv_at hl 2 rfl) ?_
          refine va_get (D := D) (ci := 4) (v := .ref (q 2)) (C := RX5) (T := TX5) (N := 10) hx hb hts tbX5 hown hK hP 0 XW_0 rfl 1 (by decide) (hts _ tm_1_102) (fun _ h9 => h9) rfl dX5_canBe_96 ?_
          refine lv_iload_n hx hb dX5_canBe_99 rfl (lv_at hl 3 rfl) ?_
          refine lv_iload hx hb dX5_canBe_100 (lv_at hl 0 rfl) ?_
          refine vRdI (b := (q 2)) (As := [.int a1, .int (jr a2 (10 : Int32))]) (rest := []) hF (c_X2_canStrike l D cI cZ q poles parts plain key stair air cells kinds a1 (jr a2 (10 : Int32))) (gdV tm_2_56 tm_2_57 tm_2_58 tm_1_3 tm_2_59) de_X2_canStrike ⟨Nat.le_of_ble_eq_true rfl, Nat.le_of_ble_eq_true rfl⟩ (XW_P hP) hK (va_recv hK hP (ci := 1) (q0 := 2) rfl XW_2) hl.1 rfl (Nat.le_of_ble_eq_true rfl) dX5_canBe_102 ⟨Nat.zero_le _, Nat.zero_le _⟩ ?_
          refine lv_if_eq (tgt := 112) hx hb dX5_canBe_105 (by decide) (fun c_105 => ?_) (fun c_105 => ?_)
          · rw [if_pos c_105] at hR
            refine lv_iconst (v := (0 : Int32)) hx hb dX5_canBe_112 (by decide) ?_
            subst hR
            exact fin _ _ dX5_canBe_113 (nar_b (Or.inl rfl))
          · rw [if_neg c_105] at hR
            refine lv_iconst (v := (1 : Int32)) hx hb dX5_canBe_108 (by decide) ?_
            refine lv_goto (tgt := 113) hx hb dX5_canBe_109 (by decide) ?_
            subst hR
            exact fin _ _ dX5_canBe_113 (nar_b (Or.inr rfl))
    · rw [if_neg c_18_2] at hR
      refine Decidable.byCases (p := (a2 / (100 : Int32)) = (3 : Int32)) (fun c_18_3 => ?_) (fun c_18_3 => ?_)
      · rw [if_pos c_18_3] at hR
        refine lv_tableIn (tgt := 114) hx hb dX5_canBe_18 (by rw [c_18_3]; decide) (by rw [c_18_3]; decide) (by rw [c_18_3]; rfl) (by decide) ?_
        refine lv_iload_n hx hb dX5_canBe_114 rfl (lv_at hl 1 rfl) ?_
        refine lv_if_ne (tgt := 127) hx hb dX5_canBe_115 (by decide) (fun c_115 => ?_) (fun c_115 => ?_)
        · rw [if_neg c_115] at hR
          refine lv_iconst (v := (0 : Int32)) hx hb dX5_canBe_127 (by decide) ?_
          subst hR
          exact fin _ _ dX5_canBe_128 (nar_b (Or.inl rfl))
        · rw [if_pos c_115] at hR
          refine lv_iload hx hb dX5_canBe_118 (lv_at hl 0 rfl) ?_
          refine lv_if_ne (tgt := 127) hx hb dX5_canBe_120 (by decide) (fun c_120 => ?_) (fun c_120 => ?_)
          · rw [if_neg c_120] at hR
            refine lv_iconst (v := (0 : Int32)) hx hb dX5_canBe_127 (by decide) ?_
            subst hR
            exact fin _ _ dX5_canBe_128 (nar_b (Or.inl rfl))
          · rw [if_pos c_120] at hR
            refine lv_iconst (v := (1 : Int32)) hx hb dX5_canBe_123 (by decide) ?_
            refine lv_goto (tgt := 128) hx hb dX5_canBe_124 (by decide) ?_
            subst hR
            exact fin _ _ dX5_canBe_128 (nar_b (Or.inr rfl))
      · rw [if_neg c_18_3] at hR
        refine Decidable.byCases (p := (a2 / (100 : Int32)) = (4 : Int32)) (fun c_18_4 => ?_) (fun c_18_4 => ?_)
        · rw [if_pos c_18_4] at hR
          refine lv_tableIn (tgt := 129) hx hb dX5_canBe_18 (by rw [c_18_4]; decide) (by rw [c_18_4]; decide) (by rw [c_18_4]; rfl) (by decide) ?_
          refine lv_iload_n hx hb dX5_canBe_129 rfl (lv_at hl 1 rfl) ?_
          refine lv_if_ne (tgt := 169) hx hb dX5_canBe_130 (by decide) (fun c_130 => ?_) (fun c_130 => ?_)
          · rw [if_neg c_130] at hR
            refine lv_iconst (v := (0 : Int32)) hx hb dX5_canBe_169 (by decide) ?_
            subst hR
            exact fin _ _ dX5_canBe_170 (nar_b (Or.inl rfl))
          · rw [if_pos c_130] at hR
            refine lv_aload_n hx hb dX5_canBe_133 rfl (lv_at hl 2 rfl) ?_
            refine va_get (D := D) (ci := 4) (v := .ref (q 2)) (C := RX5) (T := TX5) (N := 10) hx hb hts tbX5 hown hK hP 0 XW_0 rfl 1 (by decide) (hts _ tm_1_102) (fun _ h9 => h9) rfl dX5_canBe_134 ?_
            refine lv_iload hx hb dX5_canBe_137 (lv_at hl 0 rfl) ?_
            refine vRdI (b := (q 2)) (As := [.int (jr a2 (10 : Int32))]) (rest := []) hF (c_X2_isPart l D cI cZ q poles parts plain key stair air cells kinds (jr a2 (10 : Int32))) (gdV tm_1_231 tm_1_232 tm_1_233 tm_1_3 tm_1_234) de_X2_isPart ⟨Nat.le_of_ble_eq_true rfl, Nat.le_of_ble_eq_true rfl⟩ (XW_P hP) hK (va_recv hK hP (ci := 1) (q0 := 2) rfl XW_2) hl.1 rfl (Nat.le_of_ble_eq_true rfl) dX5_canBe_139 ⟨Nat.zero_le _, Nat.zero_le _⟩ ?_
            refine lv_if_eq (tgt := 169) hx hb dX5_canBe_142 (by decide) (fun c_142 => ?_) (fun c_142 => ?_)
            · rw [if_pos c_142] at hR
              refine lv_iconst (v := (0 : Int32)) hx hb dX5_canBe_169 (by decide) ?_
              subst hR
              exact fin _ _ dX5_canBe_170 (nar_b (Or.inl rfl))
            · rw [if_neg c_142] at hR
              refine lv_iload_n hx hb dX5_canBe_145 rfl (lv_at hl 3 rfl) ?_
              refine sRdI (As := [.int a1]) (rest := []) hF (c_X1_had l D cI cZ q a1) (gdS tm_1_211 tm_1_212 tm_1_8 tm_1_213) de_X1_had ⟨Nat.le_of_ble_eq_true rfl, Nat.le_of_ble_eq_true rfl⟩ va_P_nil hK hl.1 rfl (Nat.le_of_ble_eq_true rfl) dX5_canBe_146 ⟨Nat.zero_le _, Nat.zero_le _⟩ ?_
              refine lv_aload_n hx hb dX5_canBe_149 rfl (lv_at hl 2 rfl) ?_
              refine va_get (D := D) (ci := 4) (v := .ref (q 2)) (C := RX5) (T := TX5) (N := 10) hx hb hts tbX5 hown hK hP 0 XW_0 rfl 1 (by decide) (hts _ tm_1_102) (fun _ h9 => h9) rfl dX5_canBe_150 ?_
              refine lv_iload hx hb dX5_canBe_153 (lv_at hl 0 rfl) ?_
              refine vRdI (b := (q 2)) (As := [.int (jr a2 (10 : Int32))]) (rest := [.int (f_X1_had a1)]) hF (c_X2_cellOf l D cI cZ q poles parts plain key stair air cells kinds (jr a2 (10 : Int32))) (gdV tm_1_235 tm_1_236 tm_1_237 tm_1_3 tm_1_238) de_X2_cellOf ⟨Nat.le_of_ble_eq_true rfl, Nat.le_of_ble_eq_true rfl⟩ (XW_P hP) hK (va_recv hK hP (ci := 1) (q0 := 2) rfl XW_2) hl.1 rfl (Nat.le_of_ble_eq_true rfl) dX5_canBe_155 ⟨Nat.zero_le _, Nat.zero_le _⟩ ?_
              refine lv_ishr hx hb dX5_canBe_158 ?_
              refine lv_rw (z := (shr (f_X1_had a1) (f_X2_cellOf parts cells (jr a2 (10 : Int32))))) rfl ?_
              refine lv_iconst (v := (1 : Int32)) hx hb dX5_canBe_159 (by decide) ?_
              refine lv_iand hx hb dX5_canBe_160 ?_
              refine lv_iconst (v := (1 : Int32)) hx hb dX5_canBe_161 (by decide) ?_
              refine lv_icmp_ne (tgt := 169) hx hb dX5_canBe_162 (by decide) (fun c_162 => ?_) (fun c_162 => ?_)
              · rw [if_neg c_162] at hR
                refine lv_iconst (v := (0 : Int32)) hx hb dX5_canBe_169 (by decide) ?_
                subst hR
                exact fin _ _ dX5_canBe_170 (nar_b (Or.inl rfl))
              · rw [if_pos c_162] at hR
                refine lv_iconst (v := (1 : Int32)) hx hb dX5_canBe_165 (by decide) ?_
                refine lv_goto (tgt := 170) hx hb dX5_canBe_166 (by decide) ?_
                subst hR
                exact fin _ _ dX5_canBe_170 (nar_b (Or.inr rfl))
        · rw [if_neg c_18_4] at hR
          refine Decidable.byCases (p := (a2 / (100 : Int32)) = (5 : Int32)) (fun c_18_5 => ?_) (fun c_18_5 => ?_)
          · rw [if_pos c_18_5] at hR
            refine lv_tableIn (tgt := 171) hx hb dX5_canBe_18 (by rw [c_18_5]; decide) (by rw [c_18_5]; decide) (by rw [c_18_5]; rfl) (by decide) ?_
            refine lv_iload_n hx hb dX5_canBe_171 rfl (lv_at hl 1 rfl) ?_
            refine sRdI (As := [.int (jr (a2 / (10 : Int32)) (10 : Int32))]) (rest := []) hF (c_X5_isColumn l D cI cZ q (jr (a2 / (10 : Int32)) (10 : Int32))) (gdS tm_2_8 tm_2_9 tm_1_1 tm_2_10) de_X5_isColumn ⟨Nat.le_of_ble_eq_true rfl, Nat.le_of_ble_eq_true rfl⟩ va_P_nil hK hl.1 rfl (Nat.le_of_ble_eq_true rfl) dX5_canBe_172 ⟨Nat.zero_le _, Nat.zero_le _⟩ ?_
            refine lv_if_eq (tgt := 192) hx hb dX5_canBe_175 (by decide) (fun c_175 => ?_) (fun c_175 => ?_)
            · rw [if_pos c_175] at hR
              refine lv_iconst (v := (0 : Int32)) hx hb dX5_canBe_192 (by decide) ?_
              subst hR
              exact fin _ _ dX5_canBe_193 (nar_b (Or.inl rfl))
            · rw [if_neg c_175] at hR
              refine lv_iload_n hx hb dX5_canBe_178 rfl (lv_at hl 3 rfl) ?_
              refine lv_iload_n hx hb dX5_canBe_179 rfl (lv_at hl 1 rfl) ?_
              refine sRdI (As := [.int a1, .int (jr (a2 / (10 : Int32)) (10 : Int32))]) (rest := []) hF (c_X1_height l D cI cZ q a1 (jr (a2 / (10 : Int32)) (10 : Int32))) (gdS tm_2_11 tm_2_12 tm_1_8 tm_2_13) de_X1_height ⟨Nat.le_of_ble_eq_true rfl, Nat.le_of_ble_eq_true rfl⟩ va_P_nil hK hl.1 rfl (Nat.le_of_ble_eq_true rfl) dX5_canBe_180 ⟨Nat.zero_le _, Nat.zero_le _⟩ ?_
              refine lv_iload hx hb dX5_canBe_183 (lv_at hl 0 rfl) ?_
              refine lv_icmp_lt (tgt := 192) hx hb dX5_canBe_185 (by decide) (fun c_185 => ?_) (fun c_185 => ?_)
              · rw [if_pos c_185] at hR
                refine lv_iconst (v := (0 : Int32)) hx hb dX5_canBe_192 (by decide) ?_
                subst hR
                exact fin _ _ dX5_canBe_193 (nar_b (Or.inl rfl))
              · rw [if_neg c_185] at hR
                refine lv_iconst (v := (1 : Int32)) hx hb dX5_canBe_188 (by decide) ?_
                refine lv_goto (tgt := 193) hx hb dX5_canBe_189 (by decide) ?_
                subst hR
                exact fin _ _ dX5_canBe_193 (nar_b (Or.inr rfl))
          · rw [if_neg c_18_5] at hR
            refine lv_tableOut (tgt := 194) hx hb dX5_canBe_18 (by have h0 := lv_neT c_18_1 (a := 1) (by decide); have h1 := lv_neT c_18_2 (a := 2) (by decide); have h2 := lv_neT c_18_3 (a := 3) (by decide); have h3 := lv_neT c_18_4 (a := 4) (by decide); have h4 := lv_neT c_18_5 (a := 5) (by decide); omega) (by decide) ?_
            refine lv_iconst (v := (0 : Int32)) hx hb dX5_canBe_194 (by decide) ?_
            subst hR
            exact fin _ _ dX5_canBe_195 (nar_b (Or.inl rfl))
def f_X5_ordersWith (parts : Int32) (a1 : Int32) : Int32 := ((f_X5_factorial a1) * (f_X5_factorial ((parts - (1 : Int32)) - a1)))
set_option maxHeartbeats 4000000 in
set_option maxRecDepth 100000 in
theorem c_X5_ordersWith (l : Launch) (D : va_G) (cI cZ : ClassId) (q : Nat → Nat) (now rains length poles parts plain key stair air acnt tcnt : Int32) (letters cells kinds frames rainsB abouts stoods kept keptF keptR : Nat → Int32) (seed : Int64) (a1 : Int32) (hb1 : a1.toInt < 72) (hc1 : (parts - 1 - a1).toInt < 72) : RdI l yX5_ordersWith cX5_ordersWith 2 .int 1 22 D (tyL cI cZ) (XW cI cZ q now rains length poles parts plain key stair air acnt tcnt letters cells kinds frames rainsB abouts stoods kept keptF keptR seed) [.ref (q 0), .int a1] (f_X5_ordersWith parts a1) := by
  refine RdI.of (by decide) (Nat.le_of_ble_eq_true rfl) ?_
  intro p e s m args below meth c Q hx hb hml hown hts hP hK fin ls hl
  have hown : s.vm.findClass RX5 = some m.cls := hown
  have hF : CallFix p m c cX5_ordersWith 2 s args tb RX5 := ⟨hx, hb, hml, hown, hts⟩
  have hl : lv_has ls 2 [(0, .ref (q 0)), (1, .int a1)] := hl
  generalize hR : (f_X5_ordersWith parts a1) = R at fin
  unfold f_X5_ordersWith at hR
  refine lv_iload_n hx hb dX5_ordersWith_0 rfl (lv_at hl 1 rfl) ?_
  refine sRdI (As := [.int a1]) (rest := []) hF (c_X5_factorial l D cI cZ q a1 hb1) (gdS tm_2_148 tm_2_149 tm_1_1 tm_2_150) de_X5_factorial ⟨Nat.le_of_ble_eq_true rfl, Nat.le_of_ble_eq_true rfl⟩ va_P_nil hK hl.1 rfl (Nat.le_of_ble_eq_true rfl) dX5_ordersWith_1 ⟨Nat.zero_le _, Nat.zero_le _⟩ ?_
  refine lv_aload_n hx hb dX5_ordersWith_4 rfl (lv_at hl 0 rfl) ?_
  refine va_get (D := D) (ci := 4) (v := .ref (q 2)) (C := RX5) (T := TX5) (N := 10) hx hb hts tbX5 hown hK hP 0 XW_0 rfl 1 (by decide) (hts _ tm_1_102) (fun _ h9 => h9) rfl dX5_ordersWith_5 ?_
  refine va_get (D := D) (ci := 1) (v := .int parts) (C := RX2) (T := TX2) (N := 8) hx hb hts tbX2 hown hK hP 2 XW_2 rfl 3 (by decide) (hts _ tm_1_44) (fun _ h9 => h9) rfl dX5_ordersWith_8 ?_
  refine lv_iconst (v := (1 : Int32)) hx hb dX5_ordersWith_11 (by decide) ?_
  refine lv_isub hx hb dX5_ordersWith_12 ?_
  refine lv_iload_n hx hb dX5_ordersWith_13 rfl (lv_at hl 1 rfl) ?_
  refine lv_isub hx hb dX5_ordersWith_14 ?_
  refine sRdI (As := [.int ((parts - (1 : Int32)) - a1)]) (rest := [.int (f_X5_factorial a1)]) hF (c_X5_factorial l D cI cZ q ((parts - (1 : Int32)) - a1) hc1) (gdS tm_2_148 tm_2_149 tm_1_1 tm_2_150) de_X5_factorial ⟨Nat.le_of_ble_eq_true rfl, Nat.le_of_ble_eq_true rfl⟩ va_P_nil hK hl.1 rfl (Nat.le_of_ble_eq_true rfl) dX5_ordersWith_15 ⟨Nat.zero_le _, Nat.zero_le _⟩ ?_
  refine lv_imul hx hb dX5_ordersWith_18 ?_
  subst hR
  exact fin _ _ dX5_ordersWith_19 (nar_i _)
def f_X5_isRest_l30 (now : Int32) (poles : Int32) (plain : Int32) (key : Int32) (stair : Int32) (air : Int32) (a1 : Int32) (a2 : Int32) (a3 : Int32) (a4 : Int32) : Nat → Nat → Int32
  | 0, i_30 => (1 : Int32)
  | d_30 + 1, i_30 => (if (f_X5_worth (f_X5_withChoices now poles plain key stair air a1 a3 a2 a4) a1) < (f_X5_worth (f_X5_withChoices now poles plain key stair air a1 (nI i_30) a2 a4) a1) then (0 : Int32) else (if (f_X5_worth (f_X5_withChoices now poles plain key stair air a1 a3 a2 (nI i_30)) a2) ≤ (f_X5_worth (f_X5_withChoices now poles plain key stair air a1 a3 a2 a4) a2) then (f_X5_isRest_l30 now poles plain key stair air a1 a2 a3 a4 d_30 (i_30 + 1) ) else (0 : Int32)))
theorem f_X5_isRest_l30_z {now : Int32} {poles : Int32} {plain : Int32} {key : Int32} {stair : Int32} {air : Int32} {a1 : Int32} {a2 : Int32} {a3 : Int32} {a4 : Int32} {i_30 : Nat}  : f_X5_isRest_l30 now poles plain key stair air a1 a2 a3 a4 0 i_30  = (1 : Int32) := by rw [f_X5_isRest_l30]
theorem f_X5_isRest_l30_s {now : Int32} {poles : Int32} {plain : Int32} {key : Int32} {stair : Int32} {air : Int32} {a1 : Int32} {a2 : Int32} {a3 : Int32} {a4 : Int32} {d_30 : Nat} {i_30 : Nat}  : f_X5_isRest_l30 now poles plain key stair air a1 a2 a3 a4 (d_30 + 1) i_30  = (if (f_X5_worth (f_X5_withChoices now poles plain key stair air a1 a3 a2 a4) a1) < (f_X5_worth (f_X5_withChoices now poles plain key stair air a1 (nI i_30) a2 a4) a1) then (0 : Int32) else (if (f_X5_worth (f_X5_withChoices now poles plain key stair air a1 a3 a2 (nI i_30)) a2) ≤ (f_X5_worth (f_X5_withChoices now poles plain key stair air a1 a3 a2 a4) a2) then (f_X5_isRest_l30 now poles plain key stair air a1 a2 a3 a4 d_30 (i_30 + 1) ) else (0 : Int32))) := by rw [f_X5_isRest_l30]
def f_X5_isRest (now : Int32) (poles : Int32) (plain : Int32) (key : Int32) (stair : Int32) (air : Int32) (a1 : Int32) (a2 : Int32) (a3 : Int32) (a4 : Int32) : Int32 := (f_X5_isRest_l30 now poles plain key stair air a1 a2 a3 a4 3 0 )
set_option maxHeartbeats 4000000 in
set_option maxRecDepth 100000 in
theorem c_X5_isRest (l : Launch) (D : va_G) (cI cZ : ClassId) (q : Nat → Nat) (now rains length poles parts plain key stair air acnt tcnt : Int32) (letters cells kinds frames rainsB abouts stoods kept keptF keptR : Nat → Int32) (seed : Int64) (a1 : Int32) (a2 : Int32) (a3 : Int32) (a4 : Int32) : RdI l yX5_isRest cX5_isRest 9 .boolean 5 120 D (tyL cI cZ) (XW cI cZ q now rains length poles parts plain key stair air acnt tcnt letters cells kinds frames rainsB abouts stoods kept keptF keptR seed) [.ref (q 0), .int a1, .int a2, .int a3, .int a4] (f_X5_isRest now poles plain key stair air a1 a2 a3 a4) := by
  refine RdI.of (by decide) (Nat.le_of_ble_eq_true rfl) ?_
  intro p e s m args below meth c Q hx hb hml hown hts hP hK fin ls hl
  have hown : s.vm.findClass RX5 = some m.cls := hown
  have hF : CallFix p m c cX5_isRest 9 s args tb RX5 := ⟨hx, hb, hml, hown, hts⟩
  have hl : lv_has ls 9 [(0, .ref (q 0)), (1, .int a1), (2, .int a2), (3, .int a3), (4, .int a4)] := hl
  generalize hR : (f_X5_isRest now poles plain key stair air a1 a2 a3 a4) = R at fin
  unfold f_X5_isRest at hR
  refine lv_aload_n hx hb dX5_isRest_0 rfl (lv_at hl 0 rfl) ?_
  refine lv_iload_n hx hb dX5_isRest_1 rfl (lv_at hl 1 rfl) ?_
  refine lv_iload_n hx hb dX5_isRest_2 rfl (lv_at hl 3 rfl) ?_
  refine lv_iload_n hx hb dX5_isRest_3 rfl (lv_at hl 2 rfl) ?_
  refine lv_iload hx hb dX5_isRest_4 (lv_at hl 4 rfl) ?_
  refine vRdI (b := (q 0)) (As := [.int a1, .int a3, .int a2, .int a4]) (rest := []) hF (c_X5_withChoices l D cI cZ q now rains length poles parts plain key stair air acnt tcnt letters cells kinds frames rainsB abouts stoods kept keptF keptR seed a1 a3 a2 a4) (gdV tm_2_188 tm_2_190 tp_5 tm_1_1 tm_2_191) de_X5_withChoices ⟨Nat.le_of_ble_eq_true rfl, Nat.le_of_ble_eq_true rfl⟩ hP hK (va_recv hK hP (ci := 4) (q0 := 0) rfl XW_0) hl.1 rfl (Nat.le_of_ble_eq_true rfl) dX5_isRest_6 ⟨Nat.zero_le _, Nat.zero_le _⟩ ?_
  refine lv_istore (lv' := [(5, .int (f_X5_withChoices now poles plain key stair air a1 a3 a2 a4)), (0, .ref (q 0)), (1, .int a1), (2, .int a2), (3, .int a3), (4, .int a4)]) hx hb dX5_isRest_9 hl (by decide) rfl (fun ls hl => ?_)
  refine lv_iload hx hb dX5_isRest_11 (lv_at hl 0 rfl) ?_
  refine lv_iload_n hx hb dX5_isRest_13 rfl (lv_at hl 2 rfl) ?_
  refine sRdI (As := [.int (f_X5_withChoices now poles plain key stair air a1 a3 a2 a4), .int a1]) (rest := []) hF (c_X5_worth l D cI cZ q (f_X5_withChoices now poles plain key stair air a1 a3 a2 a4) a1) (gdS tm_2_196 tm_2_197 tm_1_1 tm_2_198) de_X5_worth ⟨Nat.le_of_ble_eq_true rfl, Nat.le_of_ble_eq_true rfl⟩ va_P_nil hK hl.1 rfl (Nat.le_of_ble_eq_true rfl) dX5_isRest_14 ⟨Nat.zero_le _, Nat.zero_le _⟩ ?_
  refine lv_istore (lv' := [(6, .int (f_X5_worth (f_X5_withChoices now poles plain key stair air a1 a3 a2 a4) a1)), (5, .int (f_X5_withChoices now poles plain key stair air a1 a3 a2 a4)), (0, .ref (q 0)), (1, .int a1), (2, .int a2), (3, .int a3), (4, .int a4)]) hx hb dX5_isRest_17 hl (by decide) rfl (fun ls hl => ?_)
  refine lv_iload hx hb dX5_isRest_19 (lv_at hl 1 rfl) ?_
  refine lv_iload_n hx hb dX5_isRest_21 rfl (lv_at hl 4 rfl) ?_
  refine sRdI (As := [.int (f_X5_withChoices now poles plain key stair air a1 a3 a2 a4), .int a2]) (rest := []) hF (c_X5_worth l D cI cZ q (f_X5_withChoices now poles plain key stair air a1 a3 a2 a4) a2) (gdS tm_2_196 tm_2_197 tm_1_1 tm_2_198) de_X5_worth ⟨Nat.le_of_ble_eq_true rfl, Nat.le_of_ble_eq_true rfl⟩ va_P_nil hK hl.1 rfl (Nat.le_of_ble_eq_true rfl) dX5_isRest_22 ⟨Nat.zero_le _, Nat.zero_le _⟩ ?_
  refine lv_istore (lv' := [(7, .int (f_X5_worth (f_X5_withChoices now poles plain key stair air a1 a3 a2 a4) a2)), (6, .int (f_X5_worth (f_X5_withChoices now poles plain key stair air a1 a3 a2 a4) a1)), (5, .int (f_X5_withChoices now poles plain key stair air a1 a3 a2 a4)), (0, .ref (q 0)), (1, .int a1), (2, .int a2), (3, .int a3), (4, .int a4)]) hx hb dX5_isRest_25 hl (by decide) rfl (fun ls hl => ?_)
  refine lv_iconst (v := (0 : Int32)) hx hb dX5_isRest_27 (by decide) ?_
  refine lv_istore (lv' := [(8, .int (0 : Int32)), (7, .int (f_X5_worth (f_X5_withChoices now poles plain key stair air a1 a3 a2 a4) a2)), (6, .int (f_X5_worth (f_X5_withChoices now poles plain key stair air a1 a3 a2 a4) a1)), (5, .int (f_X5_withChoices now poles plain key stair air a1 a3 a2 a4)), (0, .ref (q 0)), (1, .int a1), (2, .int a2), (3, .int a3), (4, .int a4)]) hx hb dX5_isRest_28 hl (by decide) rfl (fun ls hl => ?_)
  have key_30 : ∀ (d_30 i_30 : Nat)  (ls : Array Slot), i_30 + d_30 = 3 → f_X5_isRest_l30 now poles plain key stair air a1 a2 a3 a4 d_30 i_30  = R → lv_has ls 9 [(8, .int (nI i_30)), (7, .int (f_X5_worth (f_X5_withChoices now poles plain key stair air a1 a3 a2 a4) a2)), (6, .int (f_X5_worth (f_X5_withChoices now poles plain key stair air a1 a3 a2 a4) a1)), (5, .int (f_X5_withChoices now poles plain key stair air a1 a3 a2 a4)), (0, .ref (q 0)), (1, .int a1), (2, .int a2), (3, .int a3), (4, .int a4)] → W p l e (rmO 5 120) s m args below meth c s.heap [] 0 0 Q (F0 m 30 ls []) := by
    intro d_30
    induction d_30 with
    | zero =>
      intro i_30 ls hi_30 hR hl
      rw [f_X5_isRest_l30_z] at hR
      refine lv_iload hx hb dX5_isRest_30 (lv_at hl 0 rfl) ?_
      refine lv_iconst (v := (3 : Int32)) hx hb dX5_isRest_32 (by decide) ?_
      refine lv_icmp_ge (tgt := 81) hx hb dX5_isRest_33 (by decide) (fun c_33 => ?_) (fun c_33 => absurd (nI_le (a := 3) (by omega) (by omega)) c_33)
      refine lv_iconst (v := (1 : Int32)) hx hb dX5_isRest_81 (by decide) ?_
      subst hR
      exact fin _ _ dX5_isRest_82 (nar_b (Or.inr rfl))
    | succ d_30 ih_30 =>
      intro i_30 ls hi_30 hR hl
      rw [f_X5_isRest_l30_s] at hR
      refine lv_iload hx hb dX5_isRest_30 (lv_at hl 0 rfl) ?_
      refine lv_iconst (v := (3 : Int32)) hx hb dX5_isRest_32 (by decide) ?_
      refine lv_icmp_ge (tgt := 81) hx hb dX5_isRest_33 (by decide) (fun c_33 => absurd c_33 (nI_ge (b := 3) (by omega) (by omega))) (fun c_33 => ?_)
      refine lv_aload_n hx hb dX5_isRest_36 rfl (lv_at hl 4 rfl) ?_
      refine lv_iload_n hx hb dX5_isRest_37 rfl (lv_at hl 5 rfl) ?_
      refine lv_iload hx hb dX5_isRest_38 (lv_at hl 0 rfl) ?_
      refine lv_iload_n hx hb dX5_isRest_40 rfl (lv_at hl 6 rfl) ?_
      refine lv_iload hx hb dX5_isRest_41 (lv_at hl 8 rfl) ?_
      refine vRdI (b := (q 0)) (As := [.int a1, .int (nI i_30), .int a2, .int a4]) (rest := []) hF (c_X5_withChoices l D cI cZ q now rains length poles parts plain key stair air acnt tcnt letters cells kinds frames rainsB abouts stoods kept keptF keptR seed a1 (nI i_30) a2 a4) (gdV tm_2_188 tm_2_190 tp_5 tm_1_1 tm_2_191) de_X5_withChoices ⟨Nat.le_of_ble_eq_true rfl, Nat.le_of_ble_eq_true rfl⟩ hP hK (va_recv hK hP (ci := 4) (q0 := 0) rfl XW_0) hl.1 rfl (Nat.le_of_ble_eq_true rfl) dX5_isRest_43 ⟨Nat.zero_le _, Nat.zero_le _⟩ ?_
      refine lv_iload_n hx hb dX5_isRest_46 rfl (lv_at hl 5 rfl) ?_
      refine sRdI (As := [.int (f_X5_withChoices now poles plain key stair air a1 (nI i_30) a2 a4), .int a1]) (rest := []) hF (c_X5_worth l D cI cZ q (f_X5_withChoices now poles plain key stair air a1 (nI i_30) a2 a4) a1) (gdS tm_2_196 tm_2_197 tm_1_1 tm_2_198) de_X5_worth ⟨Nat.le_of_ble_eq_true rfl, Nat.le_of_ble_eq_true rfl⟩ va_P_nil hK hl.1 rfl (Nat.le_of_ble_eq_true rfl) dX5_isRest_47 ⟨Nat.zero_le _, Nat.zero_le _⟩ ?_
      refine lv_iload hx hb dX5_isRest_50 (lv_at hl 2 rfl) ?_
      refine lv_icmp_gt (tgt := 73) hx hb dX5_isRest_52 (by decide) (fun c_52 => ?_) (fun c_52 => ?_)
      · rw [if_pos c_52] at hR
        refine lv_iconst (v := (0 : Int32)) hx hb dX5_isRest_73 (by decide) ?_
        subst hR
        exact fin _ _ dX5_isRest_74 (nar_b (Or.inl rfl))
      · rw [if_neg c_52] at hR
        refine lv_aload_n hx hb dX5_isRest_55 rfl (lv_at hl 4 rfl) ?_
        refine lv_iload_n hx hb dX5_isRest_56 rfl (lv_at hl 5 rfl) ?_
        refine lv_iload_n hx hb dX5_isRest_57 rfl (lv_at hl 7 rfl) ?_
        refine lv_iload_n hx hb dX5_isRest_58 rfl (lv_at hl 6 rfl) ?_
        refine lv_iload hx hb dX5_isRest_59 (lv_at hl 0 rfl) ?_
        refine vRdI (b := (q 0)) (As := [.int a1, .int a3, .int a2, .int (nI i_30)]) (rest := []) hF (c_X5_withChoices l D cI cZ q now rains length poles parts plain key stair air acnt tcnt letters cells kinds frames rainsB abouts stoods kept keptF keptR seed a1 a3 a2 (nI i_30)) (gdV tm_2_188 tm_2_190 tp_5 tm_1_1 tm_2_191) de_X5_withChoices ⟨Nat.le_of_ble_eq_true rfl, Nat.le_of_ble_eq_true rfl⟩ hP hK (va_recv hK hP (ci := 4) (q0 := 0) rfl XW_0) hl.1 rfl (Nat.le_of_ble_eq_true rfl) dX5_isRest_61 ⟨Nat.zero_le _, Nat.zero_le _⟩ ?_
        refine lv_iload_n hx hb dX5_isRest_64 rfl (lv_at hl 6 rfl) ?_
        refine sRdI (As := [.int (f_X5_withChoices now poles plain key stair air a1 a3 a2 (nI i_30)), .int a2]) (rest := []) hF (c_X5_worth l D cI cZ q (f_X5_withChoices now poles plain key stair air a1 a3 a2 (nI i_30)) a2) (gdS tm_2_196 tm_2_197 tm_1_1 tm_2_198) de_X5_worth ⟨Nat.le_of_ble_eq_true rfl, Nat.le_of_ble_eq_true rfl⟩ va_P_nil hK hl.1 rfl (Nat.le_of_ble_eq_true rfl) dX5_isRest_65 ⟨Nat.zero_le _, Nat.zero_le _⟩ ?_
        refine lv_iload hx hb dX5_isRest_68 (lv_at hl 1 rfl) ?_
        refine lv_icmp_le (tgt := 75) hx hb dX5_isRest_70 (by decide) (fun c_70 => ?_) (fun c_70 => ?_)
        · rw [if_pos c_70] at hR
          refine lv_iinc (v := (nI (i_30 + 1))) (lv' := [(8, .int (nI (i_30 + 1))), (7, .int (f_X5_worth (f_X5_withChoices now poles plain key stair air a1 a3 a2 a4) a2)), (6, .int (f_X5_worth (f_X5_withChoices now poles plain key stair air a1 a3 a2 a4) a1)), (5, .int (f_X5_withChoices now poles plain key stair air a1 a3 a2 a4)), (0, .ref (q 0)), (1, .int a1), (2, .int a2), (3, .int a3), (4, .int a4)]) hx hb dX5_isRest_75 hl (k := 0) rfl (nI_up i_30) (by decide) rfl (fun ls hl => ?_)
          refine lv_goto (tgt := 30) hx hb dX5_isRest_78 (by decide) ?_
          exact ih_30 (i_30 + 1)  ls (by omega) hR (lv_sub hl [0, 1, 2, 3, 4, 5, 6, 7, 8] rfl)
        · rw [if_neg c_70] at hR
          refine lv_iconst (v := (0 : Int32)) hx hb dX5_isRest_73 (by decide) ?_
          subst hR
          exact fin _ _ dX5_isRest_74 (nar_b (Or.inl rfl))
  exact key_30 3 0  ls (by omega) hR (lv_sub hl [0, 1, 2, 3, 4, 5, 6, 7, 8] rfl)
def f_X5_hadWithout_l10 (now : Int32) (a1 : Int32) : Nat → Nat → (Int32) → Int32
  | 0, i_10, po10 => po10
  | d_10 + 1, i_10, po10 => (if ((shr a1 (nI i_10)) &&& (1 : Int32)) = (1 : Int32) then (if (f_X2_canStrike now (nI i_10)) = (0 : Int32) then (f_X5_hadWithout_l10 now a1 d_10 (i_10 + 1) po10) else (f_X5_hadWithout_l10 now a1 d_10 (i_10 + 1) (po10 &&& ((f_X1_cellBit (nI i_10) ((f_X1_height now (nI i_10)) - (1 : Int32))) ^^^ (-1 : Int32))))) else (f_X5_hadWithout_l10 now a1 d_10 (i_10 + 1) po10))
theorem f_X5_hadWithout_l10_z {now : Int32} {a1 : Int32} {i_10 : Nat} {po10 : Int32} : f_X5_hadWithout_l10 now a1 0 i_10 po10 = po10 := by rw [f_X5_hadWithout_l10]
theorem f_X5_hadWithout_l10_s {now : Int32} {a1 : Int32} {d_10 : Nat} {i_10 : Nat} {po10 : Int32} : f_X5_hadWithout_l10 now a1 (d_10 + 1) i_10 po10 = (if ((shr a1 (nI i_10)) &&& (1 : Int32)) = (1 : Int32) then (if (f_X2_canStrike now (nI i_10)) = (0 : Int32) then (f_X5_hadWithout_l10 now a1 d_10 (i_10 + 1) po10) else (f_X5_hadWithout_l10 now a1 d_10 (i_10 + 1) (po10 &&& ((f_X1_cellBit (nI i_10) ((f_X1_height now (nI i_10)) - (1 : Int32))) ^^^ (-1 : Int32))))) else (f_X5_hadWithout_l10 now a1 d_10 (i_10 + 1) po10)) := by rw [f_X5_hadWithout_l10]
def f_X5_hadWithout (now : Int32) (plain : Int32) (key : Int32) (stair : Int32) (air : Int32) (a1 : Int32) : Int32 := (f_X2_standing plain key stair air (f_X1_had now) (f_X5_hadWithout_l10 now a1 4 0 (f_X1_poles now)))
set_option maxHeartbeats 4000000 in
set_option maxRecDepth 100000 in
theorem c_X5_hadWithout (l : Launch) (D : va_G) (cI cZ : ClassId) (q : Nat → Nat) (now rains length poles parts plain key stair air acnt tcnt : Int32) (letters cells kinds frames rainsB abouts stoods kept keptF keptR : Nat → Int32) (seed : Int64) (a1 : Int32) : RdI l yX5_hadWithout cX5_hadWithout 4 .int 3 63 D (tyL cI cZ) (XW cI cZ q now rains length poles parts plain key stair air acnt tcnt letters cells kinds frames rainsB abouts stoods kept keptF keptR seed) [.ref (q 0), .int a1] (f_X5_hadWithout now plain key stair air a1) := by
  refine RdI.of (by decide) (Nat.le_of_ble_eq_true rfl) ?_
  intro p e s m args below meth c Q hx hb hml hown hts hP hK fin ls hl
  have hown : s.vm.findClass RX5 = some m.cls := hown
  have hF : CallFix p m c cX5_hadWithout 4 s args tb RX5 := ⟨hx, hb, hml, hown, hts⟩
  have hl : lv_has ls 4 [(0, .ref (q 0)), (1, .int a1)] := hl
  generalize hR : (f_X5_hadWithout now plain key stair air a1) = R at fin
  unfold f_X5_hadWithout at hR
  refine lv_aload_n hx hb dX5_hadWithout_0 rfl (lv_at hl 0 rfl) ?_
  refine va_get (D := D) (ci := 4) (v := .int now) (C := RX5) (T := TX5) (N := 10) hx hb hts tbX5 hown hK hP 0 XW_0 rfl 7 (by decide) (hts _ tm_1_108) (fun _ h9 => h9) rfl dX5_hadWithout_1 ?_
  refine sRdI (As := [.int now]) (rest := []) hF (c_X1_poles l D cI cZ q now) (gdS tm_1_209 tm_1_196 tm_1_8 tm_1_197) de_X1_poles ⟨Nat.le_of_ble_eq_true rfl, Nat.le_of_ble_eq_true rfl⟩ va_P_nil hK hl.1 rfl (Nat.le_of_ble_eq_true rfl) dX5_hadWithout_4 ⟨Nat.zero_le _, Nat.zero_le _⟩ ?_
  refine lv_istore_n (lv' := [(2, .int (f_X1_poles now)), (0, .ref (q 0)), (1, .int a1)]) hx hb dX5_hadWithout_7 rfl hl (by decide) rfl (fun ls hl => ?_)
  refine lv_iconst (v := (0 : Int32)) hx hb dX5_hadWithout_8 (by decide) ?_
  refine lv_istore_n (lv' := [(3, .int (0 : Int32)), (2, .int (f_X1_poles now)), (0, .ref (q 0)), (1, .int a1)]) hx hb dX5_hadWithout_9 rfl hl (by decide) rfl (fun ls hl => ?_)
  obtain ⟨T_10, hT_10⟩ : ∃ z, f_X5_hadWithout_l10 now a1 4 0 (f_X1_poles now) = z := ⟨_, rfl⟩
  rw [hT_10] at hR
  have key_10 : ∀ (d_10 i_10 : Nat) (po10 : Int32) (ls : Array Slot), i_10 + d_10 = 4 → f_X5_hadWithout_l10 now a1 d_10 i_10 po10 = T_10 → lv_has ls 4 [(3, .int (nI i_10)), (2, .int po10), (0, .ref (q 0)), (1, .int a1)] → W p l e (rmO 3 63) s m args below meth c s.heap [] 0 0 Q (F0 m 10 ls []) := by
    intro d_10
    induction d_10 with
    | zero =>
      intro i_10 po10 ls hi_10 hT_10 hl
      rw [f_X5_hadWithout_l10_z] at hT_10
      refine lv_iload_n hx hb dX5_hadWithout_10 rfl (lv_at hl 0 rfl) ?_
      refine lv_iconst (v := (4 : Int32)) hx hb dX5_hadWithout_11 (by decide) ?_
      refine lv_icmp_ge (tgt := 64) hx hb dX5_hadWithout_12 (by decide) (fun c_12 => ?_) (fun c_12 => absurd (nI_le (a := 4) (by omega) (by omega)) c_12)
      subst hT_10
      try dsimp only at hR
      refine lv_aload_n hx hb dX5_hadWithout_64 rfl (lv_at hl 2 rfl) ?_
      refine va_get (D := D) (ci := 4) (v := .ref (q 2)) (C := RX5) (T := TX5) (N := 10) hx hb hts tbX5 hown hK hP 0 XW_0 rfl 1 (by decide) (hts _ tm_1_102) (fun _ h9 => h9) rfl dX5_hadWithout_65 ?_
      refine lv_aload_n hx hb dX5_hadWithout_68 rfl (lv_at hl 2 rfl) ?_
      refine va_get (D := D) (ci := 4) (v := .int now) (C := RX5) (T := TX5) (N := 10) hx hb hts tbX5 hown hK hP 0 XW_0 rfl 7 (by decide) (hts _ tm_1_108) (fun _ h9 => h9) rfl dX5_hadWithout_69 ?_
      refine sRdI (As := [.int now]) (rest := [.ref (q 2)]) hF (c_X1_had l D cI cZ q now) (gdS tm_1_211 tm_1_212 tm_1_8 tm_1_213) de_X1_had ⟨Nat.le_of_ble_eq_true rfl, Nat.le_of_ble_eq_true rfl⟩ va_P_nil hK hl.1 rfl (Nat.le_of_ble_eq_true rfl) dX5_hadWithout_72 ⟨Nat.zero_le _, Nat.zero_le _⟩ ?_
      refine lv_iload_n hx hb dX5_hadWithout_75 rfl (lv_at hl 1 rfl) ?_
      refine vRdI (b := (q 2)) (As := [.int (f_X1_had now), .int po10]) (rest := []) hF (c_X2_standing l D cI cZ q poles parts plain key stair air cells kinds (f_X1_had now) po10) (gdV tm_1_218 tm_1_219 tm_1_220 tm_1_3 tm_1_221) de_X2_standing ⟨Nat.le_of_ble_eq_true rfl, Nat.le_of_ble_eq_true rfl⟩ (XW_P hP) hK (va_recv hK hP (ci := 1) (q0 := 2) rfl XW_2) hl.1 rfl (Nat.le_of_ble_eq_true rfl) dX5_hadWithout_76 ⟨Nat.zero_le _, Nat.zero_le _⟩ ?_
      subst hR
      exact fin _ _ dX5_hadWithout_79 (nar_i _)
    | succ d_10 ih_10 =>
      intro i_10 po10 ls hi_10 hT_10 hl
      rw [f_X5_hadWithout_l10_s] at hT_10
      refine lv_iload_n hx hb dX5_hadWithout_10 rfl (lv_at hl 0 rfl) ?_
      refine lv_iconst (v := (4 : Int32)) hx hb dX5_hadWithout_11 (by decide) ?_
      refine lv_icmp_ge (tgt := 64) hx hb dX5_hadWithout_12 (by decide) (fun c_12 => absurd c_12 (nI_ge (b := 4) (by omega) (by omega))) (fun c_12 => ?_)
      refine lv_iload_n hx hb dX5_hadWithout_15 rfl (lv_at hl 3 rfl) ?_
      refine lv_iload_n hx hb dX5_hadWithout_16 rfl (lv_at hl 0 rfl) ?_
      refine lv_ishr hx hb dX5_hadWithout_17 ?_
      refine lv_rw (z := (shr a1 (nI i_10))) rfl ?_
      refine lv_iconst (v := (1 : Int32)) hx hb dX5_hadWithout_18 (by decide) ?_
      refine lv_iand hx hb dX5_hadWithout_19 ?_
      refine lv_iconst (v := (1 : Int32)) hx hb dX5_hadWithout_20 (by decide) ?_
      refine lv_icmp_ne (tgt := 58) hx hb dX5_hadWithout_21 (by decide) (fun c_21 => ?_) (fun c_21 => ?_)
      · rw [if_neg c_21] at hT_10
        refine lv_iinc (v := (nI (i_10 + 1))) (lv' := [(3, .int (nI (i_10 + 1))), (2, .int po10), (0, .ref (q 0)), (1, .int a1)]) hx hb dX5_hadWithout_58 hl (k := 0) rfl (nI_up i_10) (by decide) rfl (fun ls hl => ?_)
        refine lv_goto (tgt := 10) hx hb dX5_hadWithout_61 (by decide) ?_
        exact ih_10 (i_10 + 1) po10 ls (by omega) hT_10 (lv_sub hl [0, 1, 2, 3] rfl)
      · rw [if_pos c_21] at hT_10
        refine lv_aload_n hx hb dX5_hadWithout_24 rfl (lv_at hl 2 rfl) ?_
        refine va_get (D := D) (ci := 4) (v := .ref (q 2)) (C := RX5) (T := TX5) (N := 10) hx hb hts tbX5 hown hK hP 0 XW_0 rfl 1 (by decide) (hts _ tm_1_102) (fun _ h9 => h9) rfl dX5_hadWithout_25 ?_
        refine lv_aload_n hx hb dX5_hadWithout_28 rfl (lv_at hl 2 rfl) ?_
        refine va_get (D := D) (ci := 4) (v := .int now) (C := RX5) (T := TX5) (N := 10) hx hb hts tbX5 hown hK hP 0 XW_0 rfl 7 (by decide) (hts _ tm_1_108) (fun _ h9 => h9) rfl dX5_hadWithout_29 ?_
        refine lv_iload_n hx hb dX5_hadWithout_32 rfl (lv_at hl 0 rfl) ?_
        refine vRdI (b := (q 2)) (As := [.int now, .int (nI i_10)]) (rest := []) hF (c_X2_canStrike l D cI cZ q poles parts plain key stair air cells kinds now (nI i_10)) (gdV tm_2_56 tm_2_57 tm_2_58 tm_1_3 tm_2_59) de_X2_canStrike ⟨Nat.le_of_ble_eq_true rfl, Nat.le_of_ble_eq_true rfl⟩ (XW_P hP) hK (va_recv hK hP (ci := 1) (q0 := 2) rfl XW_2) hl.1 rfl (Nat.le_of_ble_eq_true rfl) dX5_hadWithout_33 ⟨Nat.zero_le _, Nat.zero_le _⟩ ?_
        refine lv_if_eq (tgt := 58) hx hb dX5_hadWithout_36 (by decide) (fun c_36 => ?_) (fun c_36 => ?_)
        · rw [if_pos c_36] at hT_10
          refine lv_iinc (v := (nI (i_10 + 1))) (lv' := [(3, .int (nI (i_10 + 1))), (2, .int po10), (0, .ref (q 0)), (1, .int a1)]) hx hb dX5_hadWithout_58 hl (k := 0) rfl (nI_up i_10) (by decide) rfl (fun ls hl => ?_)
          refine lv_goto (tgt := 10) hx hb dX5_hadWithout_61 (by decide) ?_
          exact ih_10 (i_10 + 1) po10 ls (by omega) hT_10 (lv_sub hl [0, 1, 2, 3] rfl)
        · rw [if_neg c_36] at hT_10
          refine lv_iload_n hx hb dX5_hadWithout_39 rfl (lv_at hl 1 rfl) ?_
          refine lv_iload_n hx hb dX5_hadWithout_40 rfl (lv_at hl 0 rfl) ?_
          refine lv_aload_n hx hb dX5_hadWithout_41 rfl (lv_at hl 2 rfl) ?_
          refine va_get (D := D) (ci := 4) (v := .int now) (C := RX5) (T := TX5) (N := 10) hx hb hts tbX5 hown hK hP 0 XW_0 rfl 7 (by decide) (hts _ tm_1_108) (fun _ h9 => h9) rfl dX5_hadWithout_42 ?_
          refine lv_iload_n hx hb dX5_hadWithout_45 rfl (lv_at hl 0 rfl) ?_
          refine sRdI (As := [.int now, .int (nI i_10)]) (rest := [.int (nI i_10), .int po10]) hF (c_X1_height l D cI cZ q now (nI i_10)) (gdS tm_2_11 tm_2_12 tm_1_8 tm_2_13) de_X1_height ⟨Nat.le_of_ble_eq_true rfl, Nat.le_of_ble_eq_true rfl⟩ va_P_nil hK hl.1 rfl (Nat.le_of_ble_eq_true rfl) dX5_hadWithout_46 ⟨Nat.zero_le _, Nat.zero_le _⟩ ?_
          refine lv_iconst (v := (1 : Int32)) hx hb dX5_hadWithout_49 (by decide) ?_
          refine lv_isub hx hb dX5_hadWithout_50 ?_
          refine sRdI (As := [.int (nI i_10), .int ((f_X1_height now (nI i_10)) - (1 : Int32))]) (rest := [.int po10]) hF (c_X1_cellBit l D cI cZ q (nI i_10) ((f_X1_height now (nI i_10)) - (1 : Int32))) (gdS tm_2_207 tm_2_42 tm_1_8 tm_2_43) de_X1_cellBit ⟨Nat.le_of_ble_eq_true rfl, Nat.le_of_ble_eq_true rfl⟩ va_P_nil hK hl.1 rfl (Nat.le_of_ble_eq_true rfl) dX5_hadWithout_51 ⟨Nat.zero_le _, Nat.zero_le _⟩ ?_
          refine lv_iconst (v := (-1 : Int32)) hx hb dX5_hadWithout_54 (by decide) ?_
          refine lv_ixor hx hb dX5_hadWithout_55 ?_
          refine lv_iand hx hb dX5_hadWithout_56 ?_
          refine lv_istore_n (lv' := [(2, .int (po10 &&& ((f_X1_cellBit (nI i_10) ((f_X1_height now (nI i_10)) - (1 : Int32))) ^^^ (-1 : Int32)))), (3, .int (nI i_10)), (0, .ref (q 0)), (1, .int a1)]) hx hb dX5_hadWithout_57 rfl hl (by decide) rfl (fun ls hl => ?_)
          refine lv_iinc (v := (nI (i_10 + 1))) (lv' := [(3, .int (nI (i_10 + 1))), (2, .int (po10 &&& ((f_X1_cellBit (nI i_10) ((f_X1_height now (nI i_10)) - (1 : Int32))) ^^^ (-1 : Int32)))), (0, .ref (q 0)), (1, .int a1)]) hx hb dX5_hadWithout_58 hl (k := 1) rfl (nI_up i_10) (by decide) rfl (fun ls hl => ?_)
          refine lv_goto (tgt := 10) hx hb dX5_hadWithout_61 (by decide) ?_
          exact ih_10 (i_10 + 1) (po10 &&& ((f_X1_cellBit (nI i_10) ((f_X1_height now (nI i_10)) - (1 : Int32))) ^^^ (-1 : Int32))) ls (by omega) hT_10 (lv_sub hl [0, 1, 2, 3] rfl)
  exact key_10 4 0 (f_X1_poles now) ls (by omega) hT_10 (lv_sub hl [0, 1, 2, 3] rfl)
def f_X5_weightOf_l5 (now : Int32) (a1 : Int32) (a2 : Int32) : Nat → Nat → (Int32) → Int32
  | 0, i_5, wt5 => wt5
  | d_5 + 1, i_5, wt5 => (if ((shr a1 (nI i_5)) &&& (1 : Int32)) = (1 : Int32) then (if (f_X2_canStrike now (nI i_5)) = (0 : Int32) then (0 : Int32) else (f_X5_weightOf_l5 now a1 a2 d_5 (i_5 + 1) (wt5 * a2))) else (if (f_X2_canStrike now (nI i_5)) = (0 : Int32) then (f_X5_weightOf_l5 now a1 a2 d_5 (i_5 + 1) wt5) else (f_X5_weightOf_l5 now a1 a2 d_5 (i_5 + 1) (wt5 * ((10 : Int32) - a2)))))
theorem f_X5_weightOf_l5_z {now : Int32} {a1 : Int32} {a2 : Int32} {i_5 : Nat} {wt5 : Int32} : f_X5_weightOf_l5 now a1 a2 0 i_5 wt5 = wt5 := by rw [f_X5_weightOf_l5]
theorem f_X5_weightOf_l5_s {now : Int32} {a1 : Int32} {a2 : Int32} {d_5 : Nat} {i_5 : Nat} {wt5 : Int32} : f_X5_weightOf_l5 now a1 a2 (d_5 + 1) i_5 wt5 = (if ((shr a1 (nI i_5)) &&& (1 : Int32)) = (1 : Int32) then (if (f_X2_canStrike now (nI i_5)) = (0 : Int32) then (0 : Int32) else (f_X5_weightOf_l5 now a1 a2 d_5 (i_5 + 1) (wt5 * a2))) else (if (f_X2_canStrike now (nI i_5)) = (0 : Int32) then (f_X5_weightOf_l5 now a1 a2 d_5 (i_5 + 1) wt5) else (f_X5_weightOf_l5 now a1 a2 d_5 (i_5 + 1) (wt5 * ((10 : Int32) - a2))))) := by rw [f_X5_weightOf_l5]
def f_X5_weightOf (now : Int32) (a1 : Int32) (a2 : Int32) : Int32 := (f_X5_weightOf_l5 now a1 a2 4 0 (1 : Int32))
set_option maxHeartbeats 4000000 in
set_option maxRecDepth 100000 in
theorem c_X5_weightOf (l : Launch) (D : va_G) (cI cZ : ClassId) (q : Nat → Nat) (now rains length poles parts plain key stair air acnt tcnt : Int32) (letters cells kinds frames rainsB abouts stoods kept keptF keptR : Nat → Int32) (seed : Int64) (a1 : Int32) (a2 : Int32) : RdI l yX5_weightOf cX5_weightOf 6 .int 3 63 D (tyL cI cZ) (XW cI cZ q now rains length poles parts plain key stair air acnt tcnt letters cells kinds frames rainsB abouts stoods kept keptF keptR seed) [.ref (q 0), .int a1, .int a2] (f_X5_weightOf now a1 a2) := by
  refine RdI.of (by decide) (Nat.le_of_ble_eq_true rfl) ?_
  intro p e s m args below meth c Q hx hb hml hown hts hP hK fin ls hl
  have hown : s.vm.findClass RX5 = some m.cls := hown
  have hF : CallFix p m c cX5_weightOf 6 s args tb RX5 := ⟨hx, hb, hml, hown, hts⟩
  have hl : lv_has ls 6 [(0, .ref (q 0)), (1, .int a1), (2, .int a2)] := hl
  generalize hR : (f_X5_weightOf now a1 a2) = R at fin
  unfold f_X5_weightOf at hR
  refine lv_iconst (v := (1 : Int32)) hx hb dX5_weightOf_0 (by decide) ?_
  refine lv_istore_n (lv' := [(3, .int (1 : Int32)), (0, .ref (q 0)), (1, .int a1), (2, .int a2)]) hx hb dX5_weightOf_1 rfl hl (by decide) rfl (fun ls hl => ?_)
  refine lv_iconst (v := (0 : Int32)) hx hb dX5_weightOf_2 (by decide) ?_
  refine lv_istore (lv' := [(4, .int (0 : Int32)), (3, .int (1 : Int32)), (0, .ref (q 0)), (1, .int a1), (2, .int a2)]) hx hb dX5_weightOf_3 hl (by decide) rfl (fun ls hl => ?_)
  have key_5 : ∀ (d_5 i_5 : Nat) (wt5 : Int32) (ls : Array Slot), i_5 + d_5 = 4 → f_X5_weightOf_l5 now a1 a2 d_5 i_5 wt5 = R → lv_has ls 6 [(4, .int (nI i_5)), (3, .int wt5), (0, .ref (q 0)), (1, .int a1), (2, .int a2)] → W p l e (rmO 3 63) s m args below meth c s.heap [] 0 0 Q (F0 m 5 ls []) := by
    intro d_5
    induction d_5 with
    | zero =>
      intro i_5 wt5 ls hi_5 hR hl
      rw [f_X5_weightOf_l5_z] at hR
      refine lv_iload hx hb dX5_weightOf_5 (lv_at hl 0 rfl) ?_
      refine lv_iconst (v := (4 : Int32)) hx hb dX5_weightOf_7 (by decide) ?_
      refine lv_icmp_ge (tgt := 76) hx hb dX5_weightOf_8 (by decide) (fun c_8 => ?_) (fun c_8 => absurd (nI_le (a := 4) (by omega) (by omega)) c_8)
      refine lv_iload_n hx hb dX5_weightOf_76 rfl (lv_at hl 1 rfl) ?_
      subst hR
      exact fin _ _ dX5_weightOf_77 (nar_i _)
    | succ d_5 ih_5 =>
      intro i_5 wt5 ls hi_5 hR hl
      rw [f_X5_weightOf_l5_s] at hR
      refine lv_iload hx hb dX5_weightOf_5 (lv_at hl 0 rfl) ?_
      refine lv_iconst (v := (4 : Int32)) hx hb dX5_weightOf_7 (by decide) ?_
      refine lv_icmp_ge (tgt := 76) hx hb dX5_weightOf_8 (by decide) (fun c_8 => absurd c_8 (nI_ge (b := 4) (by omega) (by omega))) (fun c_8 => ?_)
      refine lv_iload_n hx hb dX5_weightOf_11 rfl (lv_at hl 3 rfl) ?_
      refine lv_iload hx hb dX5_weightOf_12 (lv_at hl 0 rfl) ?_
      refine lv_ishr hx hb dX5_weightOf_14 ?_
      refine lv_rw (z := (shr a1 (nI i_5))) rfl ?_
      refine lv_iconst (v := (1 : Int32)) hx hb dX5_weightOf_15 (by decide) ?_
      refine lv_iand hx hb dX5_weightOf_16 ?_
      refine lv_iconst (v := (1 : Int32)) hx hb dX5_weightOf_17 (by decide) ?_
      refine lv_icmp_ne (tgt := 25) hx hb dX5_weightOf_18 (by decide) (fun c_18 => ?_) (fun c_18 => ?_)
      · rw [if_neg c_18] at hR
        refine lv_iconst (v := (0 : Int32)) hx hb dX5_weightOf_25 (by decide) ?_
        refine lv_istore (lv' := [(5, .int (0 : Int32)), (4, .int (nI i_5)), (3, .int wt5), (0, .ref (q 0)), (1, .int a1), (2, .int a2)]) hx hb dX5_weightOf_26 hl (by decide) rfl (fun ls hl => ?_)
        refine lv_aload_n hx hb dX5_weightOf_28 rfl (lv_at hl 3 rfl) ?_
        refine va_get (D := D) (ci := 4) (v := .ref (q 2)) (C := RX5) (T := TX5) (N := 10) hx hb hts tbX5 hown hK hP 0 XW_0 rfl 1 (by decide) (hts _ tm_1_102) (fun _ h9 => h9) rfl dX5_weightOf_29 ?_
        refine lv_aload_n hx hb dX5_weightOf_32 rfl (lv_at hl 3 rfl) ?_
        refine va_get (D := D) (ci := 4) (v := .int now) (C := RX5) (T := TX5) (N := 10) hx hb hts tbX5 hown hK hP 0 XW_0 rfl 7 (by decide) (hts _ tm_1_108) (fun _ h9 => h9) rfl dX5_weightOf_33 ?_
        refine lv_iload hx hb dX5_weightOf_36 (lv_at hl 1 rfl) ?_
        refine vRdI (b := (q 2)) (As := [.int now, .int (nI i_5)]) (rest := []) hF (c_X2_canStrike l D cI cZ q poles parts plain key stair air cells kinds now (nI i_5)) (gdV tm_2_56 tm_2_57 tm_2_58 tm_1_3 tm_2_59) de_X2_canStrike ⟨Nat.le_of_ble_eq_true rfl, Nat.le_of_ble_eq_true rfl⟩ (XW_P hP) hK (va_recv hK hP (ci := 1) (q0 := 2) rfl XW_2) hl.1 rfl (Nat.le_of_ble_eq_true rfl) dX5_weightOf_38 ⟨Nat.zero_le _, Nat.zero_le _⟩ ?_
        refine lv_if_eq (tgt := 63) hx hb dX5_weightOf_41 (by decide) (fun c_41 => ?_) (fun c_41 => ?_)
        · rw [if_pos c_41] at hR
          refine lv_iload hx hb dX5_weightOf_63 (lv_at hl 0 rfl) ?_
          refine lv_if_eq (tgt := 70) hx hb dX5_weightOf_65 (by decide) (fun c_65 => ?_) (fun c_65 => absurd (by decide) c_65)
          refine lv_iinc (v := (nI (i_5 + 1))) (lv' := [(4, .int (nI (i_5 + 1))), (5, .int (0 : Int32)), (3, .int wt5), (0, .ref (q 0)), (1, .int a1), (2, .int a2)]) hx hb dX5_weightOf_70 hl (k := 1) rfl (nI_up i_5) (by decide) rfl (fun ls hl => ?_)
          refine lv_goto (tgt := 5) hx hb dX5_weightOf_73 (by decide) ?_
          exact ih_5 (i_5 + 1) wt5 ls (by omega) hR (lv_sub hl [0, 2, 3, 4, 5] rfl)
        · rw [if_neg c_41] at hR
          refine lv_iload_n hx hb dX5_weightOf_44 rfl (lv_at hl 2 rfl) ?_
          refine lv_iload hx hb dX5_weightOf_45 (lv_at hl 0 rfl) ?_
          refine lv_if_eq (tgt := 54) hx hb dX5_weightOf_47 (by decide) (fun c_47 => ?_) (fun c_47 => absurd (by decide) c_47)
          refine lv_bipush (v := (10 : Int32)) hx hb dX5_weightOf_54 (by decide) ?_
          refine lv_iload_n hx hb dX5_weightOf_56 rfl (lv_at hl 5 rfl) ?_
          refine lv_isub hx hb dX5_weightOf_57 ?_
          refine lv_imul hx hb dX5_weightOf_58 ?_
          refine lv_istore_n (lv' := [(3, .int (wt5 * ((10 : Int32) - a2))), (5, .int (0 : Int32)), (4, .int (nI i_5)), (0, .ref (q 0)), (1, .int a1), (2, .int a2)]) hx hb dX5_weightOf_59 rfl hl (by decide) rfl (fun ls hl => ?_)
          refine lv_goto (tgt := 70) hx hb dX5_weightOf_60 (by decide) ?_
          refine lv_iinc (v := (nI (i_5 + 1))) (lv' := [(4, .int (nI (i_5 + 1))), (3, .int (wt5 * ((10 : Int32) - a2))), (5, .int (0 : Int32)), (0, .ref (q 0)), (1, .int a1), (2, .int a2)]) hx hb dX5_weightOf_70 hl (k := 2) rfl (nI_up i_5) (by decide) rfl (fun ls hl => ?_)
          refine lv_goto (tgt := 5) hx hb dX5_weightOf_73 (by decide) ?_
          exact ih_5 (i_5 + 1) (wt5 * ((10 : Int32) - a2)) ls (by omega) hR (lv_sub hl [0, 1, 3, 4, 5] rfl)
      · rw [if_pos c_18] at hR
        refine lv_iconst (v := (1 : Int32)) hx hb dX5_weightOf_21 (by decide) ?_
        refine lv_goto (tgt := 26) hx hb dX5_weightOf_22 (by decide) ?_
        refine lv_istore (lv' := [(5, .int (1 : Int32)), (4, .int (nI i_5)), (3, .int wt5), (0, .ref (q 0)), (1, .int a1), (2, .int a2)]) hx hb dX5_weightOf_26 hl (by decide) rfl (fun ls hl => ?_)
        refine lv_aload_n hx hb dX5_weightOf_28 rfl (lv_at hl 3 rfl) ?_
        refine va_get (D := D) (ci := 4) (v := .ref (q 2)) (C := RX5) (T := TX5) (N := 10) hx hb hts tbX5 hown hK hP 0 XW_0 rfl 1 (by decide) (hts _ tm_1_102) (fun _ h9 => h9) rfl dX5_weightOf_29 ?_
        refine lv_aload_n hx hb dX5_weightOf_32 rfl (lv_at hl 3 rfl) ?_
        refine va_get (D := D) (ci := 4) (v := .int now) (C := RX5) (T := TX5) (N := 10) hx hb hts tbX5 hown hK hP 0 XW_0 rfl 7 (by decide) (hts _ tm_1_108) (fun _ h9 => h9) rfl dX5_weightOf_33 ?_
        refine lv_iload hx hb dX5_weightOf_36 (lv_at hl 1 rfl) ?_
        refine vRdI (b := (q 2)) (As := [.int now, .int (nI i_5)]) (rest := []) hF (c_X2_canStrike l D cI cZ q poles parts plain key stair air cells kinds now (nI i_5)) (gdV tm_2_56 tm_2_57 tm_2_58 tm_1_3 tm_2_59) de_X2_canStrike ⟨Nat.le_of_ble_eq_true rfl, Nat.le_of_ble_eq_true rfl⟩ (XW_P hP) hK (va_recv hK hP (ci := 1) (q0 := 2) rfl XW_2) hl.1 rfl (Nat.le_of_ble_eq_true rfl) dX5_weightOf_38 ⟨Nat.zero_le _, Nat.zero_le _⟩ ?_
        refine lv_if_eq (tgt := 63) hx hb dX5_weightOf_41 (by decide) (fun c_41 => ?_) (fun c_41 => ?_)
        · rw [if_pos c_41] at hR
          refine lv_iload hx hb dX5_weightOf_63 (lv_at hl 0 rfl) ?_
          refine lv_if_eq (tgt := 70) hx hb dX5_weightOf_65 (by decide) (fun c_65 => absurd c_65 (by decide)) (fun c_65 => ?_)
          refine lv_iconst (v := (0 : Int32)) hx hb dX5_weightOf_68 (by decide) ?_
          subst hR
          exact fin _ _ dX5_weightOf_69 (nar_i _)
        · rw [if_neg c_41] at hR
          refine lv_iload_n hx hb dX5_weightOf_44 rfl (lv_at hl 2 rfl) ?_
          refine lv_iload hx hb dX5_weightOf_45 (lv_at hl 0 rfl) ?_
          refine lv_if_eq (tgt := 54) hx hb dX5_weightOf_47 (by decide) (fun c_47 => absurd c_47 (by decide)) (fun c_47 => ?_)
          refine lv_iload_n hx hb dX5_weightOf_50 rfl (lv_at hl 5 rfl) ?_
          refine lv_goto (tgt := 58) hx hb dX5_weightOf_51 (by decide) ?_
          refine lv_imul hx hb dX5_weightOf_58 ?_
          refine lv_istore_n (lv' := [(3, .int (wt5 * a2)), (5, .int (1 : Int32)), (4, .int (nI i_5)), (0, .ref (q 0)), (1, .int a1), (2, .int a2)]) hx hb dX5_weightOf_59 rfl hl (by decide) rfl (fun ls hl => ?_)
          refine lv_goto (tgt := 70) hx hb dX5_weightOf_60 (by decide) ?_
          refine lv_iinc (v := (nI (i_5 + 1))) (lv' := [(4, .int (nI (i_5 + 1))), (3, .int (wt5 * a2)), (5, .int (1 : Int32)), (0, .ref (q 0)), (1, .int a1), (2, .int a2)]) hx hb dX5_weightOf_70 hl (k := 2) rfl (nI_up i_5) (by decide) rfl (fun ls hl => ?_)
          refine lv_goto (tgt := 5) hx hb dX5_weightOf_73 (by decide) ?_
          exact ih_5 (i_5 + 1) (wt5 * a2) ls (by omega) hR (lv_sub hl [0, 1, 3, 4, 5] rfl)
  exact key_5 4 0 (1 : Int32) ls (by omega) hR (lv_sub hl [0, 1, 2, 3, 4] rfl)
