theorem de_X2_learn : deOK yX2_learn 1 := by decide +kernel
def f_X2_learn_l27 (length : Int32) (letters : Nat → Int32) : Nat → Nat → (Nat → Int32) → (Nat → Int32) → (Nat → Int32) × (Nat → Int32)
  | 0, i_27, ces, kis => (ces, kis)
  | d_27 + 1, i_27, ces, kis => (if (if (7 : Int32) < (f_X3_parts length) then (7 : Int32) else (f_X3_parts length)) ≤ (nI i_27) then (f_X2_learn_l27 length letters d_27 (i_27 + 1) (upd ces i_27 (-9 : Int32)) (upd kis i_27 (0 : Int32))) else (f_X2_learn_l27 length letters d_27 (i_27 + 1) (upd ces i_27 (f_X3_cellOfPart length letters (nI i_27))) (upd kis i_27 (f_X3_kindOfPart length letters (nI i_27)))))
theorem f_X2_learn_l27_z {length : Int32} {letters : Nat → Int32} {i_27 : Nat} {ces : Nat → Int32} {kis : Nat → Int32} : f_X2_learn_l27 length letters 0 i_27 ces kis = (ces, kis) := by rw [f_X2_learn_l27]
theorem f_X2_learn_l27_s {length : Int32} {letters : Nat → Int32} {d_27 : Nat} {i_27 : Nat} {ces : Nat → Int32} {kis : Nat → Int32} : f_X2_learn_l27 length letters (d_27 + 1) i_27 ces kis = (if (if (7 : Int32) < (f_X3_parts length) then (7 : Int32) else (f_X3_parts length)) ≤ (nI i_27) then (f_X2_learn_l27 length letters d_27 (i_27 + 1) (upd ces i_27 (-9 : Int32)) (upd kis i_27 (0 : Int32))) else (f_X2_learn_l27 length letters d_27 (i_27 + 1) (upd ces i_27 (f_X3_cellOfPart length letters (nI i_27))) (upd kis i_27 (f_X3_kindOfPart length letters (nI i_27))))) := by rw [f_X2_learn_l27]
def f_X2_learn (length : Int32) (letters : Nat → Int32) (cells : Nat → Int32) (kinds : Nat → Int32) : (Int32) × (Int32) × (Int32) × (Int32) × (Int32) × (Int32) × (Nat → Int32) × (Nat → Int32) := (((f_X3_letterAt length letters (1 : Int32)) - (48 : Int32)), (if (7 : Int32) < (f_X3_parts length) then (7 : Int32) else (f_X3_parts length)), (f_X2_cellsOfKind (f_X2_learn_l27 length letters 7 0 cells kinds).1 (f_X2_learn_l27 length letters 7 0 cells kinds).2 (0 : Int32)), (f_X2_cellsOfKind (f_X2_learn_l27 length letters 7 0 cells kinds).1 (f_X2_learn_l27 length letters 7 0 cells kinds).2 (1 : Int32)), (f_X2_cellsOfKind (f_X2_learn_l27 length letters 7 0 cells kinds).1 (f_X2_learn_l27 length letters 7 0 cells kinds).2 (2 : Int32)), (f_X2_cellsOfKind (f_X2_learn_l27 length letters 7 0 cells kinds).1 (f_X2_learn_l27 length letters 7 0 cells kinds).2 (3 : Int32)), (f_X2_learn_l27 length letters 7 0 cells kinds).1, (f_X2_learn_l27 length letters 7 0 cells kinds).2)
set_option maxHeartbeats 4000000 in
set_option maxRecDepth 100000 in
theorem c_X2_learn (l : Launch) (D : va_G) (cI cZ : ClassId) (q : Nat → Nat) (now rains length poles parts plain key stair air acnt tcnt : Int32) (letters cells kinds frames rainsB abouts stoods kept keptF keptR : Nat → Int32) (seed : Int64) : WrV l yX2_learn cX2_learn 4 2 42 D (tyL cI cZ) (XW cI cZ q now rains length poles parts plain key stair air acnt tcnt letters cells kinds frames rainsB abouts stoods kept keptF keptR seed) [.ref (q 2), .ref (q 1)] (XW cI cZ q now rains length (f_X2_learn length letters cells kinds).1 (f_X2_learn length letters cells kinds).2.1 (f_X2_learn length letters cells kinds).2.2.1 (f_X2_learn length letters cells kinds).2.2.2.1 (f_X2_learn length letters cells kinds).2.2.2.2.1 (f_X2_learn length letters cells kinds).2.2.2.2.2.1 acnt tcnt letters (f_X2_learn length letters cells kinds).2.2.2.2.2.2.1 (f_X2_learn length letters cells kinds).2.2.2.2.2.2.2 frames rainsB abouts stoods kept keptF keptR seed) := by
  refine WrV.of (by decide) (Nat.le_of_ble_eq_true rfl) ?_
  intro p e s m args below meth c Q A hx hb hml hown hts hP hK hD hS fin ls hl
  have hown : s.vm.findClass RX2 = some m.cls := hown
  have hF : CallFix p m c cX2_learn 4 s args tb RX2 := ⟨hx, hb, hml, hown, hts⟩
  have hl : lv_has ls 4 [(0, .ref (q 2)), (1, .ref (q 1))] := hl
  generalize hR : (f_X2_learn length letters cells kinds) = R at fin
  unfold f_X2_learn at hR
  refine lv_aload_n hx hb dX2_learn_0 rfl (lv_at hl 0 rfl) ?_
  refine lv_aload_n hx hb dX2_learn_1 rfl (lv_at hl 1 rfl) ?_
  refine lv_iconst (v := (1 : Int32)) hx hb dX2_learn_2 (by decide) ?_
  refine vRdI (b := (q 1)) (As := [.int (1 : Int32)]) (rest := [.ref (q 2)]) hF (c_X3_letterAt l D cI cZ q length letters (1 : Int32)) (gdV tm_1_167 tm_1_153 tm_1_154 tm_1_2 tm_1_155) de_X3_letterAt ⟨Nat.le_of_ble_eq_true rfl, Nat.le_of_ble_eq_true rfl⟩ (XW_T hP) hK (va_recv hK hP (ci := 2) (q0 := 1) rfl XW_1) hl.1 rfl (Nat.le_of_ble_eq_true rfl) dX2_learn_3 ⟨Nat.zero_le _, Nat.zero_le _⟩ ?_
  refine lv_bipush (v := (48 : Int32)) hx hb dX2_learn_6 (by decide) ?_
  refine lv_isub hx hb dX2_learn_8 ?_
  refine va_put (D := D) (ci := 1) (v := .int ((f_X3_letterAt length letters (1 : Int32)) - (48 : Int32))) (ty := .int) (C := RX2) (T := TX2) (N := 8) hx hb hts tbX2 tyX2 tyX2_ok nmX2 hown hK hP hD hS 2 XW_2 rfl 2 (by decide) (hts _ tm_1_41) (fun _ h9 => h9) rfl (by decide +kernel) rfl rfl (Nat.le_of_ble_eq_true rfl) dX2_learn_9 (fun H locs hP hD hS => ?_)
  have hP : va_P D vwCl (XW cI cZ q now rains length ((f_X3_letterAt length letters (1 : Int32)) - (48 : Int32)) parts plain key stair air acnt tcnt letters cells kinds frames rainsB abouts stoods kept keptF keptR seed) H := hP
  have hD : va_D A (XW cI cZ q now rains length ((f_X3_letterAt length letters (1 : Int32)) - (48 : Int32)) parts plain key stair air acnt tcnt letters cells kinds frames rainsB abouts stoods kept keptF keptR seed) := hD.same rfl
  refine lv_aload_n hx hb dX2_learn_12 rfl (lv_at hl 0 rfl) ?_
  refine lv_aload_n hx hb dX2_learn_13 rfl (lv_at hl 1 rfl) ?_
  refine vRdI (b := (q 1)) (As := []) (rest := [.ref (q 2)]) hF (c_X3_parts l D cI cZ q length letters) (gdV tm_1_168 tm_1_169 tm_1_170 tm_1_2 tm_1_171) de_X3_parts ⟨Nat.le_of_ble_eq_true rfl, Nat.le_of_ble_eq_true rfl⟩ (XW_T hP) hK (va_recv hK hP (ci := 2) (q0 := 1) rfl XW_1) hl.1 rfl (Nat.le_of_ble_eq_true rfl) dX2_learn_14 ⟨Nat.zero_le _, Nat.zero_le _⟩ ?_
  refine lv_bipush (v := (7 : Int32)) hx hb dX2_learn_17 (by decide) ?_
  refine va_mmin hx hb (by rw [hml]; exact hl.1.symm) hown (hts _ tm_1_172) (hts _ tm_1_173) (hts _ tm_1_7) (hts _ tm_1_174) (Nat.le_of_ble_eq_true rfl) (Nat.le_of_ble_eq_true rfl) (Nat.zero_le _) (Nat.zero_le _) dX2_learn_19 ?_
  refine va_put (D := D) (ci := 1) (v := .int (if (7 : Int32) < (f_X3_parts length) then (7 : Int32) else (f_X3_parts length))) (ty := .int) (C := RX2) (T := TX2) (N := 8) hx hb hts tbX2 tyX2 tyX2_ok nmX2 hown hK hP hD hS 2 XW_2 rfl 3 (by decide) (hts _ tm_1_43) (fun _ h9 => h9) rfl (by decide +kernel) rfl rfl (Nat.le_of_ble_eq_true rfl) dX2_learn_22 (fun H locs hP hD hS => ?_)
  have hP : va_P D vwCl (XW cI cZ q now rains length ((f_X3_letterAt length letters (1 : Int32)) - (48 : Int32)) (if (7 : Int32) < (f_X3_parts length) then (7 : Int32) else (f_X3_parts length)) plain key stair air acnt tcnt letters cells kinds frames rainsB abouts stoods kept keptF keptR seed) H := hP
  have hD : va_D A (XW cI cZ q now rains length ((f_X3_letterAt length letters (1 : Int32)) - (48 : Int32)) (if (7 : Int32) < (f_X3_parts length) then (7 : Int32) else (f_X3_parts length)) plain key stair air acnt tcnt letters cells kinds frames rainsB abouts stoods kept keptF keptR seed) := hD.same rfl
  refine lv_iconst (v := (0 : Int32)) hx hb dX2_learn_25 (by decide) ?_
  refine lv_istore_n (lv' := [(2, .int (0 : Int32)), (0, .ref (q 2)), (1, .ref (q 1))]) hx hb dX2_learn_26 rfl hl (by decide) rfl (fun ls hl => ?_)
  obtain ⟨T_27, hT_27⟩ : ∃ z, f_X2_learn_l27 length letters 7 0 cells kinds = z := ⟨_, rfl⟩
  rw [hT_27] at hR
  have key_27 : ∀ (d_27 i_27 : Nat) (ces : Nat → Int32) (kis : Nat → Int32) (ls : Array Slot) (H : Heap) (locs : List Loc), i_27 + d_27 = 7 → f_X2_learn_l27 length letters d_27 i_27 ces kis = T_27 → lv_has ls 4 [(2, .int (nI i_27)), (0, .ref (q 2)), (1, .ref (q 1))] → va_P D vwCl (XW cI cZ q now rains length ((f_X3_letterAt length letters (1 : Int32)) - (48 : Int32)) (if (7 : Int32) < (f_X3_parts length) then (7 : Int32) else (f_X3_parts length)) plain key stair air acnt tcnt letters ces kis frames rainsB abouts stoods kept keptF keptR seed) H → va_S A s.heap H locs → W p l e (rmO 2 42) s m args below meth c H locs 0 0 Q (F0 m 27 ls []) := by
    intro d_27
    induction d_27 with
    | zero =>
      intro i_27 ces kis ls H locs hi_27 hT_27 hl hP hS
      have hD : va_D A (XW cI cZ q now rains length ((f_X3_letterAt length letters (1 : Int32)) - (48 : Int32)) (if (7 : Int32) < (f_X3_parts length) then (7 : Int32) else (f_X3_parts length)) plain key stair air acnt tcnt letters ces kis frames rainsB abouts stoods kept keptF keptR seed) := hD.same rfl
      rw [f_X2_learn_l27_z] at hT_27
      refine lv_iload_n hx hb dX2_learn_27 rfl (lv_at hl 0 rfl) ?_
      refine lv_bipush (v := (7 : Int32)) hx hb dX2_learn_28 (by decide) ?_
      refine lv_icmp_ge (tgt := 92) hx hb dX2_learn_30 (by decide) (fun c_30 => ?_) (fun c_30 => absurd (nI_le (a := 7) (by omega) (by omega)) c_30)
      subst hT_27
      try dsimp only at hR
      refine lv_aload_n hx hb dX2_learn_92 rfl (lv_at hl 1 rfl) ?_
      refine lv_aload_n hx hb dX2_learn_93 rfl (lv_at hl 1 rfl) ?_
      refine lv_iconst (v := (0 : Int32)) hx hb dX2_learn_94 (by decide) ?_
      refine vRdI (b := (q 2)) (As := [.int (0 : Int32)]) (rest := [.ref (q 2)]) hF (c_X2_cellsOfKind l D cI cZ q ((f_X3_letterAt length letters (1 : Int32)) - (48 : Int32)) (if (7 : Int32) < (f_X3_parts length) then (7 : Int32) else (f_X3_parts length)) plain key stair air ces kis (0 : Int32)) (gdV tm_1_183 tm_1_184 tm_1_185 tm_1_3 tm_1_186) de_X2_cellsOfKind ⟨Nat.le_of_ble_eq_true rfl, Nat.le_of_ble_eq_true rfl⟩ (XW_P hP) hK (va_recv hK hP (ci := 1) (q0 := 2) rfl XW_2) hl.1 rfl (Nat.le_of_ble_eq_true rfl) dX2_learn_95 ⟨Nat.zero_le _, Nat.zero_le _⟩ ?_
      refine va_put (D := D) (ci := 1) (v := .int (f_X2_cellsOfKind ces kis (0 : Int32))) (ty := .int) (C := RX2) (T := TX2) (N := 8) hx hb hts tbX2 tyX2 tyX2_ok nmX2 hown hK hP hD hS 2 XW_2 rfl 4 (by decide) (hts _ tm_1_45) (fun _ h9 => h9) rfl (by decide +kernel) rfl rfl (Nat.le_of_ble_eq_true rfl) dX2_learn_98 (fun H locs hP hD hS => ?_)
      have hP : va_P D vwCl (XW cI cZ q now rains length ((f_X3_letterAt length letters (1 : Int32)) - (48 : Int32)) (if (7 : Int32) < (f_X3_parts length) then (7 : Int32) else (f_X3_parts length)) (f_X2_cellsOfKind ces kis (0 : Int32)) key stair air acnt tcnt letters ces kis frames rainsB abouts stoods kept keptF keptR seed) H := hP
      have hD : va_D A (XW cI cZ q now rains length ((f_X3_letterAt length letters (1 : Int32)) - (48 : Int32)) (if (7 : Int32) < (f_X3_parts length) then (7 : Int32) else (f_X3_parts length)) (f_X2_cellsOfKind ces kis (0 : Int32)) key stair air acnt tcnt letters ces kis frames rainsB abouts stoods kept keptF keptR seed) := hD.same rfl
      refine lv_aload_n hx hb dX2_learn_101 rfl (lv_at hl 1 rfl) ?_
      refine lv_aload_n hx hb dX2_learn_102 rfl (lv_at hl 1 rfl) ?_
      refine lv_iconst (v := (1 : Int32)) hx hb dX2_learn_103 (by decide) ?_
      refine vRdI (b := (q 2)) (As := [.int (1 : Int32)]) (rest := [.ref (q 2)]) hF (c_X2_cellsOfKind l D cI cZ q ((f_X3_letterAt length letters (1 : Int32)) - (48 : Int32)) (if (7 : Int32) < (f_X3_parts length) then (7 : Int32) else (f_X3_parts length)) (f_X2_cellsOfKind ces kis (0 : Int32)) key stair air ces kis (1 : Int32)) (gdV tm_1_183 tm_1_184 tm_1_185 tm_1_3 tm_1_186) de_X2_cellsOfKind ⟨Nat.le_of_ble_eq_true rfl, Nat.le_of_ble_eq_true rfl⟩ (XW_P hP) hK (va_recv hK hP (ci := 1) (q0 := 2) rfl XW_2) hl.1 rfl (Nat.le_of_ble_eq_true rfl) dX2_learn_104 ⟨Nat.zero_le _, Nat.zero_le _⟩ ?_
      refine va_put (D := D) (ci := 1) (v := .int (f_X2_cellsOfKind ces kis (1 : Int32))) (ty := .int) (C := RX2) (T := TX2) (N := 8) hx hb hts tbX2 tyX2 tyX2_ok nmX2 hown hK hP hD hS 2 XW_2 rfl 5 (by decide) (hts _ tm_1_46) (fun _ h9 => h9) rfl (by decide +kernel) rfl rfl (Nat.le_of_ble_eq_true rfl) dX2_learn_107 (fun H locs hP hD hS => ?_)
      have hP : va_P D vwCl (XW cI cZ q now rains length ((f_X3_letterAt length letters (1 : Int32)) - (48 : Int32)) (if (7 : Int32) < (f_X3_parts length) then (7 : Int32) else (f_X3_parts length)) (f_X2_cellsOfKind ces kis (0 : Int32)) (f_X2_cellsOfKind ces kis (1 : Int32)) stair air acnt tcnt letters ces kis frames rainsB abouts stoods kept keptF keptR seed) H := hP
      have hD : va_D A (XW cI cZ q now rains length ((f_X3_letterAt length letters (1 : Int32)) - (48 : Int32)) (if (7 : Int32) < (f_X3_parts length) then (7 : Int32) else (f_X3_parts length)) (f_X2_cellsOfKind ces kis (0 : Int32)) (f_X2_cellsOfKind ces kis (1 : Int32)) stair air acnt tcnt letters ces kis frames rainsB abouts stoods kept keptF keptR seed) := hD.same rfl
      refine lv_aload_n hx hb dX2_learn_110 rfl (lv_at hl 1 rfl) ?_
      refine lv_aload_n hx hb dX2_learn_111 rfl (lv_at hl 1 rfl) ?_
      refine lv_iconst (v := (2 : Int32)) hx hb dX2_learn_112 (by decide) ?_
      refine vRdI (b := (q 2)) (As := [.int (2 : Int32)]) (rest := [.ref (q 2)]) hF (c_X2_cellsOfKind l D cI cZ q ((f_X3_letterAt length letters (1 : Int32)) - (48 : Int32)) (if (7 : Int32) < (f_X3_parts length) then (7 : Int32) else (f_X3_parts length)) (f_X2_cellsOfKind ces kis (0 : Int32)) (f_X2_cellsOfKind ces kis (1 : Int32)) stair air ces kis (2 : Int32)) (gdV tm_1_183 tm_1_184 tm_1_185 tm_1_3 tm_1_186) de_X2_cellsOfKind ⟨Nat.le_of_ble_eq_true rfl, Nat.le_of_ble_eq_true rfl⟩ (XW_P hP) hK (va_recv hK hP (ci := 1) (q0 := 2) rfl XW_2) hl.1 rfl (Nat.le_of_ble_eq_true rfl) dX2_learn_113 ⟨Nat.zero_le _, Nat.zero_le _⟩ ?_
      refine va_put (D := D) (ci := 1) (v := .int (f_X2_cellsOfKind ces kis (2 : Int32))) (ty := .int) (C := RX2) (T := TX2) (N := 8) hx hb hts tbX2 tyX2 tyX2_ok nmX2 hown hK hP hD hS 2 XW_2 rfl 6 (by decide) (hts _ tm_1_47) (fun _ h9 => h9) rfl (by decide +kernel) rfl rfl (Nat.le_of_ble_eq_true rfl) dX2_learn_116 (fun H locs hP hD hS => ?_)
      have hP : va_P D vwCl (XW cI cZ q now rains length ((f_X3_letterAt length letters (1 : Int32)) - (48 : Int32)) (if (7 : Int32) < (f_X3_parts length) then (7 : Int32) else (f_X3_parts length)) (f_X2_cellsOfKind ces kis (0 : Int32)) (f_X2_cellsOfKind ces kis (1 : Int32)) (f_X2_cellsOfKind ces kis (2 : Int32)) air acnt tcnt letters ces kis frames rainsB abouts stoods kept keptF keptR seed) H := hP
      have hD : va_D A (XW cI cZ q now rains length ((f_X3_letterAt length letters (1 : Int32)) - (48 : Int32)) (if (7 : Int32) < (f_X3_parts length) then (7 : Int32) else (f_X3_parts length)) (f_X2_cellsOfKind ces kis (0 : Int32)) (f_X2_cellsOfKind ces kis (1 : Int32)) (f_X2_cellsOfKind ces kis (2 : Int32)) air acnt tcnt letters ces kis frames rainsB abouts stoods kept keptF keptR seed) := hD.same rfl
      refine lv_aload_n hx hb dX2_learn_119 rfl (lv_at hl 1 rfl) ?_
      refine lv_aload_n hx hb dX2_learn_120 rfl (lv_at hl 1 rfl) ?_
      refine lv_iconst (v := (3 : Int32)) hx hb dX2_learn_121 (by decide) ?_
      refine vRdI (b := (q 2)) (As := [.int (3 : Int32)]) (rest := [.ref (q 2)]) hF (c_X2_cellsOfKind l D cI cZ q ((f_X3_letterAt length letters (1 : Int32)) - (48 : Int32)) (if (7 : Int32) < (f_X3_parts length) then (7 : Int32) else (f_X3_parts length)) (f_X2_cellsOfKind ces kis (0 : Int32)) (f_X2_cellsOfKind ces kis (1 : Int32)) (f_X2_cellsOfKind ces kis (2 : Int32)) air ces kis (3 : Int32)) (gdV tm_1_183 tm_1_184 tm_1_185 tm_1_3 tm_1_186) de_X2_cellsOfKind ⟨Nat.le_of_ble_eq_true rfl, Nat.le_of_ble_eq_true rfl⟩ (XW_P hP) hK (va_recv hK hP (ci := 1) (q0 := 2) rfl XW_2) hl.1 rfl (Nat.le_of_ble_eq_true rfl) dX2_learn_122 ⟨Nat.zero_le _, Nat.zero_le _⟩ ?_
      refine va_put (D := D) (ci := 1) (v := .int (f_X2_cellsOfKind ces kis (3 : Int32))) (ty := .int) (C := RX2) (T := TX2) (N := 8) hx hb hts tbX2 tyX2 tyX2_ok nmX2 hown hK hP hD hS 2 XW_2 rfl 7 (by decide) (hts _ tm_1_48) (fun _ h9 => h9) rfl (by decide +kernel) rfl rfl (Nat.le_of_ble_eq_true rfl) dX2_learn_125 (fun H locs hP hD hS => ?_)
      have hP : va_P D vwCl (XW cI cZ q now rains length ((f_X3_letterAt length letters (1 : Int32)) - (48 : Int32)) (if (7 : Int32) < (f_X3_parts length) then (7 : Int32) else (f_X3_parts length)) (f_X2_cellsOfKind ces kis (0 : Int32)) (f_X2_cellsOfKind ces kis (1 : Int32)) (f_X2_cellsOfKind ces kis (2 : Int32)) (f_X2_cellsOfKind ces kis (3 : Int32)) acnt tcnt letters ces kis frames rainsB abouts stoods kept keptF keptR seed) H := hP
      have hD : va_D A (XW cI cZ q now rains length ((f_X3_letterAt length letters (1 : Int32)) - (48 : Int32)) (if (7 : Int32) < (f_X3_parts length) then (7 : Int32) else (f_X3_parts length)) (f_X2_cellsOfKind ces kis (0 : Int32)) (f_X2_cellsOfKind ces kis (1 : Int32)) (f_X2_cellsOfKind ces kis (2 : Int32)) (f_X2_cellsOfKind ces kis (3 : Int32)) acnt tcnt letters ces kis frames rainsB abouts stoods kept keptF keptR seed) := hD.same rfl
      subst hR
      exact fin _ _ _ _ dX2_learn_128 hP hS
    | succ d_27 ih_27 =>
      intro i_27 ces kis ls H locs hi_27 hT_27 hl hP hS
      have hD : va_D A (XW cI cZ q now rains length ((f_X3_letterAt length letters (1 : Int32)) - (48 : Int32)) (if (7 : Int32) < (f_X3_parts length) then (7 : Int32) else (f_X3_parts length)) plain key stair air acnt tcnt letters ces kis frames rainsB abouts stoods kept keptF keptR seed) := hD.same rfl
      rw [f_X2_learn_l27_s] at hT_27
      refine lv_iload_n hx hb dX2_learn_27 rfl (lv_at hl 0 rfl) ?_
      refine lv_bipush (v := (7 : Int32)) hx hb dX2_learn_28 (by decide) ?_
      refine lv_icmp_ge (tgt := 92) hx hb dX2_learn_30 (by decide) (fun c_30 => absurd c_30 (nI_ge (b := 7) (by omega) (by omega))) (fun c_30 => ?_)
      refine lv_iload_n hx hb dX2_learn_33 rfl (lv_at hl 0 rfl) ?_
      refine lv_aload_n hx hb dX2_learn_34 rfl (lv_at hl 1 rfl) ?_
      refine va_get (D := D) (ci := 1) (v := .int (if (7 : Int32) < (f_X3_parts length) then (7 : Int32) else (f_X3_parts length))) (C := RX2) (T := TX2) (N := 8) hx hb hts tbX2 hown hK hP 2 XW_2 rfl 3 (by decide) (hts _ tm_1_43) (fun _ h9 => h9) rfl dX2_learn_35 ?_
      refine lv_icmp_ge (tgt := 45) hx hb dX2_learn_38 (by decide) (fun c_38 => ?_) (fun c_38 => ?_)
      · rw [if_pos c_38] at hT_27
        refine lv_iconst (v := (0 : Int32)) hx hb dX2_learn_45 (by decide) ?_
        refine lv_istore_n (lv' := [(3, .int (0 : Int32)), (2, .int (nI i_27)), (0, .ref (q 2)), (1, .ref (q 1))]) hx hb dX2_learn_46 rfl hl (by decide) rfl (fun ls hl => ?_)
        refine lv_aload_n hx hb dX2_learn_47 rfl (lv_at hl 2 rfl) ?_
        refine va_get (D := D) (ci := 1) (v := .ref (q 6)) (C := RX2) (T := TX2) (N := 8) hx hb hts tbX2 hown hK hP 2 XW_2 rfl 0 (by decide) (hts _ tm_1_39) (fun _ h9 => h9) rfl dX2_learn_48 ?_
        refine lv_iload_n hx hb dX2_learn_51 rfl (lv_at hl 1 rfl) ?_
        refine lv_iload_n hx hb dX2_learn_52 rfl (lv_at hl 0 rfl) ?_
        refine lv_if_eq (tgt := 64) hx hb dX2_learn_53 (by decide) (fun c_53 => ?_) (fun c_53 => absurd (by decide) c_53)
        refine lv_bipush (v := (-9 : Int32)) hx hb dX2_learn_64 (by decide) ?_
        refine va_iast hx hb hK hP hD hS 6 0 XW_6 rfl (vp_in_nI (show i_27 < 7 by omega) (by omega)) dX2_learn_66 (fun H locs hP hD hS => ?_)
        have hP : va_P D vwCl (XW cI cZ q now rains length ((f_X3_letterAt length letters (1 : Int32)) - (48 : Int32)) (if (7 : Int32) < (f_X3_parts length) then (7 : Int32) else (f_X3_parts length)) plain key stair air acnt tcnt letters (upd ces (nI i_27).toNatClampNeg (-9 : Int32)) kis frames rainsB abouts stoods kept keptF keptR seed) H := hP
        rw [(nI_clamp (show i_27 < 2 ^ 31 by omega))] at hP
        have hD : va_D A (XW cI cZ q now rains length ((f_X3_letterAt length letters (1 : Int32)) - (48 : Int32)) (if (7 : Int32) < (f_X3_parts length) then (7 : Int32) else (f_X3_parts length)) plain key stair air acnt tcnt letters (upd ces i_27 (-9 : Int32)) kis frames rainsB abouts stoods kept keptF keptR seed) := hD.same rfl
        refine lv_aload_n hx hb dX2_learn_67 rfl (lv_at hl 2 rfl) ?_
        refine va_get (D := D) (ci := 1) (v := .ref (q 7)) (C := RX2) (T := TX2) (N := 8) hx hb hts tbX2 hown hK hP 2 XW_2 rfl 1 (by decide) (hts _ tm_1_40) (fun _ h9 => h9) rfl dX2_learn_68 ?_
        refine lv_iload_n hx hb dX2_learn_71 rfl (lv_at hl 1 rfl) ?_
        refine lv_iload_n hx hb dX2_learn_72 rfl (lv_at hl 0 rfl) ?_
        refine lv_if_eq (tgt := 84) hx hb dX2_learn_73 (by decide) (fun c_73 => ?_) (fun c_73 => absurd (by decide) c_73)
        refine lv_iconst (v := (0 : Int32)) hx hb dX2_learn_84 (by decide) ?_
        refine va_iast hx hb hK hP hD hS 7 0 XW_7 rfl (vp_in_nI (show i_27 < 7 by omega) (by omega)) dX2_learn_85 (fun H locs hP hD hS => ?_)
        have hP : va_P D vwCl (XW cI cZ q now rains length ((f_X3_letterAt length letters (1 : Int32)) - (48 : Int32)) (if (7 : Int32) < (f_X3_parts length) then (7 : Int32) else (f_X3_parts length)) plain key stair air acnt tcnt letters (upd ces i_27 (-9 : Int32)) (upd kis (nI i_27).toNatClampNeg (0 : Int32)) frames rainsB abouts stoods kept keptF keptR seed) H := hP
        rw [(nI_clamp (show i_27 < 2 ^ 31 by omega))] at hP
        have hD : va_D A (XW cI cZ q now rains length ((f_X3_letterAt length letters (1 : Int32)) - (48 : Int32)) (if (7 : Int32) < (f_X3_parts length) then (7 : Int32) else (f_X3_parts length)) plain key stair air acnt tcnt letters (upd ces i_27 (-9 : Int32)) (upd kis i_27 (0 : Int32)) frames rainsB abouts stoods kept keptF keptR seed) := hD.same rfl
        refine lv_iinc (v := (nI (i_27 + 1))) (lv' := [(2, .int (nI (i_27 + 1))), (3, .int (0 : Int32)), (0, .ref (q 2)), (1, .ref (q 1))]) hx hb dX2_learn_86 hl (k := 1) rfl (nI_up i_27) (by decide) rfl (fun ls hl => ?_)
        refine lv_goto (tgt := 27) hx hb dX2_learn_89 (by decide) ?_
        exact ih_27 (i_27 + 1) (upd ces i_27 (-9 : Int32)) (upd kis i_27 (0 : Int32)) ls _ _ (by omega) hT_27 (lv_sub hl [0, 2, 3] rfl) hP hS
      · rw [if_neg c_38] at hT_27
        refine lv_iconst (v := (1 : Int32)) hx hb dX2_learn_41 (by decide) ?_
        refine lv_goto (tgt := 46) hx hb dX2_learn_42 (by decide) ?_
        refine lv_istore_n (lv' := [(3, .int (1 : Int32)), (2, .int (nI i_27)), (0, .ref (q 2)), (1, .ref (q 1))]) hx hb dX2_learn_46 rfl hl (by decide) rfl (fun ls hl => ?_)
        refine lv_aload_n hx hb dX2_learn_47 rfl (lv_at hl 2 rfl) ?_
        refine va_get (D := D) (ci := 1) (v := .ref (q 6)) (C := RX2) (T := TX2) (N := 8) hx hb hts tbX2 hown hK hP 2 XW_2 rfl 0 (by decide) (hts _ tm_1_39) (fun _ h9 => h9) rfl dX2_learn_48 ?_
        refine lv_iload_n hx hb dX2_learn_51 rfl (lv_at hl 1 rfl) ?_
        refine lv_iload_n hx hb dX2_learn_52 rfl (lv_at hl 0 rfl) ?_
        refine lv_if_eq (tgt := 64) hx hb dX2_learn_53 (by decide) (fun c_53 => absurd c_53 (by decide)) (fun c_53 => ?_)
        refine lv_aload_n hx hb dX2_learn_56 rfl (lv_at hl 3 rfl) ?_
        refine lv_iload_n hx hb dX2_learn_57 rfl (lv_at hl 1 rfl) ?_
        refine vRdI (b := (q 1)) (As := [.int (nI i_27)]) (rest := [.int (nI i_27), .ref (q 6)]) hF (c_X3_cellOfPart l D cI cZ q length letters (nI i_27)) (gdV tm_1_175 tm_1_176 tm_1_177 tm_1_2 tm_1_178) de_X3_cellOfPart ⟨Nat.le_of_ble_eq_true rfl, Nat.le_of_ble_eq_true rfl⟩ (XW_T hP) hK (va_recv hK hP (ci := 2) (q0 := 1) rfl XW_1) hl.1 rfl (Nat.le_of_ble_eq_true rfl) dX2_learn_58 ⟨Nat.zero_le _, Nat.zero_le _⟩ ?_
        refine lv_goto (tgt := 66) hx hb dX2_learn_61 (by decide) ?_
        refine va_iast hx hb hK hP hD hS 6 0 XW_6 rfl (vp_in_nI (show i_27 < 7 by omega) (by omega)) dX2_learn_66 (fun H locs hP hD hS => ?_)
        have hP : va_P D vwCl (XW cI cZ q now rains length ((f_X3_letterAt length letters (1 : Int32)) - (48 : Int32)) (if (7 : Int32) < (f_X3_parts length) then (7 : Int32) else (f_X3_parts length)) plain key stair air acnt tcnt letters (upd ces (nI i_27).toNatClampNeg (f_X3_cellOfPart length letters (nI i_27))) kis frames rainsB abouts stoods kept keptF keptR seed) H := hP
        rw [(nI_clamp (show i_27 < 2 ^ 31 by omega))] at hP
        have hD : va_D A (XW cI cZ q now rains length ((f_X3_letterAt length letters (1 : Int32)) - (48 : Int32)) (if (7 : Int32) < (f_X3_parts length) then (7 : Int32) else (f_X3_parts length)) plain key stair air acnt tcnt letters (upd ces i_27 (f_X3_cellOfPart length letters (nI i_27))) kis frames rainsB abouts stoods kept keptF keptR seed) := hD.same rfl
        refine lv_aload_n hx hb dX2_learn_67 rfl (lv_at hl 2 rfl) ?_
        refine va_get (D := D) (ci := 1) (v := .ref (q 7)) (C := RX2) (T := TX2) (N := 8) hx hb hts tbX2 hown hK hP 2 XW_2 rfl 1 (by decide) (hts _ tm_1_40) (fun _ h9 => h9) rfl dX2_learn_68 ?_
        refine lv_iload_n hx hb dX2_learn_71 rfl (lv_at hl 1 rfl) ?_
        refine lv_iload_n hx hb dX2_learn_72 rfl (lv_at hl 0 rfl) ?_
        refine lv_if_eq (tgt := 84) hx hb dX2_learn_73 (by decide) (fun c_73 => absurd c_73 (by decide)) (fun c_73 => ?_)
        refine lv_aload_n hx hb dX2_learn_76 rfl (lv_at hl 3 rfl) ?_
        refine lv_iload_n hx hb dX2_learn_77 rfl (lv_at hl 1 rfl) ?_
        refine vRdI (b := (q 1)) (As := [.int (nI i_27)]) (rest := [.int (nI i_27), .ref (q 7)]) hF (c_X3_kindOfPart l D cI cZ q length letters (nI i_27)) (gdV tm_1_179 tm_1_180 tm_1_181 tm_1_2 tm_1_182) de_X3_kindOfPart ⟨Nat.le_of_ble_eq_true rfl, Nat.le_of_ble_eq_true rfl⟩ (XW_T hP) hK (va_recv hK hP (ci := 2) (q0 := 1) rfl XW_1) hl.1 rfl (Nat.le_of_ble_eq_true rfl) dX2_learn_78 ⟨Nat.zero_le _, Nat.zero_le _⟩ ?_
        refine lv_goto (tgt := 85) hx hb dX2_learn_81 (by decide) ?_
        refine va_iast hx hb hK hP hD hS 7 0 XW_7 rfl (vp_in_nI (show i_27 < 7 by omega) (by omega)) dX2_learn_85 (fun H locs hP hD hS => ?_)
        have hP : va_P D vwCl (XW cI cZ q now rains length ((f_X3_letterAt length letters (1 : Int32)) - (48 : Int32)) (if (7 : Int32) < (f_X3_parts length) then (7 : Int32) else (f_X3_parts length)) plain key stair air acnt tcnt letters (upd ces i_27 (f_X3_cellOfPart length letters (nI i_27))) (upd kis (nI i_27).toNatClampNeg (f_X3_kindOfPart length letters (nI i_27))) frames rainsB abouts stoods kept keptF keptR seed) H := hP
        rw [(nI_clamp (show i_27 < 2 ^ 31 by omega))] at hP
        have hD : va_D A (XW cI cZ q now rains length ((f_X3_letterAt length letters (1 : Int32)) - (48 : Int32)) (if (7 : Int32) < (f_X3_parts length) then (7 : Int32) else (f_X3_parts length)) plain key stair air acnt tcnt letters (upd ces i_27 (f_X3_cellOfPart length letters (nI i_27))) (upd kis i_27 (f_X3_kindOfPart length letters (nI i_27))) frames rainsB abouts stoods kept keptF keptR seed) := hD.same rfl
        refine lv_iinc (v := (nI (i_27 + 1))) (lv' := [(2, .int (nI (i_27 + 1))), (3, .int (1 : Int32)), (0, .ref (q 2)), (1, .ref (q 1))]) hx hb dX2_learn_86 hl (k := 1) rfl (nI_up i_27) (by decide) rfl (fun ls hl => ?_)
        refine lv_goto (tgt := 27) hx hb dX2_learn_89 (by decide) ?_
        exact ih_27 (i_27 + 1) (upd ces i_27 (f_X3_cellOfPart length letters (nI i_27))) (upd kis i_27 (f_X3_kindOfPart length letters (nI i_27))) ls _ _ (by omega) hT_27 (lv_sub hl [0, 2, 3] rfl) hP hS
  exact key_27 7 0 cells kinds ls _ _ (by omega) hT_27 (lv_sub hl [0, 1, 2] rfl) hP hS
