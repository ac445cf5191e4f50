theorem de_J6_bitCount_0f7a4 : deOK yJ6_bitCount_0f7a4 1 := by decide +kernel
theorem de_X1_of : deOK yX1_of 2 := by decide +kernel
theorem de_X1_poles : deOK yX1_poles 1 := by decide +kernel
theorem de_X1_had : deOK yX1_had 1 := by decide +kernel
theorem de_X1_countHad : deOK yX1_countHad 1 := by decide +kernel
theorem de_X1_height : deOK yX1_height 2 := by decide +kernel
theorem de_X1_cellBit : deOK yX1_cellBit 2 := by decide +kernel
def f_J6_bitCount (a1 : Int32) : Int32 := ((((((((a1 - ((ush a1 (1 : Int32)) &&& (1431655765 : Int32))) &&& (858993459 : Int32)) + ((ush (a1 - ((ush a1 (1 : Int32)) &&& (1431655765 : Int32))) (2 : Int32)) &&& (858993459 : Int32))) + (ush (((a1 - ((ush a1 (1 : Int32)) &&& (1431655765 : Int32))) &&& (858993459 : Int32)) + ((ush (a1 - ((ush a1 (1 : Int32)) &&& (1431655765 : Int32))) (2 : Int32)) &&& (858993459 : Int32))) (4 : Int32))) &&& (252645135 : Int32)) + (ush (((((a1 - ((ush a1 (1 : Int32)) &&& (1431655765 : Int32))) &&& (858993459 : Int32)) + ((ush (a1 - ((ush a1 (1 : Int32)) &&& (1431655765 : Int32))) (2 : Int32)) &&& (858993459 : Int32))) + (ush (((a1 - ((ush a1 (1 : Int32)) &&& (1431655765 : Int32))) &&& (858993459 : Int32)) + ((ush (a1 - ((ush a1 (1 : Int32)) &&& (1431655765 : Int32))) (2 : Int32)) &&& (858993459 : Int32))) (4 : Int32))) &&& (252645135 : Int32)) (8 : Int32))) + (ush ((((((a1 - ((ush a1 (1 : Int32)) &&& (1431655765 : Int32))) &&& (858993459 : Int32)) + ((ush (a1 - ((ush a1 (1 : Int32)) &&& (1431655765 : Int32))) (2 : Int32)) &&& (858993459 : Int32))) + (ush (((a1 - ((ush a1 (1 : Int32)) &&& (1431655765 : Int32))) &&& (858993459 : Int32)) + ((ush (a1 - ((ush a1 (1 : Int32)) &&& (1431655765 : Int32))) (2 : Int32)) &&& (858993459 : Int32))) (4 : Int32))) &&& (252645135 : Int32)) + (ush (((((a1 - ((ush a1 (1 : Int32)) &&& (1431655765 : Int32))) &&& (858993459 : Int32)) + ((ush (a1 - ((ush a1 (1 : Int32)) &&& (1431655765 : Int32))) (2 : Int32)) &&& (858993459 : Int32))) + (ush (((a1 - ((ush a1 (1 : Int32)) &&& (1431655765 : Int32))) &&& (858993459 : Int32)) + ((ush (a1 - ((ush a1 (1 : Int32)) &&& (1431655765 : Int32))) (2 : Int32)) &&& (858993459 : Int32))) (4 : Int32))) &&& (252645135 : Int32)) (8 : Int32))) (16 : Int32))) &&& (63 : Int32))
set_option maxHeartbeats 4000000 in
set_option maxRecDepth 100000 in
theorem c_J6_bitCount (l : Launch) (D : va_G) (cI cZ : ClassId) (q : Nat → Nat) (a1 : Int32) : RdI l yJ6_bitCount_0f7a4 cJ6_bitCount_0f7a4 1 .int 0 0 D (tyL cI cZ) [] [.int a1] (f_J6_bitCount a1) := by
  refine RdI.of (by decide) (Nat.le_of_ble_eq_true rfl) ?_
  intro p e s m args below meth c Q hx hb hml hown hts hP hK fin ls hl
  have hown : s.vm.findClass RJ6 = some m.cls := hown
  have hF : CallFix p m c cJ6_bitCount_0f7a4 1 s args tb RJ6 := ⟨hx, hb, hml, hown, hts⟩
  have hl : lv_has ls 1 [(0, .int a1)] := hl
  generalize hR : (f_J6_bitCount a1) = R at fin
  unfold f_J6_bitCount at hR
  refine lv_iload_n hx hb dJ6_bitCount_0f7a4_0 rfl (lv_at hl 0 rfl) ?_
  refine lv_iload_n hx hb dJ6_bitCount_0f7a4_1 rfl (lv_at hl 0 rfl) ?_
  refine lv_iconst (v := (1 : Int32)) hx hb dJ6_bitCount_0f7a4_2 (by decide) ?_
  refine lv_iushr (v := (ush a1 (1 : Int32))) hx hb dJ6_bitCount_0f7a4_3 rfl ?_
  refine lv_ldcw (v := (1431655765 : Int32)) hx hb hown (hts _ tm_1_202) dJ6_bitCount_0f7a4_4 ?_
  refine lv_iand hx hb dJ6_bitCount_0f7a4_7 ?_
  refine lv_isub hx hb dJ6_bitCount_0f7a4_8 ?_
  refine lv_istore_n (lv' := [(0, .int (a1 - ((ush a1 (1 : Int32)) &&& (1431655765 : Int32))))]) hx hb dJ6_bitCount_0f7a4_9 rfl hl (by decide) rfl (fun ls hl => ?_)
  refine lv_iload_n hx hb dJ6_bitCount_0f7a4_10 rfl (lv_at hl 0 rfl) ?_
  refine lv_ldcw (v := (858993459 : Int32)) hx hb hown (hts _ tm_1_203) dJ6_bitCount_0f7a4_11 ?_
  refine lv_iand hx hb dJ6_bitCount_0f7a4_14 ?_
  refine lv_iload_n hx hb dJ6_bitCount_0f7a4_15 rfl (lv_at hl 0 rfl) ?_
  refine lv_iconst (v := (2 : Int32)) hx hb dJ6_bitCount_0f7a4_16 (by decide) ?_
  refine lv_iushr (v := (ush (a1 - ((ush a1 (1 : Int32)) &&& (1431655765 : Int32))) (2 : Int32))) hx hb dJ6_bitCount_0f7a4_17 rfl ?_
  refine lv_ldcw (v := (858993459 : Int32)) hx hb hown (hts _ tm_1_203) dJ6_bitCount_0f7a4_18 ?_
  refine lv_iand hx hb dJ6_bitCount_0f7a4_21 ?_
  refine lv_iadd hx hb dJ6_bitCount_0f7a4_22 ?_
  refine lv_istore_n (lv' := [(0, .int (((a1 - ((ush a1 (1 : Int32)) &&& (1431655765 : Int32))) &&& (858993459 : Int32)) + ((ush (a1 - ((ush a1 (1 : Int32)) &&& (1431655765 : Int32))) (2 : Int32)) &&& (858993459 : Int32))))]) hx hb dJ6_bitCount_0f7a4_23 rfl hl (by decide) rfl (fun ls hl => ?_)
  refine lv_iload_n hx hb dJ6_bitCount_0f7a4_24 rfl (lv_at hl 0 rfl) ?_
  refine lv_iload_n hx hb dJ6_bitCount_0f7a4_25 rfl (lv_at hl 0 rfl) ?_
  refine lv_iconst (v := (4 : Int32)) hx hb dJ6_bitCount_0f7a4_26 (by decide) ?_
  refine lv_iushr (v := (ush (((a1 - ((ush a1 (1 : Int32)) &&& (1431655765 : Int32))) &&& (858993459 : Int32)) + ((ush (a1 - ((ush a1 (1 : Int32)) &&& (1431655765 : Int32))) (2 : Int32)) &&& (858993459 : Int32))) (4 : Int32))) hx hb dJ6_bitCount_0f7a4_27 rfl ?_
  refine lv_iadd hx hb dJ6_bitCount_0f7a4_28 ?_
  refine lv_ldcw (v := (252645135 : Int32)) hx hb hown (hts _ tm_1_204) dJ6_bitCount_0f7a4_29 ?_
  refine lv_iand hx hb dJ6_bitCount_0f7a4_32 ?_
  refine lv_istore_n (lv' := [(0, .int (((((a1 - ((ush a1 (1 : Int32)) &&& (1431655765 : Int32))) &&& (858993459 : Int32)) + ((ush (a1 - ((ush a1 (1 : Int32)) &&& (1431655765 : Int32))) (2 : Int32)) &&& (858993459 : Int32))) + (ush (((a1 - ((ush a1 (1 : Int32)) &&& (1431655765 : Int32))) &&& (858993459 : Int32)) + ((ush (a1 - ((ush a1 (1 : Int32)) &&& (1431655765 : Int32))) (2 : Int32)) &&& (858993459 : Int32))) (4 : Int32))) &&& (252645135 : Int32)))]) hx hb dJ6_bitCount_0f7a4_33 rfl hl (by decide) rfl (fun ls hl => ?_)
  refine lv_iload_n hx hb dJ6_bitCount_0f7a4_34 rfl (lv_at hl 0 rfl) ?_
  refine lv_iload_n hx hb dJ6_bitCount_0f7a4_35 rfl (lv_at hl 0 rfl) ?_
  refine lv_bipush (v := (8 : Int32)) hx hb dJ6_bitCount_0f7a4_36 (by decide) ?_
  refine lv_iushr (v := (ush (((((a1 - ((ush a1 (1 : Int32)) &&& (1431655765 : Int32))) &&& (858993459 : Int32)) + ((ush (a1 - ((ush a1 (1 : Int32)) &&& (1431655765 : Int32))) (2 : Int32)) &&& (858993459 : Int32))) + (ush (((a1 - ((ush a1 (1 : Int32)) &&& (1431655765 : Int32))) &&& (858993459 : Int32)) + ((ush (a1 - ((ush a1 (1 : Int32)) &&& (1431655765 : Int32))) (2 : Int32)) &&& (858993459 : Int32))) (4 : Int32))) &&& (252645135 : Int32)) (8 : Int32))) hx hb dJ6_bitCount_0f7a4_38 rfl ?_
  refine lv_iadd hx hb dJ6_bitCount_0f7a4_39 ?_
  refine lv_istore_n (lv' := [(0, .int ((((((a1 - ((ush a1 (1 : Int32)) &&& (1431655765 : Int32))) &&& (858993459 : Int32)) + ((ush (a1 - ((ush a1 (1 : Int32)) &&& (1431655765 : Int32))) (2 : Int32)) &&& (858993459 : Int32))) + (ush (((a1 - ((ush a1 (1 : Int32)) &&& (1431655765 : Int32))) &&& (858993459 : Int32)) + ((ush (a1 - ((ush a1 (1 : Int32)) &&& (1431655765 : Int32))) (2 : Int32)) &&& (858993459 : Int32))) (4 : Int32))) &&& (252645135 : Int32)) + (ush (((((a1 - ((ush a1 (1 : Int32)) &&& (1431655765 : Int32))) &&& (858993459 : Int32)) + ((ush (a1 - ((ush a1 (1 : Int32)) &&& (1431655765 : Int32))) (2 : Int32)) &&& (858993459 : Int32))) + (ush (((a1 - ((ush a1 (1 : Int32)) &&& (1431655765 : Int32))) &&& (858993459 : Int32)) + ((ush (a1 - ((ush a1 (1 : Int32)) &&& (1431655765 : Int32))) (2 : Int32)) &&& (858993459 : Int32))) (4 : Int32))) &&& (252645135 : Int32)) (8 : Int32))))]) hx hb dJ6_bitCount_0f7a4_40 rfl hl (by decide) rfl (fun ls hl => ?_)
  refine lv_iload_n hx hb dJ6_bitCount_0f7a4_41 rfl (lv_at hl 0 rfl) ?_
  refine lv_iload_n hx hb dJ6_bitCount_0f7a4_42 rfl (lv_at hl 0 rfl) ?_
  refine lv_bipush (v := (16 : Int32)) hx hb dJ6_bitCount_0f7a4_43 (by decide) ?_
  refine lv_iushr (v := (ush ((((((a1 - ((ush a1 (1 : Int32)) &&& (1431655765 : Int32))) &&& (858993459 : Int32)) + ((ush (a1 - ((ush a1 (1 : Int32)) &&& (1431655765 : Int32))) (2 : Int32)) &&& (858993459 : Int32))) + (ush (((a1 - ((ush a1 (1 : Int32)) &&& (1431655765 : Int32))) &&& (858993459 : Int32)) + ((ush (a1 - ((ush a1 (1 : Int32)) &&& (1431655765 : Int32))) (2 : Int32)) &&& (858993459 : Int32))) (4 : Int32))) &&& (252645135 : Int32)) + (ush (((((a1 - ((ush a1 (1 : Int32)) &&& (1431655765 : Int32))) &&& (858993459 : Int32)) + ((ush (a1 - ((ush a1 (1 : Int32)) &&& (1431655765 : Int32))) (2 : Int32)) &&& (858993459 : Int32))) + (ush (((a1 - ((ush a1 (1 : Int32)) &&& (1431655765 : Int32))) &&& (858993459 : Int32)) + ((ush (a1 - ((ush a1 (1 : Int32)) &&& (1431655765 : Int32))) (2 : Int32)) &&& (858993459 : Int32))) (4 : Int32))) &&& (252645135 : Int32)) (8 : Int32))) (16 : Int32))) hx hb dJ6_bitCount_0f7a4_45 rfl ?_
  refine lv_iadd hx hb dJ6_bitCount_0f7a4_46 ?_
  refine lv_istore_n (lv' := [(0, .int (((((((a1 - ((ush a1 (1 : Int32)) &&& (1431655765 : Int32))) &&& (858993459 : Int32)) + ((ush (a1 - ((ush a1 (1 : Int32)) &&& (1431655765 : Int32))) (2 : Int32)) &&& (858993459 : Int32))) + (ush (((a1 - ((ush a1 (1 : Int32)) &&& (1431655765 : Int32))) &&& (858993459 : Int32)) + ((ush (a1 - ((ush a1 (1 : Int32)) &&& (1431655765 : Int32))) (2 : Int32)) &&& (858993459 : Int32))) (4 : Int32))) &&& (252645135 : Int32)) + (ush (((((a1 - ((ush a1 (1 : Int32)) &&& (1431655765 : Int32))) &&& (858993459 : Int32)) + ((ush (a1 - ((ush a1 (1 : Int32)) &&& (1431655765 : Int32))) (2 : Int32)) &&& (858993459 : Int32))) + (ush (((a1 - ((ush a1 (1 : Int32)) &&& (1431655765 : Int32))) &&& (858993459 : Int32)) + ((ush (a1 - ((ush a1 (1 : Int32)) &&& (1431655765 : Int32))) (2 : Int32)) &&& (858993459 : Int32))) (4 : Int32))) &&& (252645135 : Int32)) (8 : Int32))) + (ush ((((((a1 - ((ush a1 (1 : Int32)) &&& (1431655765 : Int32))) &&& (858993459 : Int32)) + ((ush (a1 - ((ush a1 (1 : Int32)) &&& (1431655765 : Int32))) (2 : Int32)) &&& (858993459 : Int32))) + (ush (((a1 - ((ush a1 (1 : Int32)) &&& (1431655765 : Int32))) &&& (858993459 : Int32)) + ((ush (a1 - ((ush a1 (1 : Int32)) &&& (1431655765 : Int32))) (2 : Int32)) &&& (858993459 : Int32))) (4 : Int32))) &&& (252645135 : Int32)) + (ush (((((a1 - ((ush a1 (1 : Int32)) &&& (1431655765 : Int32))) &&& (858993459 : Int32)) + ((ush (a1 - ((ush a1 (1 : Int32)) &&& (1431655765 : Int32))) (2 : Int32)) &&& (858993459 : Int32))) + (ush (((a1 - ((ush a1 (1 : Int32)) &&& (1431655765 : Int32))) &&& (858993459 : Int32)) + ((ush (a1 - ((ush a1 (1 : Int32)) &&& (1431655765 : Int32))) (2 : Int32)) &&& (858993459 : Int32))) (4 : Int32))) &&& (252645135 : Int32)) (8 : Int32))) (16 : Int32))))]) hx hb dJ6_bitCount_0f7a4_47 rfl hl (by decide) rfl (fun ls hl => ?_)
  refine lv_iload_n hx hb dJ6_bitCount_0f7a4_48 rfl (lv_at hl 0 rfl) ?_
  refine lv_bipush (v := (63 : Int32)) hx hb dJ6_bitCount_0f7a4_49 (by decide) ?_
  refine lv_iand hx hb dJ6_bitCount_0f7a4_51 ?_
  subst hR
  exact fin _ _ dJ6_bitCount_0f7a4_52 (nar_i _)
def f_X1_of (a1 : Int32) (a2 : Int32) : Int32 := ((a1 &&& (65535 : Int32)) ||| (shl a2 (16 : Int32)))
set_option maxHeartbeats 4000000 in
set_option maxRecDepth 100000 in
theorem c_X1_of (l : Launch) (D : va_G) (cI cZ : ClassId) (q : Nat → Nat) (a1 : Int32) (a2 : Int32) : RdI l yX1_of cX1_of 2 .int 0 0 D (tyL cI cZ) [] [.int a1, .int a2] (f_X1_of a1 a2) := by
  refine RdI.of (by decide) (Nat.le_of_ble_eq_true rfl) ?_
  intro p e s m args below meth c Q hx hb hml hown hts hP hK fin ls hl
  have hown : s.vm.findClass RX1 = some m.cls := hown
  have hF : CallFix p m c cX1_of 2 s args tb RX1 := ⟨hx, hb, hml, hown, hts⟩
  have hl : lv_has ls 2 [(0, .int a1), (1, .int a2)] := hl
  generalize hR : (f_X1_of a1 a2) = R at fin
  unfold f_X1_of at hR
  refine lv_iload_n hx hb dX1_of_0 rfl (lv_at hl 0 rfl) ?_
  refine lv_ldc (v := (65535 : Int32)) hx hb hown (hts _ tm_1_198) dX1_of_1 ?_
  refine lv_iand hx hb dX1_of_3 ?_
  refine lv_iload_n hx hb dX1_of_4 rfl (lv_at hl 1 rfl) ?_
  refine lv_bipush (v := (16 : Int32)) hx hb dX1_of_5 (by decide) ?_
  refine lv_ishl hx hb dX1_of_7 ?_
  refine lv_rw (z := (shl a2 (16 : Int32))) rfl ?_
  refine lv_ior hx hb dX1_of_8 ?_
  subst hR
  exact fin _ _ dX1_of_9 (nar_i _)
def f_X1_poles (a1 : Int32) : Int32 := (a1 &&& (65535 : Int32))
set_option maxHeartbeats 4000000 in
set_option maxRecDepth 100000 in
theorem c_X1_poles (l : Launch) (D : va_G) (cI cZ : ClassId) (q : Nat → Nat) (a1 : Int32) : RdI l yX1_poles cX1_poles 1 .int 0 0 D (tyL cI cZ) [] [.int a1] (f_X1_poles a1) := by
  refine RdI.of (by decide) (Nat.le_of_ble_eq_true rfl) ?_
  intro p e s m args below meth c Q hx hb hml hown hts hP hK fin ls hl
  have hown : s.vm.findClass RX1 = some m.cls := hown
  have hF : CallFix p m c cX1_poles 1 s args tb RX1 := ⟨hx, hb, hml, hown, hts⟩
  have hl : lv_has ls 1 [(0, .int a1)] := hl
  generalize hR : (f_X1_poles a1) = R at fin
  unfold f_X1_poles at hR
  refine lv_iload_n hx hb dX1_poles_0 rfl (lv_at hl 0 rfl) ?_
  refine lv_ldc (v := (65535 : Int32)) hx hb hown (hts _ tm_1_198) dX1_poles_1 ?_
  refine lv_iand hx hb dX1_poles_3 ?_
  subst hR
  exact fin _ _ dX1_poles_4 (nar_i _)
def f_X1_had (a1 : Int32) : Int32 := (ush a1 (16 : Int32))
set_option maxHeartbeats 4000000 in
set_option maxRecDepth 100000 in
theorem c_X1_had (l : Launch) (D : va_G) (cI cZ : ClassId) (q : Nat → Nat) (a1 : Int32) : RdI l yX1_had cX1_had 1 .int 0 0 D (tyL cI cZ) [] [.int a1] (f_X1_had a1) := by
  refine RdI.of (by decide) (Nat.le_of_ble_eq_true rfl) ?_
  intro p e s m args below meth c Q hx hb hml hown hts hP hK fin ls hl
  have hown : s.vm.findClass RX1 = some m.cls := hown
  have hF : CallFix p m c cX1_had 1 s args tb RX1 := ⟨hx, hb, hml, hown, hts⟩
  have hl : lv_has ls 1 [(0, .int a1)] := hl
  generalize hR : (f_X1_had a1) = R at fin
  unfold f_X1_had at hR
  refine lv_iload_n hx hb dX1_had_0 rfl (lv_at hl 0 rfl) ?_
  refine lv_bipush (v := (16 : Int32)) hx hb dX1_had_1 (by decide) ?_
  refine lv_iushr (v := (ush a1 (16 : Int32))) hx hb dX1_had_3 rfl ?_
  subst hR
  exact fin _ _ dX1_had_4 (nar_i _)
def f_X1_countHad (a1 : Int32) : Int32 := (f_J6_bitCount (f_X1_had a1))
set_option maxHeartbeats 4000000 in
set_option maxRecDepth 100000 in
theorem c_X1_countHad (l : Launch) (D : va_G) (cI cZ : ClassId) (q : Nat → Nat) (a1 : Int32) : RdI l yX1_countHad cX1_countHad 1 .int 1 20 D (tyL cI cZ) [] [.int a1] (f_X1_countHad a1) := by
  refine RdI.of (by decide) (Nat.le_of_ble_eq_true rfl) ?_
  intro p e s m args below meth c Q hx hb hml hown hts hP hK fin ls hl
  have hown : s.vm.findClass RX1 = some m.cls := hown
  have hF : CallFix p m c cX1_countHad 1 s args tb RX1 := ⟨hx, hb, hml, hown, hts⟩
  have hl : lv_has ls 1 [(0, .int a1)] := hl
  generalize hR : (f_X1_countHad a1) = R at fin
  unfold f_X1_countHad at hR
  refine lv_iload_n hx hb dX1_countHad_0 rfl (lv_at hl 0 rfl) ?_
  refine sRdI (As := [.int a1]) (rest := []) hF (c_X1_had l D cI cZ q a1) (gdS tm_2_51 tm_1_212 tm_1_8 tm_1_213) de_X1_had ⟨Nat.le_of_ble_eq_true rfl, Nat.le_of_ble_eq_true rfl⟩ va_P_nil hK hl.1 rfl (Nat.le_of_ble_eq_true rfl) dX1_countHad_1 ⟨Nat.zero_le _, Nat.zero_le _⟩ ?_
  refine sRdI (As := [.int (f_X1_had a1)]) (rest := []) hF (c_J6_bitCount l D cI cZ q (f_X1_had a1)) (gdS tm_2_15 tm_1_200 tm_1_9 tm_1_201) de_J6_bitCount_0f7a4 ⟨Nat.le_of_ble_eq_true rfl, Nat.le_of_ble_eq_true rfl⟩ va_P_nil hK hl.1 rfl (Nat.le_of_ble_eq_true rfl) dX1_countHad_4 ⟨Nat.zero_le _, Nat.zero_le _⟩ ?_
  subst hR
  exact fin _ _ dX1_countHad_7 (nar_i _)
def f_X1_height (a1 : Int32) (a2 : Int32) : Int32 := (f_J6_bitCount ((f_X1_poles a1) &&& (shl (4369 : Int32) a2)))
set_option maxHeartbeats 4000000 in
set_option maxRecDepth 100000 in
theorem c_X1_height (l : Launch) (D : va_G) (cI cZ : ClassId) (q : Nat → Nat) (a1 : Int32) (a2 : Int32) : RdI l yX1_height cX1_height 2 .int 1 20 D (tyL cI cZ) [] [.int a1, .int a2] (f_X1_height a1 a2) := by
  refine RdI.of (by decide) (Nat.le_of_ble_eq_true rfl) ?_
  intro p e s m args below meth c Q hx hb hml hown hts hP hK fin ls hl
  have hown : s.vm.findClass RX1 = some m.cls := hown
  have hF : CallFix p m c cX1_height 2 s args tb RX1 := ⟨hx, hb, hml, hown, hts⟩
  have hl : lv_has ls 2 [(0, .int a1), (1, .int a2)] := hl
  generalize hR : (f_X1_height a1 a2) = R at fin
  unfold f_X1_height at hR
  refine lv_iload_n hx hb dX1_height_0 rfl (lv_at hl 0 rfl) ?_
  refine sRdI (As := [.int a1]) (rest := []) hF (c_X1_poles l D cI cZ q a1) (gdS tm_2_14 tm_1_196 tm_1_8 tm_1_197) de_X1_poles ⟨Nat.le_of_ble_eq_true rfl, Nat.le_of_ble_eq_true rfl⟩ va_P_nil hK hl.1 rfl (Nat.le_of_ble_eq_true rfl) dX1_height_1 ⟨Nat.zero_le _, Nat.zero_le _⟩ ?_
  refine lv_sipush (v := (4369 : Int32)) hx hb dX1_height_4 (by decide) ?_
  refine lv_iload_n hx hb dX1_height_7 rfl (lv_at hl 1 rfl) ?_
  refine lv_ishl hx hb dX1_height_8 ?_
  refine lv_rw (z := (shl (4369 : Int32) a2)) rfl ?_
  refine lv_iand hx hb dX1_height_9 ?_
  refine sRdI (As := [.int ((f_X1_poles a1) &&& (shl (4369 : Int32) a2))]) (rest := []) hF (c_J6_bitCount l D cI cZ q ((f_X1_poles a1) &&& (shl (4369 : Int32) a2))) (gdS tm_2_15 tm_1_200 tm_1_9 tm_1_201) de_J6_bitCount_0f7a4 ⟨Nat.le_of_ble_eq_true rfl, Nat.le_of_ble_eq_true rfl⟩ va_P_nil hK hl.1 rfl (Nat.le_of_ble_eq_true rfl) dX1_height_10 ⟨Nat.zero_le _, Nat.zero_le _⟩ ?_
  subst hR
  exact fin _ _ dX1_height_13 (nar_i _)
def f_X1_cellBit (a1 : Int32) (a2 : Int32) : Int32 := (shl (1 : Int32) (((4 : Int32) * a2) + a1))
set_option maxHeartbeats 4000000 in
set_option maxRecDepth 100000 in
theorem c_X1_cellBit (l : Launch) (D : va_G) (cI cZ : ClassId) (q : Nat → Nat) (a1 : Int32) (a2 : Int32) : RdI l yX1_cellBit cX1_cellBit 2 .int 0 0 D (tyL cI cZ) [] [.int a1, .int a2] (f_X1_cellBit a1 a2) := by
  refine RdI.of (by decide) (Nat.le_of_ble_eq_true rfl) ?_
  intro p e s m args below meth c Q hx hb hml hown hts hP hK fin ls hl
  have hown : s.vm.findClass RX1 = some m.cls := hown
  have hF : CallFix p m c cX1_cellBit 2 s args tb RX1 := ⟨hx, hb, hml, hown, hts⟩
  have hl : lv_has ls 2 [(0, .int a1), (1, .int a2)] := hl
  generalize hR : (f_X1_cellBit a1 a2) = R at fin
  unfold f_X1_cellBit at hR
  refine lv_iconst (v := (1 : Int32)) hx hb dX1_cellBit_0 (by decide) ?_
  refine lv_iconst (v := (4 : Int32)) hx hb dX1_cellBit_1 (by decide) ?_
  refine lv_iload_n hx hb dX1_cellBit_2 rfl (lv_at hl 1 rfl) ?_
  refine lv_imul hx hb dX1_cellBit_3 ?_
  refine lv_iload_n hx hb dX1_cellBit_4 rfl (lv_at hl 0 rfl) ?_
  refine lv_iadd hx hb dX1_cellBit_5 ?_
  refine lv_ishl hx hb dX1_cellBit_6 ?_
  refine lv_rw (z := (shl (1 : Int32) (((4 : Int32) * a2) + a1))) rfl ?_
  subst hR
  exact fin _ _ dX1_cellBit_7 (nar_i _)
