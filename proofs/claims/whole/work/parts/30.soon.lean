theorem de_X5_leastRow : deOK yX5_leastRow 4 := by decide +kernel
def f_lr_z (a2 : Int32) (a3 : Int32) : Int32 := (if (a3 &&& ((f_X1_had a2) ^^^ (-1 : Int32))) = (0 : Int32) then (0 : Int32) else (-9 : Int32))
set_option maxHeartbeats 4000000 in
set_option maxRecDepth 100000 in
theorem c_X5_leastRow_z (l : Launch) (D : va_G) (cI cZ : ClassId) (q : Nat → Nat) (poles parts plain key stair air : Int32) (cells kinds : Nat → Int32) (a2 : Int32) (a3 : Int32) (F2 : Nat) (L2 : Nat) (hFb : 6 ≤ F2) (hLb : 200 ≤ L2) : RdI l yX5_leastRow cX5_leastRow 10 .int F2 L2 D (tyL cI cZ) (PW cI cZ q poles parts plain key stair air cells kinds) [.ref (q 2), .int a2, .int a3, .int (nI 0)] (f_lr_z a2 a3) := by
  refine RdI.of (by decide) (Nat.le_of_ble_eq_true rfl) ?_
  intro p e s m args below meth c Q hx hb hml hown hts hP hK fin ls hl
  have hown : s.vm.findClass RX5 = some m.cls := hown
  have hF : CallFix p m c cX5_leastRow 10 s args tb RX5 := ⟨hx, hb, hml, hown, hts⟩
  have hl : lv_has ls 10 [(0, .ref (q 2)), (1, .int a2), (2, .int a3), (3, .int (nI 0))] := hl
  generalize hR : (f_lr_z a2 a3) = R at fin
  unfold f_lr_z at hR
  refine lv_iload_n hx hb dX5_leastRow_0 rfl (lv_at hl 2 rfl) ?_
  refine lv_iload_n hx hb dX5_leastRow_1 rfl (lv_at hl 1 rfl) ?_
  refine sRdI (As := [.int a2]) (rest := [.int a3]) hF (c_X1_had l D cI cZ q a2) (gdS tm_1_211 tm_1_212 tm_1_8 tm_1_213) de_X1_had ⟨by show _ ≤ F2; omega, by show _ ≤ L2; omega⟩ va_P_nil hK hl.1 rfl (Nat.le_of_ble_eq_true rfl) dX5_leastRow_2 ⟨Nat.zero_le _, Nat.zero_le _⟩ ?_
  refine lv_iconst (v := (-1 : Int32)) hx hb dX5_leastRow_5 (by decide) ?_
  refine lv_ixor hx hb dX5_leastRow_6 ?_
  refine lv_iand hx hb dX5_leastRow_7 ?_
  refine lv_istore (lv' := [(4, .int (a3 &&& ((f_X1_had a2) ^^^ (-1 : Int32)))), (0, .ref (q 2)), (1, .int a2), (2, .int a3), (3, .int (nI 0))]) hx hb dX5_leastRow_8 hl (by decide) rfl (fun ls hl => ?_)
  refine lv_iload_n hx hb dX5_leastRow_10 rfl (lv_at hl 4 rfl) ?_
  refine lv_if_gt (tgt := 26) hx hb dX5_leastRow_11 (by decide) (fun c_11 => absurd c_11 (by decide)) (fun c_11 => ?_)
  refine lv_iload hx hb dX5_leastRow_14 (lv_at hl 0 rfl) ?_
  refine lv_if_ne (tgt := 23) hx hb dX5_leastRow_16 (by decide) (fun c_16 => ?_) (fun c_16 => ?_)
  · rw [if_neg c_16] at hR
    refine lv_bipush (v := (-9 : Int32)) hx hb dX5_leastRow_23 (by decide) ?_
    subst hR
    exact fin _ _ dX5_leastRow_25 (nar_i _)
  · rw [if_pos c_16] at hR
    refine lv_iconst (v := (0 : Int32)) hx hb dX5_leastRow_19 (by decide) ?_
    refine lv_goto (tgt := 25) hx hb dX5_leastRow_20 (by decide) ?_
    subst hR
    exact fin _ _ dX5_leastRow_25 (nar_i _)
def f_lr_s_l51 (rec : Int32 → Int32) (poles : Int32) (plain : Int32) (key : Int32) (stair : Int32) (air : Int32) (a2 : Int32) (k : Nat) : Nat → Nat → Int32
  | 0, i_51 => (-9 : Int32)
  | d_51 + 1, i_51 => (if (4 : Int32) < (nI i_51) then (if (f_X2_canStrike a2 (nI ((i_51 - 1) % 4))) = (0 : Int32) then (f_lr_s_l51 rec poles plain key stair air a2 k d_51 (i_51 + 1) ) else (if (rec (f_X2_withStruck plain key stair air a2 (nI ((i_51 - 1) % 4)))) = (-9 : Int32) then (f_lr_s_l51 rec poles plain key stair air a2 k d_51 (i_51 + 1) ) else (((nI i_51) * (f_X5_powerOfTen k).toInt32) + (rec (f_X2_withStruck plain key stair air a2 (nI ((i_51 - 1) % 4))))))) else (if (f_X2_canPut poles a2 (nI ((i_51 - 1) % 4))) = (0 : Int32) then (f_lr_s_l51 rec poles plain key stair air a2 k d_51 (i_51 + 1) ) else (if (rec (f_X2_withPut plain key stair air a2 (nI ((i_51 - 1) % 4)))) = (-9 : Int32) then (f_lr_s_l51 rec poles plain key stair air a2 k d_51 (i_51 + 1) ) else (((nI i_51) * (f_X5_powerOfTen k).toInt32) + (rec (f_X2_withPut plain key stair air a2 (nI ((i_51 - 1) % 4))))))))
theorem f_lr_s_l51_z {rec : Int32 → Int32} {poles : Int32} {plain : Int32} {key : Int32} {stair : Int32} {air : Int32} {a2 : Int32} {k : Nat} {i_51 : Nat}  : f_lr_s_l51 rec poles plain key stair air a2 k 0 i_51  = (-9 : Int32) := by rw [f_lr_s_l51]
theorem f_lr_s_l51_s {rec : Int32 → Int32} {poles : Int32} {plain : Int32} {key : Int32} {stair : Int32} {air : Int32} {a2 : Int32} {k : Nat} {d_51 : Nat} {i_51 : Nat}  : f_lr_s_l51 rec poles plain key stair air a2 k (d_51 + 1) i_51  = (if (4 : Int32) < (nI i_51) then (if (f_X2_canStrike a2 (nI ((i_51 - 1) % 4))) = (0 : Int32) then (f_lr_s_l51 rec poles plain key stair air a2 k d_51 (i_51 + 1) ) else (if (rec (f_X2_withStruck plain key stair air a2 (nI ((i_51 - 1) % 4)))) = (-9 : Int32) then (f_lr_s_l51 rec poles plain key stair air a2 k d_51 (i_51 + 1) ) else (((nI i_51) * (f_X5_powerOfTen k).toInt32) + (rec (f_X2_withStruck plain key stair air a2 (nI ((i_51 - 1) % 4))))))) else (if (f_X2_canPut poles a2 (nI ((i_51 - 1) % 4))) = (0 : Int32) then (f_lr_s_l51 rec poles plain key stair air a2 k d_51 (i_51 + 1) ) else (if (rec (f_X2_withPut plain key stair air a2 (nI ((i_51 - 1) % 4)))) = (-9 : Int32) then (f_lr_s_l51 rec poles plain key stair air a2 k d_51 (i_51 + 1) ) else (((nI i_51) * (f_X5_powerOfTen k).toInt32) + (rec (f_X2_withPut plain key stair air a2 (nI ((i_51 - 1) % 4)))))))) := by rw [f_lr_s_l51]
def f_lr_s (rec : Int32 → Int32) (poles : Int32) (plain : Int32) (key : Int32) (stair : Int32) (air : Int32) (a2 : Int32) (a3 : Int32) (k : Nat) : Int32 := (if (f_J6_bitCount ((f_X5_downToGround (a3 &&& ((f_X1_had a2) ^^^ (-1 : Int32)))) &&& ((f_X1_poles a2) ^^^ (-1 : Int32)))) ≤ (nI (k + 1)) then (f_lr_s_l51 rec poles plain key stair air a2 k 8 1 ) else (-9 : Int32))
set_option maxHeartbeats 4000000 in
set_option maxRecDepth 100000 in
theorem c_X5_leastRow_s (l : Launch) (D : va_G) (cI cZ : ClassId) (q : Nat → Nat) (poles parts plain key stair air : Int32) (cells kinds : Nat → Int32) (a2 : Int32) (a3 : Int32) (k : Nat) (rec : Int32 → Int32) (F2 : Nat) (L2 : Nat) (hFb : 6 ≤ F2) (hLb : 200 ≤ L2) (F1 : Nat) (L1 : Nat) (hFa : F1 + 1 ≤ F2) (hLa : 8 + (10 + 11) + L1 ≤ L2) (hk3 : k ≤ 3) (ih : ∀ z : Int32, RdI l yX5_leastRow cX5_leastRow 10 .int F1 L1 D (tyL cI cZ) (PW cI cZ q poles parts plain key stair air cells kinds) [.ref (q 2), .int z, .int a3, .int (nI k)] (rec z)) : RdI l yX5_leastRow cX5_leastRow 10 .int F2 L2 D (tyL cI cZ) (PW cI cZ q poles parts plain key stair air cells kinds) [.ref (q 2), .int a2, .int a3, .int (nI (k + 1))] (f_lr_s rec poles plain key stair air a2 a3 k) := by
  refine RdI.of (by decide) (Nat.le_of_ble_eq_true rfl) ?_
  intro p e s m args below meth c Q hx hb hml hown hts hP hK fin ls hl
  have hown : s.vm.findClass RX5 = some m.cls := hown
  have hF : CallFix p m c cX5_leastRow 10 s args tb RX5 := ⟨hx, hb, hml, hown, hts⟩
  have hl : lv_has ls 10 [(0, .ref (q 2)), (1, .int a2), (2, .int a3), (3, .int (nI (k + 1)))] := hl
  generalize hR : (f_lr_s rec poles plain key stair air a2 a3 k) = R at fin
  unfold f_lr_s at hR
  refine lv_iload_n hx hb dX5_leastRow_0 rfl (lv_at hl 2 rfl) ?_
  refine lv_iload_n hx hb dX5_leastRow_1 rfl (lv_at hl 1 rfl) ?_
  refine sRdI (As := [.int a2]) (rest := [.int a3]) hF (c_X1_had l D cI cZ q a2) (gdS tm_1_211 tm_1_212 tm_1_8 tm_1_213) de_X1_had ⟨by show _ ≤ F2; omega, by show _ ≤ L2; omega⟩ va_P_nil hK hl.1 rfl (Nat.le_of_ble_eq_true rfl) dX5_leastRow_2 ⟨Nat.zero_le _, Nat.zero_le _⟩ ?_
  refine lv_iconst (v := (-1 : Int32)) hx hb dX5_leastRow_5 (by decide) ?_
  refine lv_ixor hx hb dX5_leastRow_6 ?_
  refine lv_iand hx hb dX5_leastRow_7 ?_
  refine lv_istore (lv' := [(4, .int (a3 &&& ((f_X1_had a2) ^^^ (-1 : Int32)))), (0, .ref (q 2)), (1, .int a2), (2, .int a3), (3, .int (nI (k + 1)))]) hx hb dX5_leastRow_8 hl (by decide) rfl (fun ls hl => ?_)
  refine lv_iload_n hx hb dX5_leastRow_10 rfl (lv_at hl 4 rfl) ?_
  refine lv_if_gt (tgt := 26) hx hb dX5_leastRow_11 (by decide) (fun c_11 => ?_) (fun c_11 => absurd (nI_lt (a := 0) (by omega) (by omega)) c_11)
  refine lv_iload hx hb dX5_leastRow_26 (lv_at hl 0 rfl) ?_
  refine sRdI (As := [.int (a3 &&& ((f_X1_had a2) ^^^ (-1 : Int32)))]) (rest := []) hF (c_X5_downToGround l D cI cZ q (a3 &&& ((f_X1_had a2) ^^^ (-1 : Int32)))) (gdS tm_2_107 tm_2_108 tm_1_1 tm_2_109) de_X5_downToGround ⟨by show _ ≤ F2; omega, by show _ ≤ L2; omega⟩ va_P_nil hK hl.1 rfl (Nat.le_of_ble_eq_true rfl) dX5_leastRow_28 ⟨Nat.zero_le _, Nat.zero_le _⟩ ?_
  refine lv_iload_n hx hb dX5_leastRow_31 rfl (lv_at hl 2 rfl) ?_
  refine sRdI (As := [.int a2]) (rest := [.int (f_X5_downToGround (a3 &&& ((f_X1_had a2) ^^^ (-1 : Int32))))]) hF (c_X1_poles l D cI cZ q a2) (gdS tm_1_209 tm_1_196 tm_1_8 tm_1_197) de_X1_poles ⟨by show _ ≤ F2; omega, by show _ ≤ L2; omega⟩ va_P_nil hK hl.1 rfl (Nat.le_of_ble_eq_true rfl) dX5_leastRow_32 ⟨Nat.zero_le _, Nat.zero_le _⟩ ?_
  refine lv_iconst (v := (-1 : Int32)) hx hb dX5_leastRow_35 (by decide) ?_
  refine lv_ixor hx hb dX5_leastRow_36 ?_
  refine lv_iand hx hb dX5_leastRow_37 ?_
  refine sRdI (As := [.int ((f_X5_downToGround (a3 &&& ((f_X1_had a2) ^^^ (-1 : Int32)))) &&& ((f_X1_poles a2) ^^^ (-1 : Int32)))]) (rest := []) hF (c_J6_bitCount l D cI cZ q ((f_X5_downToGround (a3 &&& ((f_X1_had a2) ^^^ (-1 : Int32)))) &&& ((f_X1_poles a2) ^^^ (-1 : Int32)))) (gdS tm_1_210 tm_1_200 tm_1_9 tm_1_201) de_J6_bitCount_0f7a4 ⟨by show _ ≤ F2; omega, by show _ ≤ L2; omega⟩ va_P_nil hK hl.1 rfl (Nat.le_of_ble_eq_true rfl) dX5_leastRow_38 ⟨Nat.zero_le _, Nat.zero_le _⟩ ?_
  refine lv_iload_n hx hb dX5_leastRow_41 rfl (lv_at hl 4 rfl) ?_
  refine lv_icmp_le (tgt := 48) hx hb dX5_leastRow_42 (by decide) (fun c_42 => ?_) (fun c_42 => ?_)
  · rw [if_pos c_42] at hR
    refine lv_iconst (v := (1 : Int32)) hx hb dX5_leastRow_48 (by decide) ?_
    refine lv_istore (lv' := [(5, .int (1 : Int32)), (4, .int (a3 &&& ((f_X1_had a2) ^^^ (-1 : Int32)))), (0, .ref (q 2)), (1, .int a2), (2, .int a3), (3, .int (nI (k + 1)))]) hx hb dX5_leastRow_49 hl (by decide) rfl (fun ls hl => ?_)
    have key_51 : ∀ (d_51 i_51 : Nat)  (ls : Array Slot), i_51 + d_51 = 9 → 1 ≤ i_51 → f_lr_s_l51 rec poles plain key stair air a2 k d_51 i_51  = R → lv_has ls 10 [(5, .int (nI i_51)), (4, .int (a3 &&& ((f_X1_had a2) ^^^ (-1 : Int32)))), (0, .ref (q 2)), (1, .int a2), (2, .int a3), (3, .int (nI (k + 1)))] → W p l e (rmO F2 L2) s m args below meth c s.heap [] 0 0 Q (F0 m 51 ls []) := by
      intro d_51
      induction d_51 with
      | zero =>
        intro i_51 ls hi_51 h1_51 hR hl
        rw [f_lr_s_l51_z] at hR
        refine lv_iload hx hb dX5_leastRow_51 (lv_at hl 0 rfl) ?_
        refine lv_bipush (v := (8 : Int32)) hx hb dX5_leastRow_53 (by decide) ?_
        refine lv_icmp_gt (tgt := 170) hx hb dX5_leastRow_55 (by decide) (fun c_55 => ?_) (fun c_55 => absurd (nI_lt (a := 8) (by omega) (by omega)) c_55)
        refine lv_bipush (v := (-9 : Int32)) hx hb dX5_leastRow_170 (by decide) ?_
        subst hR
        exact fin _ _ dX5_leastRow_172 (nar_i _)
      | succ d_51 ih_51 =>
        intro i_51 ls hi_51 h1_51 hR hl
        rw [f_lr_s_l51_s] at hR
        refine lv_iload hx hb dX5_leastRow_51 (lv_at hl 0 rfl) ?_
        refine lv_bipush (v := (8 : Int32)) hx hb dX5_leastRow_53 (by decide) ?_
        refine lv_icmp_gt (tgt := 170) hx hb dX5_leastRow_55 (by decide) (fun c_55 => absurd c_55 (nI_nlt (a := 8) (by omega) (by omega))) (fun c_55 => ?_)
        refine lv_iload hx hb dX5_leastRow_58 (lv_at hl 0 rfl) ?_
        refine lv_iconst (v := (4 : Int32)) hx hb dX5_leastRow_60 (by decide) ?_
        refine lv_icmp_gt (tgt := 68) hx hb dX5_leastRow_61 (by decide) (fun c_61 => ?_) (fun c_61 => ?_)
        · rw [if_pos c_61] at hR
          refine lv_iconst (v := (0 : Int32)) hx hb dX5_leastRow_68 (by decide) ?_
          refine lv_istore (lv' := [(6, .int (0 : Int32)), (5, .int (nI i_51)), (4, .int (a3 &&& ((f_X1_had a2) ^^^ (-1 : Int32)))), (0, .ref (q 2)), (1, .int a2), (2, .int a3), (3, .int (nI (k + 1)))]) hx hb dX5_leastRow_69 hl (by decide) rfl (fun ls hl => ?_)
          refine lv_iload hx hb dX5_leastRow_71 (lv_at hl 1 rfl) ?_
          refine lv_iconst (v := (1 : Int32)) hx hb dX5_leastRow_73 (by decide) ?_
          refine lv_isub hx hb dX5_leastRow_74 ?_
          refine lv_rw (z := (nI (i_51 - 1))) (pk_sub (b := 1) (by omega)) ?_
          refine lv_iconst (v := (4 : Int32)) hx hb dX5_leastRow_75 (by decide) ?_
          refine lv_irem hx hb dX5_leastRow_76 (by decide) ?_
          refine lv_rw (z := (jr (nI (i_51 - 1)) (4 : Int32))) rfl ?_
          refine lv_rw (z := (nI ((i_51 - 1) % 4))) (jr_nI (d := 4) (by omega) (by omega) (by omega)) ?_
          refine lv_istore (lv' := [(7, .int (nI ((i_51 - 1) % 4))), (6, .int (0 : Int32)), (5, .int (nI i_51)), (4, .int (a3 &&& ((f_X1_had a2) ^^^ (-1 : Int32)))), (0, .ref (q 2)), (1, .int a2), (2, .int a3), (3, .int (nI (k + 1)))]) hx hb dX5_leastRow_77 hl (by decide) rfl (fun ls hl => ?_)
          refine lv_iload hx hb dX5_leastRow_79 (lv_at hl 1 rfl) ?_
          refine lv_if_eq (tgt := 97) hx hb dX5_leastRow_81 (by decide) (fun c_81 => ?_) (fun c_81 => absurd (by decide) c_81)
          refine lv_aload_n hx hb dX5_leastRow_97 rfl (lv_at hl 4 rfl) ?_
          refine lv_iload_n hx hb dX5_leastRow_98 rfl (lv_at hl 5 rfl) ?_
          refine lv_iload hx hb dX5_leastRow_99 (lv_at hl 0 rfl) ?_
          refine vRdI (b := (q 2)) (As := [.int a2, .int (nI ((i_51 - 1) % 4))]) (rest := []) hF (c_X2_canStrike l D cI cZ q poles parts plain key stair air cells kinds a2 (nI ((i_51 - 1) % 4))) (gdV tm_2_56 tm_2_57 tm_2_58 tm_1_3 tm_2_59) de_X2_canStrike ⟨by show _ ≤ F2; omega, by show _ ≤ L2; omega⟩ hP hK (va_recv hK hP (ci := 1) (q0 := 0) rfl PW_0) hl.1 rfl (Nat.le_of_ble_eq_true rfl) dX5_leastRow_101 ⟨Nat.zero_le _, Nat.zero_le _⟩ ?_
          refine lv_if_eq (tgt := 164) hx hb dX5_leastRow_104 (by decide) (fun c_104 => ?_) (fun c_104 => ?_)
          · rw [if_pos c_104] at hR
            refine lv_iinc (v := (nI (i_51 + 1))) (lv' := [(5, .int (nI (i_51 + 1))), (7, .int (nI ((i_51 - 1) % 4))), (6, .int (0 : Int32)), (4, .int (a3 &&& ((f_X1_had a2) ^^^ (-1 : Int32)))), (0, .ref (q 2)), (1, .int a2), (2, .int a3), (3, .int (nI (k + 1)))]) hx hb dX5_leastRow_164 hl (k := 2) rfl (nI_up i_51) (by decide) rfl (fun ls hl => ?_)
            refine lv_goto (tgt := 51) hx hb dX5_leastRow_167 (by decide) ?_
            exact ih_51 (i_51 + 1)  ls (by omega) (by omega) hR (lv_sub hl [0, 3, 4, 5, 6, 7] rfl)
          · rw [if_neg c_104] at hR
            refine lv_iload hx hb dX5_leastRow_107 (lv_at hl 1 rfl) ?_
            refine lv_if_eq (tgt := 122) hx hb dX5_leastRow_109 (by decide) (fun c_109 => ?_) (fun c_109 => absurd (by decide) c_109)
            refine lv_aload_n hx hb dX5_leastRow_122 rfl (lv_at hl 4 rfl) ?_
            refine lv_iload_n hx hb dX5_leastRow_123 rfl (lv_at hl 5 rfl) ?_
            refine lv_iload hx hb dX5_leastRow_124 (lv_at hl 0 rfl) ?_
            refine vRdI (b := (q 2)) (As := [.int a2, .int (nI ((i_51 - 1) % 4))]) (rest := []) hF (c_X2_withStruck l D cI cZ q poles parts plain key stair air cells kinds a2 (nI ((i_51 - 1) % 4))) (gdV tm_2_60 tm_2_61 tm_2_62 tm_1_3 tm_2_63) de_X2_withStruck ⟨by show _ ≤ F2; omega, by show _ ≤ L2; omega⟩ hP hK (va_recv hK hP (ci := 1) (q0 := 0) rfl PW_0) hl.1 rfl (Nat.le_of_ble_eq_true rfl) dX5_leastRow_126 ⟨Nat.zero_le _, Nat.zero_le _⟩ ?_
            refine lv_istore (lv' := [(8, .int (f_X2_withStruck plain key stair air a2 (nI ((i_51 - 1) % 4)))), (7, .int (nI ((i_51 - 1) % 4))), (6, .int (0 : Int32)), (5, .int (nI i_51)), (4, .int (a3 &&& ((f_X1_had a2) ^^^ (-1 : Int32)))), (0, .ref (q 2)), (1, .int a2), (2, .int a3), (3, .int (nI (k + 1)))]) hx hb dX5_leastRow_129 hl (by decide) rfl (fun ls hl => ?_)
            refine lv_aload_n hx hb dX5_leastRow_131 rfl (lv_at hl 5 rfl) ?_
            refine lv_iload hx hb dX5_leastRow_132 (lv_at hl 0 rfl) ?_
            refine lv_iload_n hx hb dX5_leastRow_134 rfl (lv_at hl 7 rfl) ?_
            refine lv_iload_n hx hb dX5_leastRow_135 rfl (lv_at hl 8 rfl) ?_
            refine lv_iconst (v := (1 : Int32)) hx hb dX5_leastRow_136 (by decide) ?_
            refine lv_isub hx hb dX5_leastRow_137 ?_
            refine lv_rw (z := (nI k)) (nI_pred k) ?_
            refine sRdI (As := [.ref (q 2), .int (f_X2_withStruck plain key stair air a2 (nI ((i_51 - 1) % 4))), .int a3, .int (nI k)]) (rest := []) hF (ih (f_X2_withStruck plain key stair air a2 (nI ((i_51 - 1) % 4)))) (gdS tm_2_104 tm_2_105 tm_1_1 tm_2_106) de_X5_leastRow ⟨by show _ ≤ F2; omega, by show _ ≤ L2; omega⟩ hP hK hl.1 rfl (Nat.le_of_ble_eq_true rfl) dX5_leastRow_138 ⟨Nat.zero_le _, Nat.zero_le _⟩ ?_
            refine lv_istore (lv' := [(9, .int (rec (f_X2_withStruck plain key stair air a2 (nI ((i_51 - 1) % 4))))), (8, .int (f_X2_withStruck plain key stair air a2 (nI ((i_51 - 1) % 4)))), (7, .int (nI ((i_51 - 1) % 4))), (6, .int (0 : Int32)), (5, .int (nI i_51)), (4, .int (a3 &&& ((f_X1_had a2) ^^^ (-1 : Int32)))), (0, .ref (q 2)), (1, .int a2), (2, .int a3), (3, .int (nI (k + 1)))]) hx hb dX5_leastRow_141 hl (by decide) rfl (fun ls hl => ?_)
            refine lv_iload hx hb dX5_leastRow_143 (lv_at hl 0 rfl) ?_
            refine lv_bipush (v := (-9 : Int32)) hx hb dX5_leastRow_145 (by decide) ?_
            refine lv_icmp_eq (tgt := 164) hx hb dX5_leastRow_147 (by decide) (fun c_147 => ?_) (fun c_147 => ?_)
            · rw [if_pos c_147] at hR
              refine lv_iinc (v := (nI (i_51 + 1))) (lv' := [(5, .int (nI (i_51 + 1))), (9, .int (rec (f_X2_withStruck plain key stair air a2 (nI ((i_51 - 1) % 4))))), (8, .int (f_X2_withStruck plain key stair air a2 (nI ((i_51 - 1) % 4)))), (7, .int (nI ((i_51 - 1) % 4))), (6, .int (0 : Int32)), (4, .int (a3 &&& ((f_X1_had a2) ^^^ (-1 : Int32)))), (0, .ref (q 2)), (1, .int a2), (2, .int a3), (3, .int (nI (k + 1)))]) hx hb dX5_leastRow_164 hl (k := 4) rfl (nI_up i_51) (by decide) rfl (fun ls hl => ?_)
              refine lv_goto (tgt := 51) hx hb dX5_leastRow_167 (by decide) ?_
              exact ih_51 (i_51 + 1)  ls (by omega) (by omega) hR (lv_sub hl [0, 5, 6, 7, 8, 9] rfl)
            · rw [if_neg c_147] at hR
              refine lv_iload hx hb dX5_leastRow_150 (lv_at hl 4 rfl) ?_
              refine lv_iload_n hx hb dX5_leastRow_152 rfl (lv_at hl 9 rfl) ?_
              refine lv_iconst (v := (1 : Int32)) hx hb dX5_leastRow_153 (by decide) ?_
              refine lv_isub hx hb dX5_leastRow_154 ?_
              refine lv_rw (z := (nI k)) (nI_pred k) ?_
              refine sRdL (As := [.int (nI k)]) (rest := [.int (nI i_51)]) hF (c_X5_powerOfTen l D cI cZ q (nI k) k rfl (by omega)) (gdS tm_2_115 tm_2_116 tm_1_1 tm_2_117) de_X5_powerOfTen ⟨by show _ ≤ F2; omega, by show _ ≤ L2; omega⟩ va_P_nil hK hl.1 rfl (Nat.le_of_ble_eq_true rfl) dX5_leastRow_155 ⟨Nat.zero_le _, Nat.zero_le _⟩ ?_
              refine lv_l2i (v := (f_X5_powerOfTen k).toInt32) hx hb dX5_leastRow_158 rfl ?_
              refine lv_imul hx hb dX5_leastRow_159 ?_
              refine lv_iload hx hb dX5_leastRow_160 (lv_at hl 0 rfl) ?_
              refine lv_iadd hx hb dX5_leastRow_162 ?_
              subst hR
              exact fin _ _ dX5_leastRow_163 (nar_i _)
        · rw [if_neg c_61] at hR
          refine lv_iconst (v := (1 : Int32)) hx hb dX5_leastRow_64 (by decide) ?_
          refine lv_goto (tgt := 69) hx hb dX5_leastRow_65 (by decide) ?_
          refine lv_istore (lv' := [(6, .int (1 : Int32)), (5, .int (nI i_51)), (4, .int (a3 &&& ((f_X1_had a2) ^^^ (-1 : Int32)))), (0, .ref (q 2)), (1, .int a2), (2, .int a3), (3, .int (nI (k + 1)))]) hx hb dX5_leastRow_69 hl (by decide) rfl (fun ls hl => ?_)
          refine lv_iload hx hb dX5_leastRow_71 (lv_at hl 1 rfl) ?_
          refine lv_iconst (v := (1 : Int32)) hx hb dX5_leastRow_73 (by decide) ?_
          refine lv_isub hx hb dX5_leastRow_74 ?_
          refine lv_rw (z := (nI (i_51 - 1))) (pk_sub (b := 1) (by omega)) ?_
          refine lv_iconst (v := (4 : Int32)) hx hb dX5_leastRow_75 (by decide) ?_
          refine lv_irem hx hb dX5_leastRow_76 (by decide) ?_
          refine lv_rw (z := (jr (nI (i_51 - 1)) (4 : Int32))) rfl ?_
          refine lv_rw (z := (nI ((i_51 - 1) % 4))) (jr_nI (d := 4) (by omega) (by omega) (by omega)) ?_
          refine lv_istore (lv' := [(7, .int (nI ((i_51 - 1) % 4))), (6, .int (1 : Int32)), (5, .int (nI i_51)), (4, .int (a3 &&& ((f_X1_had a2) ^^^ (-1 : Int32)))), (0, .ref (q 2)), (1, .int a2), (2, .int a3), (3, .int (nI (k + 1)))]) hx hb dX5_leastRow_77 hl (by decide) rfl (fun ls hl => ?_)
          refine lv_iload hx hb dX5_leastRow_79 (lv_at hl 1 rfl) ?_
          refine lv_if_eq (tgt := 97) hx hb dX5_leastRow_81 (by decide) (fun c_81 => absurd c_81 (by decide)) (fun c_81 => ?_)
          refine lv_aload_n hx hb dX5_leastRow_84 rfl (lv_at hl 4 rfl) ?_
          refine lv_iload_n hx hb dX5_leastRow_85 rfl (lv_at hl 5 rfl) ?_
          refine lv_iload hx hb dX5_leastRow_86 (lv_at hl 0 rfl) ?_
          refine vRdI (b := (q 2)) (As := [.int a2, .int (nI ((i_51 - 1) % 4))]) (rest := []) hF (c_X2_canPut l D cI cZ q poles parts plain key stair air cells kinds a2 (nI ((i_51 - 1) % 4))) (gdV tm_2_110 tm_2_111 tm_2_112 tm_1_3 tm_2_113) de_X2_canPut ⟨by show _ ≤ F2; omega, by show _ ≤ L2; omega⟩ hP hK (va_recv hK hP (ci := 1) (q0 := 0) rfl PW_0) hl.1 rfl (Nat.le_of_ble_eq_true rfl) dX5_leastRow_88 ⟨Nat.zero_le _, Nat.zero_le _⟩ ?_
          refine lv_if_eq (tgt := 164) hx hb dX5_leastRow_91 (by decide) (fun c_91 => ?_) (fun c_91 => ?_)
          · rw [if_pos c_91] at hR
            refine lv_iinc (v := (nI (i_51 + 1))) (lv' := [(5, .int (nI (i_51 + 1))), (7, .int (nI ((i_51 - 1) % 4))), (6, .int (1 : Int32)), (4, .int (a3 &&& ((f_X1_had a2) ^^^ (-1 : Int32)))), (0, .ref (q 2)), (1, .int a2), (2, .int a3), (3, .int (nI (k + 1)))]) hx hb dX5_leastRow_164 hl (k := 2) rfl (nI_up i_51) (by decide) rfl (fun ls hl => ?_)
            refine lv_goto (tgt := 51) hx hb dX5_leastRow_167 (by decide) ?_
            exact ih_51 (i_51 + 1)  ls (by omega) (by omega) hR (lv_sub hl [0, 3, 4, 5, 6, 7] rfl)
          · rw [if_neg c_91] at hR
            refine lv_goto (tgt := 107) hx hb dX5_leastRow_94 (by decide) ?_
            refine lv_iload hx hb dX5_leastRow_107 (lv_at hl 1 rfl) ?_
            refine lv_if_eq (tgt := 122) hx hb dX5_leastRow_109 (by decide) (fun c_109 => absurd c_109 (by decide)) (fun c_109 => ?_)
            refine lv_aload_n hx hb dX5_leastRow_112 rfl (lv_at hl 4 rfl) ?_
            refine lv_iload_n hx hb dX5_leastRow_113 rfl (lv_at hl 5 rfl) ?_
            refine lv_iload hx hb dX5_leastRow_114 (lv_at hl 0 rfl) ?_
            refine vRdI (b := (q 2)) (As := [.int a2, .int (nI ((i_51 - 1) % 4))]) (rest := []) hF (c_X2_withPut l D cI cZ q poles parts plain key stair air cells kinds a2 (nI ((i_51 - 1) % 4))) (gdV tm_2_36 tm_2_37 tm_2_38 tm_1_3 tm_2_39) de_X2_withPut ⟨by show _ ≤ F2; omega, by show _ ≤ L2; omega⟩ hP hK (va_recv hK hP (ci := 1) (q0 := 0) rfl PW_0) hl.1 rfl (Nat.le_of_ble_eq_true rfl) dX5_leastRow_116 ⟨Nat.zero_le _, Nat.zero_le _⟩ ?_
            refine lv_goto (tgt := 129) hx hb dX5_leastRow_119 (by decide) ?_
            refine lv_istore (lv' := [(8, .int (f_X2_withPut plain key stair air a2 (nI ((i_51 - 1) % 4)))), (7, .int (nI ((i_51 - 1) % 4))), (6, .int (1 : Int32)), (5, .int (nI i_51)), (4, .int (a3 &&& ((f_X1_had a2) ^^^ (-1 : Int32)))), (0, .ref (q 2)), (1, .int a2), (2, .int a3), (3, .int (nI (k + 1)))]) hx hb dX5_leastRow_129 hl (by decide) rfl (fun ls hl => ?_)
            refine lv_aload_n hx hb dX5_leastRow_131 rfl (lv_at hl 5 rfl) ?_
            refine lv_iload hx hb dX5_leastRow_132 (lv_at hl 0 rfl) ?_
            refine lv_iload_n hx hb dX5_leastRow_134 rfl (lv_at hl 7 rfl) ?_
            refine lv_iload_n hx hb dX5_leastRow_135 rfl (lv_at hl 8 rfl) ?_
            refine lv_iconst (v := (1 : Int32)) hx hb dX5_leastRow_136 (by decide) ?_
            refine lv_isub hx hb dX5_leastRow_137 ?_
            refine lv_rw (z := (nI k)) (nI_pred k) ?_
            refine sRdI (As := [.ref (q 2), .int (f_X2_withPut plain key stair air a2 (nI ((i_51 - 1) % 4))), .int a3, .int (nI k)]) (rest := []) hF (ih (f_X2_withPut plain key stair air a2 (nI ((i_51 - 1) % 4)))) (gdS tm_2_104 tm_2_105 tm_1_1 tm_2_106) de_X5_leastRow ⟨by show _ ≤ F2; omega, by show _ ≤ L2; omega⟩ hP hK hl.1 rfl (Nat.le_of_ble_eq_true rfl) dX5_leastRow_138 ⟨Nat.zero_le _, Nat.zero_le _⟩ ?_
            refine lv_istore (lv' := [(9, .int (rec (f_X2_withPut plain key stair air a2 (nI ((i_51 - 1) % 4))))), (8, .int (f_X2_withPut plain key stair air a2 (nI ((i_51 - 1) % 4)))), (7, .int (nI ((i_51 - 1) % 4))), (6, .int (1 : Int32)), (5, .int (nI i_51)), (4, .int (a3 &&& ((f_X1_had a2) ^^^ (-1 : Int32)))), (0, .ref (q 2)), (1, .int a2), (2, .int a3), (3, .int (nI (k + 1)))]) hx hb dX5_leastRow_141 hl (by decide) rfl (fun ls hl => ?_)
            refine lv_iload hx hb dX5_leastRow_143 (lv_at hl 0 rfl) ?_
            refine lv_bipush (v := (-9 : Int32)) hx hb dX5_leastRow_145 (by decide) ?_
            refine lv_icmp_eq (tgt := 164) hx hb dX5_leastRow_147 (by decide) (fun c_147 => ?_) (fun c_147 => ?_)
            · rw [if_pos c_147] at hR
              refine lv_iinc (v := (nI (i_51 + 1))) (lv' := [(5, .int (nI (i_51 + 1))), (9, .int (rec (f_X2_withPut plain key stair air a2 (nI ((i_51 - 1) % 4))))), (8, .int (f_X2_withPut plain key stair air a2 (nI ((i_51 - 1) % 4)))), (7, .int (nI ((i_51 - 1) % 4))), (6, .int (1 : Int32)), (4, .int (a3 &&& ((f_X1_had a2) ^^^ (-1 : Int32)))), (0, .ref (q 2)), (1, .int a2), (2, .int a3), (3, .int (nI (k + 1)))]) hx hb dX5_leastRow_164 hl (k := 4) rfl (nI_up i_51) (by decide) rfl (fun ls hl => ?_)
              refine lv_goto (tgt := 51) hx hb dX5_leastRow_167 (by decide) ?_
              exact ih_51 (i_51 + 1)  ls (by omega) (by omega) hR (lv_sub hl [0, 5, 6, 7, 8, 9] rfl)
            · rw [if_neg c_147] at hR
              refine lv_iload hx hb dX5_leastRow_150 (lv_at hl 4 rfl) ?_
              refine lv_iload_n hx hb dX5_leastRow_152 rfl (lv_at hl 9 rfl) ?_
              refine lv_iconst (v := (1 : Int32)) hx hb dX5_leastRow_153 (by decide) ?_
              refine lv_isub hx hb dX5_leastRow_154 ?_
              refine lv_rw (z := (nI k)) (nI_pred k) ?_
              refine sRdL (As := [.int (nI k)]) (rest := [.int (nI i_51)]) hF (c_X5_powerOfTen l D cI cZ q (nI k) k rfl (by omega)) (gdS tm_2_115 tm_2_116 tm_1_1 tm_2_117) de_X5_powerOfTen ⟨by show _ ≤ F2; omega, by show _ ≤ L2; omega⟩ va_P_nil hK hl.1 rfl (Nat.le_of_ble_eq_true rfl) dX5_leastRow_155 ⟨Nat.zero_le _, Nat.zero_le _⟩ ?_
              refine lv_l2i (v := (f_X5_powerOfTen k).toInt32) hx hb dX5_leastRow_158 rfl ?_
              refine lv_imul hx hb dX5_leastRow_159 ?_
              refine lv_iload hx hb dX5_leastRow_160 (lv_at hl 0 rfl) ?_
              refine lv_iadd hx hb dX5_leastRow_162 ?_
              subst hR
              exact fin _ _ dX5_leastRow_163 (nar_i _)
    exact key_51 8 1  ls (by omega) (by omega) hR (lv_sub hl [0, 1, 2, 3, 4, 5] rfl)
  · rw [if_neg c_42] at hR
    refine lv_bipush (v := (-9 : Int32)) hx hb dX5_leastRow_45 (by decide) ?_
    subst hR
    exact fin _ _ dX5_leastRow_47 (nar_i _)
def f_lr (poles plain key stair air a3 : Int32) : Nat → Int32 → Int32
  | 0, a2 => f_lr_z a2 a3
  | k + 1, a2 => f_lr_s (fun z => f_lr poles plain key stair air a3 k z) poles plain key stair air a2 a3 k
theorem c_X5_leastRow (l : Launch) (D : va_G) (cI cZ : ClassId) (q : Nat → Nat) (poles parts plain key stair air : Int32) (cells kinds : Nat → Int32) (a3 : Int32) : ∀ k, k ≤ 4 → ∀ a2 : Int32, RdI l yX5_leastRow cX5_leastRow 10 .int (6 + k) (200 + 29 * k) D (tyL cI cZ) (PW cI cZ q poles parts plain key stair air cells kinds) [.ref (q 2), .int a2, .int a3, .int (nI k)] (f_lr poles plain key stair air a3 k a2) := by
  intro k
  induction k with
  | zero =>
    intro _ a2
    exact c_X5_leastRow_z l D cI cZ q poles parts plain key stair air cells kinds a2 a3 6 200 (by omega) (by omega)
  | succ k ih =>
    intro hk a2
    exact c_X5_leastRow_s l D cI cZ q poles parts plain key stair air cells kinds a2 a3 k (fun z => f_lr poles plain key stair air a3 k z) (6 + (k + 1)) (200 + 29 * (k + 1)) (by omega) (by omega) (6 + k) (200 + 29 * k) (by omega) (by omega) (by omega) (fun z => ih (by omega) z)
theorem de_X5_soon : deOK yX5_soon 2 := by decide +kernel
def f_X5_soon_l39 (now : Int32) (poles : Int32) (plain : Int32) (key : Int32) (stair : Int32) (air : Int32) (cells : Nat → Int32) (a1 : Int32) (a2 : Int32) : Nat → Nat → Int32
  | 0, i_39 => (-9 : Int32)
  | d_39 + 1, i_39 => (if (f_lr poles plain key stair air (f_X2_cellsOf cells a1) i_39 now) = (-9 : Int32) then (f_X5_soon_l39 now poles plain key stair air cells a1 a2 d_39 (i_39 + 1) ) else (if a2 = (0 : Int32) then (nI i_39) else (f_lr poles plain key stair air (f_X2_cellsOf cells a1) i_39 now)))
theorem f_X5_soon_l39_z {now : Int32} {poles : Int32} {plain : Int32} {key : Int32} {stair : Int32} {air : Int32} {cells : Nat → Int32} {a1 : Int32} {a2 : Int32} {i_39 : Nat}  : f_X5_soon_l39 now poles plain key stair air cells a1 a2 0 i_39  = (-9 : Int32) := by rw [f_X5_soon_l39]
theorem f_X5_soon_l39_s {now : Int32} {poles : Int32} {plain : Int32} {key : Int32} {stair : Int32} {air : Int32} {cells : Nat → Int32} {a1 : Int32} {a2 : Int32} {d_39 : Nat} {i_39 : Nat}  : f_X5_soon_l39 now poles plain key stair air cells a1 a2 (d_39 + 1) i_39  = (if (f_lr poles plain key stair air (f_X2_cellsOf cells a1) i_39 now) = (-9 : Int32) then (f_X5_soon_l39 now poles plain key stair air cells a1 a2 d_39 (i_39 + 1) ) else (if a2 = (0 : Int32) then (nI i_39) else (f_lr poles plain key stair air (f_X2_cellsOf cells a1) i_39 now))) := by rw [f_X5_soon_l39]
def f_X5_soon (now : Int32) (poles : Int32) (parts : Int32) (plain : Int32) (key : Int32) (stair : Int32) (air : Int32) (cells : Nat → Int32) (a1 : Int32) (a2 : Int32) : Int32 := (if a1 < (0 : Int32) then (-2 : Int32) else (if (shl (1 : Int32) parts) ≤ a1 then (-2 : Int32) else (if (f_X5_isCountOrFirst a2) = (0 : Int32) then (-2 : Int32) else (f_X5_soon_l39 now poles plain key stair air cells a1 a2 5 0 ))))
set_option maxHeartbeats 4000000 in
set_option maxRecDepth 100000 in
theorem c_X5_soon (l : Launch) (D : va_G) (cI cZ : ClassId) (q : Nat → Nat) (now rains length poles parts plain key stair air acnt tcnt : Int32) (letters cells kinds frames rainsB abouts stoods kept keptF keptR : Nat → Int32) (seed : Int64) (a1 : Int32) (a2 : Int32) : RdI l yX5_soon cX5_soon 6 .int 11 345 D (tyL cI cZ) (XW cI cZ q now rains length poles parts plain key stair air acnt tcnt letters cells kinds frames rainsB abouts stoods kept keptF keptR seed) [.ref (q 0), .int a1, .int a2] (f_X5_soon now poles parts plain key stair air cells a1 a2) := by
  refine RdI.of (by decide) (Nat.le_of_ble_eq_true rfl) ?_
  intro p e s m args below meth c Q hx hb hml hown hts hP hK fin ls hl
  have hown : s.vm.findClass RX5 = some m.cls := hown
  have hF : CallFix p m c cX5_soon 6 s args tb RX5 := ⟨hx, hb, hml, hown, hts⟩
  have hl : lv_has ls 6 [(0, .ref (q 0)), (1, .int a1), (2, .int a2)] := hl
  generalize hR : (f_X5_soon now poles parts plain key stair air cells a1 a2) = R at fin
  unfold f_X5_soon at hR
  refine lv_iload_n hx hb dX5_soon_0 rfl (lv_at hl 1 rfl) ?_
  refine lv_if_lt (tgt := 24) hx hb dX5_soon_1 (by decide) (fun c_1 => ?_) (fun c_1 => ?_)
  · rw [if_pos c_1] at hR
    refine lv_bipush (v := (-2 : Int32)) hx hb dX5_soon_24 (by decide) ?_
    subst hR
    exact fin _ _ dX5_soon_26 (nar_i _)
  · rw [if_neg c_1] at hR
    refine lv_iload_n hx hb dX5_soon_4 rfl (lv_at hl 1 rfl) ?_
    refine lv_iconst (v := (1 : Int32)) hx hb dX5_soon_5 (by decide) ?_
    refine lv_aload_n hx hb dX5_soon_6 rfl (lv_at hl 0 rfl) ?_
    refine va_get (D := D) (ci := 4) (v := .ref (q 2)) (C := RX5) (T := TX5) (N := 10) hx hb hts tbX5 hown hK hP 0 XW_0 rfl 1 (by decide) (hts _ tm_1_102) (fun _ h9 => h9) rfl dX5_soon_7 ?_
    refine va_get (D := D) (ci := 1) (v := .int parts) (C := RX2) (T := TX2) (N := 8) hx hb hts tbX2 hown hK hP 2 XW_2 rfl 3 (by decide) (hts _ tm_1_44) (fun _ h9 => h9) rfl dX5_soon_10 ?_
    refine lv_ishl hx hb dX5_soon_13 ?_
    refine lv_rw (z := (shl (1 : Int32) parts)) rfl ?_
    refine lv_icmp_ge (tgt := 24) hx hb dX5_soon_14 (by decide) (fun c_14 => ?_) (fun c_14 => ?_)
    · rw [if_pos c_14] at hR
      refine lv_bipush (v := (-2 : Int32)) hx hb dX5_soon_24 (by decide) ?_
      subst hR
      exact fin _ _ dX5_soon_26 (nar_i _)
    · rw [if_neg c_14] at hR
      refine lv_iload_n hx hb dX5_soon_17 rfl (lv_at hl 2 rfl) ?_
      refine sRdI (As := [.int a2]) (rest := []) hF (c_X5_isCountOrFirst l D cI cZ q a2) (gdS tm_2_97 tm_2_98 tm_1_1 tm_2_99) de_X5_isCountOrFirst ⟨Nat.le_of_ble_eq_true rfl, Nat.le_of_ble_eq_true rfl⟩ va_P_nil hK hl.1 rfl (Nat.le_of_ble_eq_true rfl) dX5_soon_18 ⟨Nat.zero_le _, Nat.zero_le _⟩ ?_
      refine lv_if_ne (tgt := 27) hx hb dX5_soon_21 (by decide) (fun c_21 => ?_) (fun c_21 => ?_)
      · rw [if_neg c_21] at hR
        refine lv_aload_n hx hb dX5_soon_27 rfl (lv_at hl 0 rfl) ?_
        refine va_get (D := D) (ci := 4) (v := .ref (q 2)) (C := RX5) (T := TX5) (N := 10) hx hb hts tbX5 hown hK hP 0 XW_0 rfl 1 (by decide) (hts _ tm_1_102) (fun _ h9 => h9) rfl dX5_soon_28 ?_
        refine lv_iload_n hx hb dX5_soon_31 rfl (lv_at hl 1 rfl) ?_
        refine vRdI (b := (q 2)) (As := [.int a1]) (rest := []) hF (c_X2_cellsOf l D cI cZ q poles parts plain key stair air cells kinds a1) (gdV tm_2_100 tm_2_101 tm_2_102 tm_1_3 tm_2_103) de_X2_cellsOf ⟨Nat.le_of_ble_eq_true rfl, Nat.le_of_ble_eq_true rfl⟩ (XW_P hP) hK (va_recv hK hP (ci := 1) (q0 := 2) rfl XW_2) hl.1 rfl (Nat.le_of_ble_eq_true rfl) dX5_soon_32 ⟨Nat.zero_le _, Nat.zero_le _⟩ ?_
        refine lv_istore_n (lv' := [(3, .int (f_X2_cellsOf cells a1)), (0, .ref (q 0)), (1, .int a1), (2, .int a2)]) hx hb dX5_soon_35 rfl hl (by decide) rfl (fun ls hl => ?_)
        refine lv_iconst (v := (0 : Int32)) hx hb dX5_soon_36 (by decide) ?_
        refine lv_istore (lv' := [(4, .int (0 : Int32)), (3, .int (f_X2_cellsOf cells a1)), (0, .ref (q 0)), (1, .int a1), (2, .int a2)]) hx hb dX5_soon_37 hl (by decide) rfl (fun ls hl => ?_)
        have key_39 : ∀ (d_39 i_39 : Nat)  (ls : Array Slot), i_39 + d_39 = 5 → f_X5_soon_l39 now poles plain key stair air cells a1 a2 d_39 i_39  = R → lv_has ls 6 [(4, .int (nI i_39)), (3, .int (f_X2_cellsOf cells a1)), (0, .ref (q 0)), (1, .int a1), (2, .int a2)] → W p l e (rmO 11 345) s m args below meth c s.heap [] 0 0 Q (F0 m 39 ls []) := by
          intro d_39
          induction d_39 with
          | zero =>
            intro i_39 ls hi_39 hR hl
            rw [f_X5_soon_l39_z] at hR
            refine lv_iload hx hb dX5_soon_39 (lv_at hl 0 rfl) ?_
            refine lv_iconst (v := (4 : Int32)) hx hb dX5_soon_41 (by decide) ?_
            refine lv_icmp_gt (tgt := 86) hx hb dX5_soon_42 (by decide) (fun c_42 => ?_) (fun c_42 => absurd (nI_lt (a := 4) (by omega) (by omega)) c_42)
            refine lv_bipush (v := (-9 : Int32)) hx hb dX5_soon_86 (by decide) ?_
            subst hR
            exact fin _ _ dX5_soon_88 (nar_i _)
          | succ d_39 ih_39 =>
            intro i_39 ls hi_39 hR hl
            rw [f_X5_soon_l39_s] at hR
            refine lv_iload hx hb dX5_soon_39 (lv_at hl 0 rfl) ?_
            refine lv_iconst (v := (4 : Int32)) hx hb dX5_soon_41 (by decide) ?_
            refine lv_icmp_gt (tgt := 86) hx hb dX5_soon_42 (by decide) (fun c_42 => absurd c_42 (nI_nlt (a := 4) (by omega) (by omega))) (fun c_42 => ?_)
            refine lv_aload_n hx hb dX5_soon_45 rfl (lv_at hl 2 rfl) ?_
            refine va_get (D := D) (ci := 4) (v := .ref (q 2)) (C := RX5) (T := TX5) (N := 10) hx hb hts tbX5 hown hK hP 0 XW_0 rfl 1 (by decide) (hts _ tm_1_102) (fun _ h9 => h9) rfl dX5_soon_46 ?_
            refine lv_aload_n hx hb dX5_soon_49 rfl (lv_at hl 2 rfl) ?_
            refine va_get (D := D) (ci := 4) (v := .int now) (C := RX5) (T := TX5) (N := 10) hx hb hts tbX5 hown hK hP 0 XW_0 rfl 7 (by decide) (hts _ tm_1_108) (fun _ h9 => h9) rfl dX5_soon_50 ?_
            refine lv_iload_n hx hb dX5_soon_53 rfl (lv_at hl 1 rfl) ?_
            refine lv_iload hx hb dX5_soon_54 (lv_at hl 0 rfl) ?_
            refine sRdI (As := [.ref (q 2), .int now, .int (f_X2_cellsOf cells a1), .int (nI i_39)]) (rest := []) hF (c_X5_leastRow l D cI cZ q poles parts plain key stair air cells kinds (f_X2_cellsOf cells a1) i_39 (by omega) now) (gdS tm_2_104 tm_2_105 tm_1_1 tm_2_106) de_X5_leastRow ⟨by show 6 + i_39 + 1 ≤ 11; omega, by show 8 + (10 + 11) + (200 + 29 * i_39) ≤ 345; omega⟩ (XW_P hP) hK hl.1 rfl (Nat.le_of_ble_eq_true rfl) dX5_soon_56 ⟨Nat.zero_le _, Nat.zero_le _⟩ ?_
            refine lv_istore (lv' := [(5, .int (f_lr poles plain key stair air (f_X2_cellsOf cells a1) i_39 now)), (4, .int (nI i_39)), (3, .int (f_X2_cellsOf cells a1)), (0, .ref (q 0)), (1, .int a1), (2, .int a2)]) hx hb dX5_soon_59 hl (by decide) rfl (fun ls hl => ?_)
            refine lv_iload hx hb dX5_soon_61 (lv_at hl 0 rfl) ?_
            refine lv_bipush (v := (-9 : Int32)) hx hb dX5_soon_63 (by decide) ?_
            refine lv_icmp_eq (tgt := 80) hx hb dX5_soon_65 (by decide) (fun c_65 => ?_) (fun c_65 => ?_)
            · rw [if_pos c_65] at hR
              refine lv_iinc (v := (nI (i_39 + 1))) (lv' := [(4, .int (nI (i_39 + 1))), (5, .int (f_lr poles plain key stair air (f_X2_cellsOf cells a1) i_39 now)), (3, .int (f_X2_cellsOf cells a1)), (0, .ref (q 0)), (1, .int a1), (2, .int a2)]) hx hb dX5_soon_80 hl (k := 1) rfl (nI_up i_39) (by decide) rfl (fun ls hl => ?_)
              refine lv_goto (tgt := 39) hx hb dX5_soon_83 (by decide) ?_
              exact ih_39 (i_39 + 1)  ls (by omega) hR (lv_sub hl [0, 2, 3, 4, 5] rfl)
            · rw [if_neg c_65] at hR
              refine lv_iload_n hx hb dX5_soon_68 rfl (lv_at hl 5 rfl) ?_
              refine lv_if_ne (tgt := 77) hx hb dX5_soon_69 (by decide) (fun c_69 => ?_) (fun c_69 => ?_)
              · rw [if_neg c_69] at hR
                refine lv_iload hx hb dX5_soon_77 (lv_at hl 0 rfl) ?_
                subst hR
                exact fin _ _ dX5_soon_79 (nar_i _)
              · rw [if_pos c_69] at hR
                refine lv_iload hx hb dX5_soon_72 (lv_at hl 1 rfl) ?_
                refine lv_goto (tgt := 79) hx hb dX5_soon_74 (by decide) ?_
                subst hR
                exact fin _ _ dX5_soon_79 (nar_i _)
        exact key_39 5 0  ls (by omega) hR (lv_sub hl [0, 1, 2, 3, 4] rfl)
      · rw [if_pos c_21] at hR
        refine lv_bipush (v := (-2 : Int32)) hx hb dX5_soon_24 (by decide) ?_
        subst hR
        exact fin _ _ dX5_soon_26 (nar_i _)
