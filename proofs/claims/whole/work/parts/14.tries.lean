theorem de_X4_wouldStand : deOK yX4_wouldStand 3 := by decide +kernel
theorem de_X4_agreeWith : deOK yX4_agreeWith 2 := by decide +kernel
theorem de_X4_add : deOK yX4_add 2 := by decide +kernel
def f_X4_wouldStand (a1 : Int32) (a2 : Int32) (a3 : Int32) : Int32 := (if a2 = (0 : Int32) then (1 : Int32) else (if a1 = (0 : Int32) then (if (a3 &&& (1 : Int32)) = (0 : Int32) then (0 : Int32) else (1 : Int32)) else (if a1 = (1 : Int32) then (if (a3 &&& (6 : Int32)) = (6 : Int32) then (1 : Int32) else (0 : Int32)) else (if a1 = (2 : Int32) then (if (a3 &&& (25 : Int32)) = (0 : Int32) then (0 : Int32) else (1 : Int32)) else (1 : Int32)))))
set_option maxHeartbeats 4000000 in
set_option maxRecDepth 100000 in
theorem c_X4_wouldStand (l : Launch) (D : va_G) (cI cZ : ClassId) (q : Nat → Nat) (a1 : Int32) (a2 : Int32) (a3 : Int32) : RdI l yX4_wouldStand cX4_wouldStand 3 .boolean 0 0 D (tyL cI cZ) [] [.int a1, .int a2, .int a3] (f_X4_wouldStand a1 a2 a3) := by
  refine RdI.of (by decide) (Nat.le_of_ble_eq_true rfl) ?_
  intro p e s m args below meth c Q hx hb hml hown hts hP hK fin ls hl
  have hown : s.vm.findClass RX4 = some m.cls := hown
  have hF : CallFix p m c cX4_wouldStand 3 s args tb RX4 := ⟨hx, hb, hml, hown, hts⟩
  have hl : lv_has ls 3 [(0, .int a1), (1, .int a2), (2, .int a3)] := hl
  generalize hR : (f_X4_wouldStand a1 a2 a3) = R at fin
  unfold f_X4_wouldStand at hR
  refine lv_iload_n hx hb dX4_wouldStand_0 rfl (lv_at hl 1 rfl) ?_
  refine lv_if_ne (tgt := 6) hx hb dX4_wouldStand_1 (by decide) (fun c_1 => ?_) (fun c_1 => ?_)
  · rw [if_neg c_1] at hR
    refine lv_iload_n hx hb dX4_wouldStand_6 rfl (lv_at hl 0 rfl) ?_
    refine Decidable.byCases (p := a1 = (0 : Int32)) (fun c_7_0 => ?_) (fun c_7_0 => ?_)
    · rw [if_pos c_7_0] at hR
      refine lv_tableIn (tgt := 32) hx hb dX4_wouldStand_7 (by rw [c_7_0]; decide) (by rw [c_7_0]; decide) (by rw [c_7_0]; rfl) (by decide) ?_
      refine lv_iload_n hx hb dX4_wouldStand_32 rfl (lv_at hl 2 rfl) ?_
      refine lv_iconst (v := (1 : Int32)) hx hb dX4_wouldStand_33 (by decide) ?_
      refine lv_iand hx hb dX4_wouldStand_34 ?_
      refine lv_if_eq (tgt := 42) hx hb dX4_wouldStand_35 (by decide) (fun c_35 => ?_) (fun c_35 => ?_)
      · rw [if_pos c_35] at hR
        refine lv_iconst (v := (0 : Int32)) hx hb dX4_wouldStand_42 (by decide) ?_
        subst hR
        exact fin _ _ dX4_wouldStand_43 (nar_b (Or.inl rfl))
      · rw [if_neg c_35] at hR
        refine lv_iconst (v := (1 : Int32)) hx hb dX4_wouldStand_38 (by decide) ?_
        refine lv_goto (tgt := 43) hx hb dX4_wouldStand_39 (by decide) ?_
        subst hR
        exact fin _ _ dX4_wouldStand_43 (nar_b (Or.inr rfl))
    · rw [if_neg c_7_0] at hR
      refine Decidable.byCases (p := a1 = (1 : Int32)) (fun c_7_1 => ?_) (fun c_7_1 => ?_)
      · rw [if_pos c_7_1] at hR
        refine lv_tableIn (tgt := 44) hx hb dX4_wouldStand_7 (by rw [c_7_1]; decide) (by rw [c_7_1]; decide) (by rw [c_7_1]; rfl) (by decide) ?_
        refine lv_iload_n hx hb dX4_wouldStand_44 rfl (lv_at hl 2 rfl) ?_
        refine lv_bipush (v := (6 : Int32)) hx hb dX4_wouldStand_45 (by decide) ?_
        refine lv_iand hx hb dX4_wouldStand_47 ?_
        refine lv_bipush (v := (6 : Int32)) hx hb dX4_wouldStand_48 (by decide) ?_
        refine lv_icmp_ne (tgt := 57) hx hb dX4_wouldStand_50 (by decide) (fun c_50 => ?_) (fun c_50 => ?_)
        · rw [if_neg c_50] at hR
          refine lv_iconst (v := (0 : Int32)) hx hb dX4_wouldStand_57 (by decide) ?_
          subst hR
          exact fin _ _ dX4_wouldStand_58 (nar_b (Or.inl rfl))
        · rw [if_pos c_50] at hR
          refine lv_iconst (v := (1 : Int32)) hx hb dX4_wouldStand_53 (by decide) ?_
          refine lv_goto (tgt := 58) hx hb dX4_wouldStand_54 (by decide) ?_
          subst hR
          exact fin _ _ dX4_wouldStand_58 (nar_b (Or.inr rfl))
      · rw [if_neg c_7_1] at hR
        refine Decidable.byCases (p := a1 = (2 : Int32)) (fun c_7_2 => ?_) (fun c_7_2 => ?_)
        · rw [if_pos c_7_2] at hR
          refine lv_tableIn (tgt := 59) hx hb dX4_wouldStand_7 (by rw [c_7_2]; decide) (by rw [c_7_2]; decide) (by rw [c_7_2]; rfl) (by decide) ?_
          refine lv_iload_n hx hb dX4_wouldStand_59 rfl (lv_at hl 2 rfl) ?_
          refine lv_bipush (v := (25 : Int32)) hx hb dX4_wouldStand_60 (by decide) ?_
          refine lv_iand hx hb dX4_wouldStand_62 ?_
          refine lv_if_eq (tgt := 70) hx hb dX4_wouldStand_63 (by decide) (fun c_63 => ?_) (fun c_63 => ?_)
          · rw [if_pos c_63] at hR
            refine lv_iconst (v := (0 : Int32)) hx hb dX4_wouldStand_70 (by decide) ?_
            subst hR
            exact fin _ _ dX4_wouldStand_71 (nar_b (Or.inl rfl))
          · rw [if_neg c_63] at hR
            refine lv_iconst (v := (1 : Int32)) hx hb dX4_wouldStand_66 (by decide) ?_
            refine lv_goto (tgt := 71) hx hb dX4_wouldStand_67 (by decide) ?_
            subst hR
            exact fin _ _ dX4_wouldStand_71 (nar_b (Or.inr rfl))
        · rw [if_neg c_7_2] at hR
          refine lv_tableOut (tgt := 72) hx hb dX4_wouldStand_7 (by have h0 := lv_neT c_7_0 (a := 0) (by decide); have h1 := lv_neT c_7_1 (a := 1) (by decide); have h2 := lv_neT c_7_2 (a := 2) (by decide); omega) (by decide) ?_
          refine lv_iconst (v := (1 : Int32)) hx hb dX4_wouldStand_72 (by decide) ?_
          subst hR
          exact fin _ _ dX4_wouldStand_73 (nar_b (Or.inr rfl))
  · rw [if_pos c_1] at hR
    refine lv_iconst (v := (1 : Int32)) hx hb dX4_wouldStand_4 (by decide) ?_
    subst hR
    exact fin _ _ dX4_wouldStand_5 (nar_b (Or.inr rfl))
def f_X4_agreeWith_l2 (abouts : Nat → Int32) (stoods : Nat → Int32) (a1 : Int32) (a2 : Int32) : Nat → Nat → Int32
  | 0, i_2 => (1 : Int32)
  | d_2 + 1, i_2 => (if (f_X4_wouldStand a1 a2 (abouts i_2)) = (stoods i_2) then (f_X4_agreeWith_l2 abouts stoods a1 a2 d_2 (i_2 + 1) ) else (0 : Int32))
theorem f_X4_agreeWith_l2_z {abouts : Nat → Int32} {stoods : Nat → Int32} {a1 : Int32} {a2 : Int32} {i_2 : Nat}  : f_X4_agreeWith_l2 abouts stoods a1 a2 0 i_2  = (1 : Int32) := by rw [f_X4_agreeWith_l2]
theorem f_X4_agreeWith_l2_s {abouts : Nat → Int32} {stoods : Nat → Int32} {a1 : Int32} {a2 : Int32} {d_2 : Nat} {i_2 : Nat}  : f_X4_agreeWith_l2 abouts stoods a1 a2 (d_2 + 1) i_2  = (if (f_X4_wouldStand a1 a2 (abouts i_2)) = (stoods i_2) then (f_X4_agreeWith_l2 abouts stoods a1 a2 d_2 (i_2 + 1) ) else (0 : Int32)) := by rw [f_X4_agreeWith_l2]
def f_X4_agreeWith (tc : Nat) (abouts : Nat → Int32) (stoods : Nat → Int32) (a1 : Int32) (a2 : Int32) : Int32 := (f_X4_agreeWith_l2 abouts stoods a1 a2 tc 0 )
set_option maxHeartbeats 4000000 in
set_option maxRecDepth 100000 in
theorem c_X4_agreeWith (l : Launch) (D : va_G) (cI cZ : ClassId) (q : Nat → Nat) (tcnt : Int32) (abouts stoods : Nat → Int32) (a1 : Int32) (a2 : Int32) (tc : Nat) (htc : tcnt = nI tc) (htc6 : tc ≤ 6) : RdI l yX4_agreeWith cX4_agreeWith 4 .boolean 1 22 D (tyL cI cZ) (RW cI cZ q tcnt abouts stoods) [.ref (q 4), .int a1, .int a2] (f_X4_agreeWith tc abouts stoods a1 a2) := by
  refine RdI.of (by decide) (Nat.le_of_ble_eq_true rfl) ?_
  intro p e s m args below meth c Q hx hb hml hown hts hP hK fin ls hl
  have hown : s.vm.findClass RX4 = some m.cls := hown
  have hF : CallFix p m c cX4_agreeWith 4 s args tb RX4 := ⟨hx, hb, hml, hown, hts⟩
  have hl : lv_has ls 4 [(0, .ref (q 4)), (1, .int a1), (2, .int a2)] := hl
  generalize hR : (f_X4_agreeWith tc abouts stoods a1 a2) = R at fin
  unfold f_X4_agreeWith at hR
  refine lv_iconst (v := (0 : Int32)) hx hb dX4_agreeWith_0 (by decide) ?_
  refine lv_istore_n (lv' := [(3, .int (0 : Int32)), (0, .ref (q 4)), (1, .int a1), (2, .int a2)]) hx hb dX4_agreeWith_1 rfl hl (by decide) rfl (fun ls hl => ?_)
  have key_2 : ∀ (d_2 i_2 : Nat)  (ls : Array Slot), i_2 + d_2 = tc → f_X4_agreeWith_l2 abouts stoods a1 a2 d_2 i_2  = R → lv_has ls 4 [(3, .int (nI i_2)), (0, .ref (q 4)), (1, .int a1), (2, .int a2)] → W p l e (rmO 1 22) s m args below meth c s.heap [] 0 0 Q (F0 m 2 ls []) := by
    intro d_2
    induction d_2 with
    | zero =>
      intro i_2 ls hi_2 hR hl
      rw [f_X4_agreeWith_l2_z] at hR
      refine lv_iload_n hx hb dX4_agreeWith_2 rfl (lv_at hl 0 rfl) ?_
      refine lv_aload_n hx hb dX4_agreeWith_3 rfl (lv_at hl 1 rfl) ?_
      refine va_get (D := D) (ci := 3) (v := .int tcnt) (C := RX4) (T := TX4) (N := 3) hx hb hts tbX4 hown hK hP 0 RW_0 rfl 2 (by decide) (hts _ tm_1_91) (fun _ h9 => h9) rfl dX4_agreeWith_4 ?_
      refine lv_icmp_ge (tgt := 44) hx hb dX4_agreeWith_7 (by decide) (fun c_7 => ?_) (fun c_7 => absurd (by rw [htc]; exact nI_le  (by omega) (by omega)) c_7)
      refine lv_iconst (v := (1 : Int32)) hx hb dX4_agreeWith_44 (by decide) ?_
      subst hR
      exact fin _ _ dX4_agreeWith_45 (nar_b (Or.inr rfl))
    | succ d_2 ih_2 =>
      intro i_2 ls hi_2 hR hl
      rw [f_X4_agreeWith_l2_s] at hR
      refine lv_iload_n hx hb dX4_agreeWith_2 rfl (lv_at hl 0 rfl) ?_
      refine lv_aload_n hx hb dX4_agreeWith_3 rfl (lv_at hl 1 rfl) ?_
      refine va_get (D := D) (ci := 3) (v := .int tcnt) (C := RX4) (T := TX4) (N := 3) hx hb hts tbX4 hown hK hP 0 RW_0 rfl 2 (by decide) (hts _ tm_1_91) (fun _ h9 => h9) rfl dX4_agreeWith_4 ?_
      refine lv_icmp_ge (tgt := 44) hx hb dX4_agreeWith_7 (by decide) (fun c_7 => absurd c_7 (by rw [htc]; exact nI_ge  (by omega) (by omega))) (fun c_7 => ?_)
      refine lv_iload_n hx hb dX4_agreeWith_10 rfl (lv_at hl 0 rfl) ?_
      refine lv_bipush (v := (6 : Int32)) hx hb dX4_agreeWith_11 (by decide) ?_
      refine lv_icmp_ge (tgt := 44) hx hb dX4_agreeWith_13 (by decide) (fun c_13 => absurd c_13 (nI_ge (b := 6) (by omega) (by omega))) (fun c_13 => ?_)
      refine lv_iload_n hx hb dX4_agreeWith_16 rfl (lv_at hl 2 rfl) ?_
      refine lv_iload_n hx hb dX4_agreeWith_17 rfl (lv_at hl 3 rfl) ?_
      refine lv_aload_n hx hb dX4_agreeWith_18 rfl (lv_at hl 1 rfl) ?_
      refine va_get (D := D) (ci := 3) (v := .ref (q 10)) (C := RX4) (T := TX4) (N := 3) hx hb hts tbX4 hown hK hP 0 RW_0 rfl 0 (by decide) (hts _ tm_1_89) (fun _ h9 => h9) rfl dX4_agreeWith_19 ?_
      refine lv_iload_n hx hb dX4_agreeWith_22 rfl (lv_at hl 0 rfl) ?_
      refine va_iald hx hb hK hP 1 0 RW_1 rfl (vp_in_nI (show i_2 < 6 by omega) (by omega)) dX4_agreeWith_23 ?_
      refine lv_rw (z := (abouts i_2)) (congrArg abouts (nI_clamp (show i_2 < 2 ^ 31 by omega))) ?_
      refine sRdI (As := [.int a1, .int a2, .int (abouts i_2)]) (rest := []) hF (c_X4_wouldStand l D cI cZ q a1 a2 (abouts i_2)) (gdS tm_2_177 tm_2_178 tm_1_5 tm_2_179) de_X4_wouldStand ⟨Nat.le_of_ble_eq_true rfl, Nat.le_of_ble_eq_true rfl⟩ va_P_nil hK hl.1 rfl (Nat.le_of_ble_eq_true rfl) dX4_agreeWith_24 ⟨Nat.zero_le _, Nat.zero_le _⟩ ?_
      refine lv_aload_n hx hb dX4_agreeWith_27 rfl (lv_at hl 1 rfl) ?_
      refine va_get (D := D) (ci := 3) (v := .ref (q 11)) (C := RX4) (T := TX4) (N := 3) hx hb hts tbX4 hown hK hP 0 RW_0 rfl 1 (by decide) (hts _ tm_1_90) (fun _ h9 => h9) rfl dX4_agreeWith_28 ?_
      refine lv_iload_n hx hb dX4_agreeWith_31 rfl (lv_at hl 0 rfl) ?_
      refine va_zald hx hb hK hP 2 1 RW_2 rfl (vp_in_nI (show i_2 < 6 by omega) (by omega)) dX4_agreeWith_32 ?_
      refine lv_rw (z := (stoods i_2)) (congrArg stoods (nI_clamp (show i_2 < 2 ^ 31 by omega))) ?_
      refine lv_icmp_eq (tgt := 38) hx hb dX4_agreeWith_33 (by decide) (fun c_33 => ?_) (fun c_33 => ?_)
      · rw [if_pos c_33] at hR
        refine lv_iinc (v := (nI (i_2 + 1))) (lv' := [(3, .int (nI (i_2 + 1))), (0, .ref (q 4)), (1, .int a1), (2, .int a2)]) hx hb dX4_agreeWith_38 hl (k := 0) rfl (nI_up i_2) (by decide) rfl (fun ls hl => ?_)
        refine lv_goto (tgt := 2) hx hb dX4_agreeWith_41 (by decide) ?_
        exact ih_2 (i_2 + 1)  ls (by omega) hR (lv_sub hl [0, 1, 2, 3] rfl)
      · rw [if_neg c_33] at hR
        refine lv_iconst (v := (0 : Int32)) hx hb dX4_agreeWith_36 (by decide) ?_
        subst hR
        exact fin _ _ dX4_agreeWith_37 (nar_b (Or.inl rfl))
  exact key_2 tc 0  ls (by omega) hR (lv_sub hl [0, 1, 2, 3] rfl)
def f_X4_add (tcnt : Int32) (abouts : Nat → Int32) (stoods : Nat → Int32) (a1 : Int32) (a2 : Int32) : (Int32) × (Int32) × (Nat → Int32) × (Nat → Int32) := (if tcnt < (0 : Int32) then ((0 : Int32), tcnt, abouts, stoods) else (if tcnt < (6 : Int32) then ((1 : Int32), (tcnt + (1 : Int32)), (upd abouts tcnt.toNatClampNeg a1), (upd stoods tcnt.toNatClampNeg a2)) else ((0 : Int32), tcnt, abouts, stoods)))
set_option maxHeartbeats 4000000 in
set_option maxRecDepth 100000 in
theorem c_X4_add (l : Launch) (D : va_G) (cI cZ : ClassId) (q : Nat → Nat) (now rains length poles parts plain key stair air acnt tcnt : Int32) (letters cells kinds frames rainsB abouts stoods kept keptF keptR : Nat → Int32) (seed : Int64) (a1 : Int32) (a2 : Int32) (ha2 : a2 = 0 ∨ a2 = 1) : WrI l yX4_add cX4_add 3 .boolean 0 0 D (tyL cI cZ) (XW cI cZ q now rains length poles parts plain key stair air acnt tcnt letters cells kinds frames rainsB abouts stoods kept keptF keptR seed) [.ref (q 4), .int a1, .int a2] (f_X4_add tcnt abouts stoods a1 a2).1 (XW cI cZ q now rains length poles parts plain key stair air acnt (f_X4_add tcnt abouts stoods a1 a2).2.1 letters cells kinds frames rainsB (f_X4_add tcnt abouts stoods a1 a2).2.2.1 (f_X4_add tcnt abouts stoods a1 a2).2.2.2 kept keptF keptR seed) := by
  refine WrI.of (by decide) (Nat.le_of_ble_eq_true rfl) ?_
  intro p e s m args below meth c Q A hx hb hml hown hts hP hK hD hS fin ls hl
  have hown : s.vm.findClass RX4 = some m.cls := hown
  have hF : CallFix p m c cX4_add 3 s args tb RX4 := ⟨hx, hb, hml, hown, hts⟩
  have hl : lv_has ls 3 [(0, .ref (q 4)), (1, .int a1), (2, .int a2)] := hl
  generalize hR : (f_X4_add tcnt abouts stoods a1 a2) = R at fin
  unfold f_X4_add at hR
  refine lv_aload_n hx hb dX4_add_0 rfl (lv_at hl 0 rfl) ?_
  refine va_get (D := D) (ci := 3) (v := .int tcnt) (C := RX4) (T := TX4) (N := 3) hx hb hts tbX4 hown hK hP 4 XW_4 rfl 2 (by decide) (hts _ tm_1_91) (fun _ h9 => h9) rfl dX4_add_1 ?_
  refine lv_if_lt (tgt := 16) hx hb dX4_add_4 (by decide) (fun c_4 => ?_) (fun c_4 => ?_)
  · rw [if_pos c_4] at hR
    refine lv_iconst (v := (0 : Int32)) hx hb dX4_add_16 (by decide) ?_
    subst hR
    exact fin _ _ _ _ dX4_add_17 (nar_b (Or.inl rfl)) hP hS
  · rw [if_neg c_4] at hR
    refine lv_aload_n hx hb dX4_add_7 rfl (lv_at hl 0 rfl) ?_
    refine va_get (D := D) (ci := 3) (v := .int tcnt) (C := RX4) (T := TX4) (N := 3) hx hb hts tbX4 hown hK hP 4 XW_4 rfl 2 (by decide) (hts _ tm_1_91) (fun _ h9 => h9) rfl dX4_add_8 ?_
    refine lv_bipush (v := (6 : Int32)) hx hb dX4_add_11 (by decide) ?_
    refine lv_icmp_lt (tgt := 18) hx hb dX4_add_13 (by decide) (fun c_13 => ?_) (fun c_13 => ?_)
    · rw [if_pos c_13] at hR
      refine lv_aload_n hx hb dX4_add_18 rfl (lv_at hl 0 rfl) ?_
      refine va_get (D := D) (ci := 3) (v := .ref (q 10)) (C := RX4) (T := TX4) (N := 3) hx hb hts tbX4 hown hK hP 4 XW_4 rfl 0 (by decide) (hts _ tm_1_89) (fun _ h9 => h9) rfl dX4_add_19 ?_
      refine lv_aload_n hx hb dX4_add_22 rfl (lv_at hl 0 rfl) ?_
      refine va_get (D := D) (ci := 3) (v := .int tcnt) (C := RX4) (T := TX4) (N := 3) hx hb hts tbX4 hown hK hP 4 XW_4 rfl 2 (by decide) (hts _ tm_1_91) (fun _ h9 => h9) rfl dX4_add_23 ?_
      refine lv_iload_n hx hb dX4_add_26 rfl (lv_at hl 1 rfl) ?_
      refine va_iast hx hb hK hP hD hS 10 0 XW_10 rfl (vi_a (b := 6) (by decide) c_4 c_13) dX4_add_27 (fun H locs hP hD hS => ?_)
      have hP : va_P D vwCl (XW cI cZ q now rains length poles parts plain key stair air acnt tcnt letters cells kinds frames rainsB (upd abouts tcnt.toNatClampNeg a1) stoods kept keptF keptR seed) H := hP
      have hD : va_D A (XW cI cZ q now rains length poles parts plain key stair air acnt tcnt letters cells kinds frames rainsB (upd abouts tcnt.toNatClampNeg a1) stoods kept keptF keptR seed) := hD.same rfl
      refine lv_aload_n hx hb dX4_add_28 rfl (lv_at hl 0 rfl) ?_
      refine va_get (D := D) (ci := 3) (v := .ref (q 11)) (C := RX4) (T := TX4) (N := 3) hx hb hts tbX4 hown hK hP 4 XW_4 rfl 1 (by decide) (hts _ tm_1_90) (fun _ h9 => h9) rfl dX4_add_29 ?_
      refine lv_aload_n hx hb dX4_add_32 rfl (lv_at hl 0 rfl) ?_
      refine va_get (D := D) (ci := 3) (v := .int tcnt) (C := RX4) (T := TX4) (N := 3) hx hb hts tbX4 hown hK hP 4 XW_4 rfl 2 (by decide) (hts _ tm_1_91) (fun _ h9 => h9) rfl dX4_add_33 ?_
      refine lv_iload_n hx hb dX4_add_36 rfl (lv_at hl 2 rfl) ?_
      refine va_zast hx hb hK hP hD hS 11 1 XW_11 rfl (vi_a (b := 6) (by decide) c_4 c_13) dX4_add_37 (fun H locs hP hD hS => ?_)
      have hP : va_P D vwCl (XW cI cZ q now rains length poles parts plain key stair air acnt tcnt letters cells kinds frames rainsB (upd abouts tcnt.toNatClampNeg a1) (upd stoods tcnt.toNatClampNeg (vp_nar .boolean a2)) kept keptF keptR seed) H := hP
      rw [show vp_nar .boolean a2 = a2 from (nar_z ha2)] at hP
      have hD : va_D A (XW cI cZ q now rains length poles parts plain key stair air acnt tcnt letters cells kinds frames rainsB (upd abouts tcnt.toNatClampNeg a1) (upd stoods tcnt.toNatClampNeg a2) kept keptF keptR seed) := hD.same rfl
      refine lv_aload_n hx hb dX4_add_38 rfl (lv_at hl 0 rfl) ?_
      refine lv_dup hx hb dX4_add_39 rfl ?_
      refine va_get (D := D) (ci := 3) (v := .int tcnt) (C := RX4) (T := TX4) (N := 3) hx hb hts tbX4 hown hK hP 4 XW_4 rfl 2 (by decide) (hts _ tm_1_91) (fun _ h9 => h9) rfl dX4_add_40 ?_
      refine lv_iconst (v := (1 : Int32)) hx hb dX4_add_43 (by decide) ?_
      refine lv_iadd hx hb dX4_add_44 ?_
      refine va_put (D := D) (ci := 3) (v := .int (tcnt + (1 : Int32))) (ty := .int) (C := RX4) (T := TX4) (N := 3) hx hb hts tbX4 tyX4 tyX4_ok nmX4 hown hK hP hD hS 4 XW_4 rfl 2 (by decide) (hts _ tm_1_91) (fun _ h9 => h9) rfl (by decide +kernel) rfl rfl (Nat.le_of_ble_eq_true rfl) dX4_add_45 (fun H locs hP hD hS => ?_)
      have hP : va_P D vwCl (XW cI cZ q now rains length poles parts plain key stair air acnt (tcnt + (1 : Int32)) letters cells kinds frames rainsB (upd abouts tcnt.toNatClampNeg a1) (upd stoods tcnt.toNatClampNeg a2) kept keptF keptR seed) H := hP
      have hD : va_D A (XW cI cZ q now rains length poles parts plain key stair air acnt (tcnt + (1 : Int32)) letters cells kinds frames rainsB (upd abouts tcnt.toNatClampNeg a1) (upd stoods tcnt.toNatClampNeg a2) kept keptF keptR seed) := hD.same rfl
      refine lv_iconst (v := (1 : Int32)) hx hb dX4_add_48 (by decide) ?_
      subst hR
      exact fin _ _ _ _ dX4_add_49 (nar_b (Or.inr rfl)) hP hS
    · rw [if_neg c_13] at hR
      refine lv_iconst (v := (0 : Int32)) hx hb dX4_add_16 (by decide) ?_
      subst hR
      exact fin _ _ _ _ dX4_add_17 (nar_b (Or.inl rfl)) hP hS
