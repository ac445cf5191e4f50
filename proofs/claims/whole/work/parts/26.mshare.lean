theorem de_X6_share : deOK yX6_share 2 := by decide +kernel
theorem de_X6_attempt : deOK yX6_attempt 2 := by decide +kernel
theorem de_X6_unattempt : deOK yX6_unattempt 0 := by decide +kernel
theorem de_X6_kinds : deOK yX6_kinds 1 := by decide +kernel
theorem de_X6_wipe : deOK yX6_wipe 0 := by decide +kernel
theorem de_X6_seed : deOK yX6_seed 1 := by decide +kernel
def f_X6_share_l89 (n : Nat) (a1 : Int32) (vl17 : Nat → Int32) : Nat → Nat → (Int32) → Int32
  | 0, i_89, up89 => up89
  | d_89 + 1, i_89, up89 => (if (f_X6_has (nI i_89) a1) = (0 : Int32) then (f_X6_share_l89 n a1 vl17 d_89 (i_89 + 1) (up89 + (((f_X6_ways (f_X6_many (nI i_89))) * (f_X6_ways (((nI n) - (1 : Int32)) - (f_X6_many (nI i_89))))) * ((vl17 (i_89 ||| 2 ^ a1.toNatClampNeg)) - (vl17 i_89))))) else (f_X6_share_l89 n a1 vl17 d_89 (i_89 + 1) up89))
theorem f_X6_share_l89_z {n : Nat} {a1 : Int32} {vl17 : Nat → Int32} {i_89 : Nat} {up89 : Int32} : f_X6_share_l89 n a1 vl17 0 i_89 up89 = up89 := by rw [f_X6_share_l89]
theorem f_X6_share_l89_s {n : Nat} {a1 : Int32} {vl17 : Nat → Int32} {d_89 : Nat} {i_89 : Nat} {up89 : Int32} : f_X6_share_l89 n a1 vl17 (d_89 + 1) i_89 up89 = (if (f_X6_has (nI i_89) a1) = (0 : Int32) then (f_X6_share_l89 n a1 vl17 d_89 (i_89 + 1) (up89 + (((f_X6_ways (f_X6_many (nI i_89))) * (f_X6_ways (((nI n) - (1 : Int32)) - (f_X6_many (nI i_89))))) * ((vl17 (i_89 ||| 2 ^ a1.toNatClampNeg)) - (vl17 i_89))))) else (f_X6_share_l89 n a1 vl17 d_89 (i_89 + 1) up89)) := by rw [f_X6_share_l89]
def f_X6_share_l34  : Nat → Nat → (Nat → Int32) → Nat → Int32
  | 0, i_34, tr34 => tr34
  | d_34 + 1, i_34, tr34 => (f_X6_share_l34  d_34 (i_34 + 1) (upd tr34 i_34 (0 : Int32)))
theorem f_X6_share_l34_z  {i_34 : Nat} {tr34 : Nat → Int32} : f_X6_share_l34  0 i_34 tr34 = tr34 := by rw [f_X6_share_l34]
theorem f_X6_share_l34_s  {d_34 : Nat} {i_34 : Nat} {tr34 : Nat → Int32} : f_X6_share_l34  (d_34 + 1) i_34 tr34 = (f_X6_share_l34  d_34 (i_34 + 1) (upd tr34 i_34 (0 : Int32))) := by rw [f_X6_share_l34]
def f_X6_share_l17 (cl : Nat → Nat) (n : Nat) (lies : Nat → Int32) (kind : Nat → Int32) (page : Nat → Int32) : Nat → Nat → (Nat → Int32) → (Nat → Int32) → (Nat → Int32) × (Nat → Int32)
  | 0, i_17, tr17, vl17 => (tr17, vl17)
  | d_17 + 1, i_17, tr17, vl17 => (f_X6_share_l17 cl n lies kind page d_17 (i_17 + 1) (upd (f_X6_share_l34  4 0 (f_X6_begin page tr17)) 5 (nI i_17)) (upd vl17 i_17 (f_X6_many (f_X6_standing cl n (upd (f_X6_share_l34  4 0 (f_X6_begin page tr17)) 5 (nI i_17)) lies kind))))
theorem f_X6_share_l17_z {cl : Nat → Nat} {n : Nat} {lies : Nat → Int32} {kind : Nat → Int32} {page : Nat → Int32} {i_17 : Nat} {tr17 : Nat → Int32} {vl17 : Nat → Int32} : f_X6_share_l17 cl n lies kind page 0 i_17 tr17 vl17 = (tr17, vl17) := by rw [f_X6_share_l17]
theorem f_X6_share_l17_s {cl : Nat → Nat} {n : Nat} {lies : Nat → Int32} {kind : Nat → Int32} {page : Nat → Int32} {d_17 : Nat} {i_17 : Nat} {tr17 : Nat → Int32} {vl17 : Nat → Int32} : f_X6_share_l17 cl n lies kind page (d_17 + 1) i_17 tr17 vl17 = (f_X6_share_l17 cl n lies kind page d_17 (i_17 + 1) (upd (f_X6_share_l34  4 0 (f_X6_begin page tr17)) 5 (nI i_17)) (upd vl17 i_17 (f_X6_many (f_X6_standing cl n (upd (f_X6_share_l34  4 0 (f_X6_begin page tr17)) 5 (nI i_17)) lies kind)))) := by rw [f_X6_share_l17]
def f_X6_share (cl : Nat → Nat) (n : Nat) (lies : Nat → Int32) (kind : Nat → Int32) (page : Nat → Int32) (trial : Nat → Int32) (value : Nat → Int32) (a1 : Int32) (a2 : Int32) : (Int32) × (Int32) × (Nat → Int32) × (Nat → Int32) := (if (f_X6_noPart n a1) = (0 : Int32) then ((f_X6_fraction (f_X6_share_l89 n a1 (f_X6_share_l17 cl n lies kind page (2 ^ n) 0 trial value).2 (2 ^ n) 0 (0 : Int32)) (f_X6_ways (nI n)) a2), (0 : Int32), (f_X6_share_l17 cl n lies kind page (2 ^ n) 0 trial value).1, (f_X6_share_l17 cl n lies kind page (2 ^ n) 0 trial value).2) else ((-1 : Int32), (0 : Int32), trial, value))
set_option maxHeartbeats 4000000 in
set_option maxRecDepth 100000 in
theorem c_X6_share (l : Launch) (D : va_G) (cI cZ : ClassId) (q : Nat → Nat) (thrown : Int32) (textSize : Int32) (place : Int32) (stock : Int32) (n : Nat) (readStock : Int32) (readCells : Int32) (readParts : Int32) (acts : Int32) (tried : Int32) (soonMany : Int32) (soonWhich : Int32) (kindMany : Int32) (kindFirst : Int32) (restMany : Int32) (restFirst : Int32) (text lies kind readPart page trial book kept isKept triedAbout triedIs gains value : Nat → Int32) (seed : Int64) (a1 : Int32) (a2 : Int32) (hn7 : n ≤ 7) (cl : Nat → Nat) (hcl : ∀ j, j < 7 → lies j = nI (cl j) ∧ cl j < 16) : WrI l yX6_share cX6_share 6 .int 5 120 D (tyL cI cZ) (MW cI cZ q thrown textSize place stock (nI n) readStock readCells readParts acts tried soonMany soonWhich kindMany kindFirst restMany restFirst text lies kind readPart page trial book kept isKept triedAbout triedIs gains value seed) [.ref (q 0), .int a1, .int a2] (f_X6_share cl n lies kind page trial value a1 a2).1 (MW cI cZ q (f_X6_share cl n lies kind page trial value a1 a2).2.1 textSize place stock (nI n) readStock readCells readParts acts tried soonMany soonWhich kindMany kindFirst restMany restFirst text lies kind readPart page (f_X6_share cl n lies kind page trial value a1 a2).2.2.1 book kept isKept triedAbout triedIs gains (f_X6_share cl n lies kind page trial value a1 a2).2.2.2 seed) := by
  refine WrI.of (by decide) (Nat.le_of_ble_eq_true rfl) ?_
  intro p e s m args below meth c Q A hx hb hml hown hts hP hK hD hS fin ls hl
  have hown : s.vm.findClass RX6 = some m.cls := hown
  have hF : CallFix p m c cX6_share 6 s args tb RX6 := ⟨hx, hb, hml, hown, hts⟩
  have hl : lv_has ls 6 [(0, .ref (q 0)), (1, .int a1), (2, .int a2)] := hl
  generalize hR : (f_X6_share cl n lies kind page trial value a1 a2) = R at fin
  unfold f_X6_share at hR
  refine lv_aload_n hx hb dX6_share_0 rfl (lv_at hl 0 rfl) ?_
  refine lv_iconst (v := (0 : Int32)) hx hb dX6_share_1 (by decide) ?_
  refine va_put (D := D) (ci := 5) (v := .int (0 : Int32)) (ty := .int) (C := RX6) (T := TX6) (N := 30) hx hb hts tbX6 tyX6 tyX6_ok nmX6 hown hK hP hD hS 0 MW_0 rfl 0 (by decide) (hts _ tm_3_1) (fun _ h9 => h9) rfl (by decide +kernel) rfl rfl (Nat.le_of_ble_eq_true rfl) dX6_share_2 (fun H locs hP _ hS => ?_)
  have hP : va_P D vwCl (MW cI cZ q (0 : Int32) textSize place stock (nI n) readStock readCells readParts acts tried soonMany soonWhich kindMany kindFirst restMany restFirst text lies kind readPart page trial book kept isKept triedAbout triedIs gains value seed) H := hP
  have hD : va_D A (MW cI cZ q (0 : Int32) textSize place stock (nI n) readStock readCells readParts acts tried soonMany soonWhich kindMany kindFirst restMany restFirst text lies kind readPart page trial book kept isKept triedAbout triedIs gains value seed) := hD.same (MW_ad.trans MW_ad.symm)
  refine lv_aload_n hx hb dX6_share_5 rfl (lv_at hl 0 rfl) ?_
  refine lv_iload_n hx hb dX6_share_6 rfl (lv_at hl 1 rfl) ?_
  refine vRdI (b := (q 0)) (As := [.int a1]) (rest := []) hF (c_X6_noPart l D cI cZ q (0 : Int32) textSize place stock n readStock readCells readParts acts tried soonMany soonWhich kindMany kindFirst restMany restFirst text lies kind readPart page trial book kept isKept triedAbout triedIs gains value seed a1) (gdV tm_3_178 tm_3_180 tp_20 tm_1_6 tm_3_181) de_X6_noPart ⟨Nat.le_of_ble_eq_true rfl, Nat.le_of_ble_eq_true rfl⟩ hP hK (va_recv hK hP (ci := 5) (q0 := 0) rfl MW_0) hl.1 rfl (Nat.le_of_ble_eq_true rfl) dX6_share_7 ⟨Nat.zero_le _, Nat.zero_le _⟩ ?_
  refine lv_if_eq (tgt := 15) hx hb dX6_share_10 (by decide) (fun c_10 => ?_) (fun c_10 => ?_)
  · rw [if_pos c_10] at hR
    have hp1 := noPart_nI hn7 c_10
    have hp2 := noPart_lt hn7 c_10
    have hn2 := pow7 n hn7
    refine lv_iconst (v := (0 : Int32)) hx hb dX6_share_15 (by decide) ?_
    refine lv_istore_n (lv' := [(3, .int (0 : Int32)), (0, .ref (q 0)), (1, .int a1), (2, .int a2)]) hx hb dX6_share_16 rfl hl (by decide) rfl (fun ls hl => ?_)
    obtain ⟨T_17, hT_17⟩ : ∃ z, f_X6_share_l17 cl n lies kind page (2 ^ n) 0 trial value = z := ⟨_, rfl⟩
    rw [hT_17] at hR
    have key_17 : ∀ (d_17 i_17 : Nat) (tr17 : Nat → Int32) (vl17 : Nat → Int32) (ls : Array Slot) (H : Heap) (locs : List Loc), i_17 + d_17 = (2 ^ n) → f_X6_share_l17 cl n lies kind page d_17 i_17 tr17 vl17 = T_17 → lv_has ls 6 [(3, .int (nI i_17)), (0, .ref (q 0)), (1, .int a1), (2, .int a2)] → va_P D vwCl (MW cI cZ q (0 : Int32) textSize place stock (nI n) readStock readCells readParts acts tried soonMany soonWhich kindMany kindFirst restMany restFirst text lies kind readPart page tr17 book kept isKept triedAbout triedIs gains vl17 seed) H → va_S A s.heap H locs → W p l e (rmO 5 120) s m args below meth c H locs 0 0 Q (F0 m 17 ls []) := by
      intro d_17
      induction d_17 with
      | zero =>
        intro i_17 tr17 vl17 ls H locs hi_17 hT_17 hl hP hS
        have hD : va_D A (MW cI cZ q (0 : Int32) textSize place stock (nI n) readStock readCells readParts acts tried soonMany soonWhich kindMany kindFirst restMany restFirst text lies kind readPart page tr17 book kept isKept triedAbout triedIs gains vl17 seed) := hD.same (MW_ad.trans MW_ad.symm)
        rw [f_X6_share_l17_z] at hT_17
        refine lv_iload_n hx hb dX6_share_17 rfl (lv_at hl 0 rfl) ?_
        refine lv_iconst (v := (1 : Int32)) hx hb dX6_share_18 (by decide) ?_
        refine lv_aload_n hx hb dX6_share_19 rfl (lv_at hl 1 rfl) ?_
        refine va_get (D := D) (ci := 5) (v := .int (nI n)) (C := RX6) (T := TX6) (N := 30) hx hb hts tbX6 hown hK hP 0 MW_0 rfl 5 (by decide) (hts _ tm_3_6) (fun _ h9 => h9) rfl dX6_share_20 ?_
        refine lv_ishl hx hb dX6_share_23 ?_
        refine lv_rw (z := (shl (1 : Int32) (nI n))) rfl ?_
        refine lv_rw (z := (nI (2 ^ n))) (shl_pow n (by omega)) ?_
        refine lv_icmp_ge (tgt := 84) hx hb dX6_share_24 (by decide) (fun c_24 => ?_) (fun c_24 => absurd (nI_le  (by omega) (by omega)) c_24)
        subst hT_17
        try dsimp only at hR
        refine lv_iconst (v := (0 : Int32)) hx hb dX6_share_84 (by decide) ?_
        refine lv_istore_n (lv' := [(3, .int (0 : Int32)), (0, .ref (q 0)), (1, .int a1), (2, .int a2)]) hx hb dX6_share_85 rfl hl (by decide) rfl (fun ls hl => ?_)
        refine lv_iconst (v := (0 : Int32)) hx hb dX6_share_86 (by decide) ?_
        refine lv_istore (lv' := [(4, .int (0 : Int32)), (3, .int (0 : Int32)), (0, .ref (q 0)), (1, .int a1), (2, .int a2)]) hx hb dX6_share_87 hl (by decide) rfl (fun ls hl => ?_)
        obtain ⟨T_89, hT_89⟩ : ∃ z, f_X6_share_l89 n a1 vl17 (2 ^ n) 0 (0 : Int32) = z := ⟨_, rfl⟩
        rw [hT_89] at hR
        have key_89 : ∀ (d_89 i_89 : Nat) (up89 : Int32) (ls : Array Slot) (H : Heap) (locs : List Loc), i_89 + d_89 = (2 ^ n) → f_X6_share_l89 n a1 vl17 d_89 i_89 up89 = T_89 → lv_has ls 6 [(4, .int (nI i_89)), (3, .int up89), (0, .ref (q 0)), (1, .int a1), (2, .int a2)] → va_P D vwCl (MW cI cZ q (0 : Int32) textSize place stock (nI n) readStock readCells readParts acts tried soonMany soonWhich kindMany kindFirst restMany restFirst text lies kind readPart page tr17 book kept isKept triedAbout triedIs gains vl17 seed) H → va_S A s.heap H locs → W p l e (rmO 5 120) s m args below meth c H locs 0 0 Q (F0 m 89 ls []) := by
          intro d_89
          induction d_89 with
          | zero =>
            intro i_89 up89 ls H locs hi_89 hT_89 hl hP hS
            have hD : va_D A (MW cI cZ q (0 : Int32) textSize place stock (nI n) readStock readCells readParts acts tried soonMany soonWhich kindMany kindFirst restMany restFirst text lies kind readPart page tr17 book kept isKept triedAbout triedIs gains vl17 seed) := hD.same (MW_ad.trans MW_ad.symm)
            rw [f_X6_share_l89_z] at hT_89
            refine lv_iload hx hb dX6_share_89 (lv_at hl 0 rfl) ?_
            refine lv_iconst (v := (1 : Int32)) hx hb dX6_share_91 (by decide) ?_
            refine lv_aload_n hx hb dX6_share_92 rfl (lv_at hl 2 rfl) ?_
            refine va_get (D := D) (ci := 5) (v := .int (nI n)) (C := RX6) (T := TX6) (N := 30) hx hb hts tbX6 hown hK hP 0 MW_0 rfl 5 (by decide) (hts _ tm_3_6) (fun _ h9 => h9) rfl dX6_share_93 ?_
            refine lv_ishl hx hb dX6_share_96 ?_
            refine lv_rw (z := (shl (1 : Int32) (nI n))) rfl ?_
            refine lv_rw (z := (nI (2 ^ n))) (shl_pow n (by omega)) ?_
            refine lv_icmp_ge (tgt := 163) hx hb dX6_share_97 (by decide) (fun c_97 => ?_) (fun c_97 => absurd (nI_le  (by omega) (by omega)) c_97)
            subst hT_89
            try dsimp only at hR
            refine lv_iload_n hx hb dX6_share_163 rfl (lv_at hl 1 rfl) ?_
            refine lv_aload_n hx hb dX6_share_164 rfl (lv_at hl 2 rfl) ?_
            refine va_get (D := D) (ci := 5) (v := .int (nI n)) (C := RX6) (T := TX6) (N := 30) hx hb hts tbX6 hown hK hP 0 MW_0 rfl 5 (by decide) (hts _ tm_3_6) (fun _ h9 => h9) rfl dX6_share_165 ?_
            refine sRdI (As := [.int (nI n)]) (rest := [.int up89]) hF (c_X6_ways l D cI cZ q (nI n) (by rw [nI_toInt (by omega)]; omega)) (gdS tm_4_26 tm_4_27 tm_1_6 tm_4_28) de_X6_ways ⟨Nat.le_of_ble_eq_true rfl, Nat.le_of_ble_eq_true rfl⟩ va_P_nil hK hl.1 rfl (Nat.le_of_ble_eq_true rfl) dX6_share_168 ⟨Nat.zero_le _, Nat.zero_le _⟩ ?_
            refine lv_iload_n hx hb dX6_share_171 rfl (lv_at hl 4 rfl) ?_
            refine sRdI (As := [.int up89, .int (f_X6_ways (nI n)), .int a2]) (rest := []) hF (c_X6_fraction l D cI cZ q up89 (f_X6_ways (nI n)) a2 (ways_ok n hn7).1 (ways_ok n hn7).2) (gdS tm_4_29 tm_4_30 tm_1_6 tm_4_31) de_X6_fraction ⟨Nat.le_of_ble_eq_true rfl, Nat.le_of_ble_eq_true rfl⟩ va_P_nil hK hl.1 rfl (Nat.le_of_ble_eq_true rfl) dX6_share_172 ⟨Nat.zero_le _, Nat.zero_le _⟩ ?_
            subst hR
            exact fin _ _ _ _ dX6_share_175 (nar_i _) hP hS
          | succ d_89 ih_89 =>
            intro i_89 up89 ls H locs hi_89 hT_89 hl hP hS
            have hD : va_D A (MW cI cZ q (0 : Int32) textSize place stock (nI n) readStock readCells readParts acts tried soonMany soonWhich kindMany kindFirst restMany restFirst text lies kind readPart page tr17 book kept isKept triedAbout triedIs gains vl17 seed) := hD.same (MW_ad.trans MW_ad.symm)
            rw [f_X6_share_l89_s] at hT_89
            refine lv_iload hx hb dX6_share_89 (lv_at hl 0 rfl) ?_
            refine lv_iconst (v := (1 : Int32)) hx hb dX6_share_91 (by decide) ?_
            refine lv_aload_n hx hb dX6_share_92 rfl (lv_at hl 2 rfl) ?_
            refine va_get (D := D) (ci := 5) (v := .int (nI n)) (C := RX6) (T := TX6) (N := 30) hx hb hts tbX6 hown hK hP 0 MW_0 rfl 5 (by decide) (hts _ tm_3_6) (fun _ h9 => h9) rfl dX6_share_93 ?_
            refine lv_ishl hx hb dX6_share_96 ?_
            refine lv_rw (z := (shl (1 : Int32) (nI n))) rfl ?_
            refine lv_rw (z := (nI (2 ^ n))) (shl_pow n (by omega)) ?_
            refine lv_icmp_ge (tgt := 163) hx hb dX6_share_97 (by decide) (fun c_97 => absurd c_97 (nI_ge  (by omega) (by omega))) (fun c_97 => ?_)
            refine lv_iload hx hb dX6_share_100 (lv_at hl 0 rfl) ?_
            refine lv_iload_n hx hb dX6_share_102 rfl (lv_at hl 3 rfl) ?_
            refine sRdI (As := [.int (nI i_89), .int a1]) (rest := []) hF (c_X6_has l D cI cZ q (nI i_89) a1) (gdS tm_3_118 tm_3_119 tm_1_6 tm_3_120) de_X6_has ⟨Nat.le_of_ble_eq_true rfl, Nat.le_of_ble_eq_true rfl⟩ va_P_nil hK hl.1 rfl (Nat.le_of_ble_eq_true rfl) dX6_share_103 ⟨Nat.zero_le _, Nat.zero_le _⟩ ?_
            refine lv_if_ne (tgt := 157) hx hb dX6_share_106 (by decide) (fun c_106 => ?_) (fun c_106 => ?_)
            · rw [if_neg c_106] at hT_89
              refine lv_iinc (v := (nI (i_89 + 1))) (lv' := [(4, .int (nI (i_89 + 1))), (3, .int up89), (0, .ref (q 0)), (1, .int a1), (2, .int a2)]) hx hb dX6_share_157 hl (k := 0) rfl (nI_up i_89) (by decide) rfl (fun ls hl => ?_)
              refine lv_goto (tgt := 89) hx hb dX6_share_160 (by decide) ?_
              exact ih_89 (i_89 + 1) up89 ls _ _ (by omega) hT_89 (lv_sub hl [0, 1, 2, 3, 4] rfl) hP hS
            · rw [if_pos c_106] at hT_89
              refine lv_iload hx hb dX6_share_109 (lv_at hl 0 rfl) ?_
              refine sRdI (As := [.int (nI i_89)]) (rest := []) hF (c_X6_many l D cI cZ q (nI i_89)) (gdS tm_3_171 tm_3_172 tm_1_6 tm_3_173) de_X6_many ⟨Nat.le_of_ble_eq_true rfl, Nat.le_of_ble_eq_true rfl⟩ va_P_nil hK hl.1 rfl (Nat.le_of_ble_eq_true rfl) dX6_share_111 ⟨Nat.zero_le _, Nat.zero_le _⟩ ?_
              refine lv_istore (lv' := [(5, .int (f_X6_many (nI i_89))), (4, .int (nI i_89)), (3, .int up89), (0, .ref (q 0)), (1, .int a1), (2, .int a2)]) hx hb dX6_share_114 hl (by decide) rfl (fun ls hl => ?_)
              refine lv_iload_n hx hb dX6_share_116 rfl (lv_at hl 2 rfl) ?_
              refine lv_iload hx hb dX6_share_117 (lv_at hl 0 rfl) ?_
              refine sRdI (As := [.int (f_X6_many (nI i_89))]) (rest := [.int up89]) hF (c_X6_ways l D cI cZ q (f_X6_many (nI i_89)) (many_lt _)) (gdS tm_4_26 tm_4_27 tm_1_6 tm_4_28) de_X6_ways ⟨Nat.le_of_ble_eq_true rfl, Nat.le_of_ble_eq_true rfl⟩ va_P_nil hK hl.1 rfl (Nat.le_of_ble_eq_true rfl) dX6_share_119 ⟨Nat.zero_le _, Nat.zero_le _⟩ ?_
              refine lv_aload_n hx hb dX6_share_122 rfl (lv_at hl 3 rfl) ?_
              refine va_get (D := D) (ci := 5) (v := .int (nI n)) (C := RX6) (T := TX6) (N := 30) hx hb hts tbX6 hown hK hP 0 MW_0 rfl 5 (by decide) (hts _ tm_3_6) (fun _ h9 => h9) rfl dX6_share_123 ?_
              refine lv_iconst (v := (1 : Int32)) hx hb dX6_share_126 (by decide) ?_
              refine lv_isub hx hb dX6_share_127 ?_
              refine lv_iload hx hb dX6_share_128 (lv_at hl 0 rfl) ?_
              refine lv_isub hx hb dX6_share_130 ?_
              refine sRdI (As := [.int (((nI n) - (1 : Int32)) - (f_X6_many (nI i_89)))]) (rest := [.int (f_X6_ways (f_X6_many (nI i_89))), .int up89]) hF (c_X6_ways l D cI cZ q (((nI n) - (1 : Int32)) - (f_X6_many (nI i_89))) (many_sub hn7 _)) (gdS tm_4_26 tm_4_27 tm_1_6 tm_4_28) de_X6_ways ⟨Nat.le_of_ble_eq_true rfl, Nat.le_of_ble_eq_true rfl⟩ va_P_nil hK hl.1 rfl (Nat.le_of_ble_eq_true rfl) dX6_share_131 ⟨Nat.zero_le _, Nat.zero_le _⟩ ?_
              refine lv_imul hx hb dX6_share_134 ?_
              refine lv_aload_n hx hb dX6_share_135 rfl (lv_at hl 3 rfl) ?_
              refine va_get (D := D) (ci := 5) (v := .ref (q 13)) (C := RX6) (T := TX6) (N := 30) hx hb hts tbX6 hown hK hP 0 MW_0 rfl 29 (by decide) (hts _ tm_3_30) (fun _ h9 => h9) rfl dX6_share_136 ?_
              refine lv_iload hx hb dX6_share_139 (lv_at hl 1 rfl) ?_
              refine lv_iconst (v := (1 : Int32)) hx hb dX6_share_141 (by decide) ?_
              refine lv_iload_n hx hb dX6_share_142 rfl (lv_at hl 4 rfl) ?_
              refine lv_rw (z := (nI a1.toNatClampNeg)) hp1 ?_
              refine lv_ishl hx hb dX6_share_143 ?_
              refine lv_rw (z := (shl (1 : Int32) (nI a1.toNatClampNeg))) rfl ?_
              refine lv_rw (z := (nI (2 ^ a1.toNatClampNeg))) (shl_pow _ (by omega)) ?_
              refine lv_ior hx hb dX6_share_144 ?_
              refine lv_rw (z := (nI (i_89 ||| 2 ^ a1.toNatClampNeg))) (nI_or _ _) ?_
              refine va_iald hx hb hK hP 13 0 MW_13 rfl (vp_in_nI (or_lt7 (by omega) hp2 hn7) (by omega)) dX6_share_145 ?_
              refine lv_rw (z := (vl17 (i_89 ||| 2 ^ a1.toNatClampNeg))) (congrArg vl17 (nI_clamp (Nat.lt_trans (or_lt7 (by omega) hp2 hn7) (by omega)))) ?_
              refine lv_aload_n hx hb dX6_share_146 rfl (lv_at hl 3 rfl) ?_
              refine va_get (D := D) (ci := 5) (v := .ref (q 13)) (C := RX6) (T := TX6) (N := 30) hx hb hts tbX6 hown hK hP 0 MW_0 rfl 29 (by decide) (hts _ tm_3_30) (fun _ h9 => h9) rfl dX6_share_147 ?_
              refine lv_iload hx hb dX6_share_150 (lv_at hl 1 rfl) ?_
              refine va_iald hx hb hK hP 13 0 MW_13 rfl (vp_in_nI (show i_89 < 128 by omega) (by omega)) dX6_share_152 ?_
              refine lv_rw (z := (vl17 i_89)) (congrArg vl17 (nI_clamp (show i_89 < 2 ^ 31 by omega))) ?_
              refine lv_isub hx hb dX6_share_153 ?_
              refine lv_imul hx hb dX6_share_154 ?_
              refine lv_iadd hx hb dX6_share_155 ?_
              refine lv_istore_n (lv' := [(3, .int (up89 + (((f_X6_ways (f_X6_many (nI i_89))) * (f_X6_ways (((nI n) - (1 : Int32)) - (f_X6_many (nI i_89))))) * ((vl17 (i_89 ||| 2 ^ a1.toNatClampNeg)) - (vl17 i_89))))), (5, .int (f_X6_many (nI i_89))), (4, .int (nI i_89)), (0, .ref (q 0)), (1, .int a1), (2, .int a2)]) hx hb dX6_share_156 rfl hl (by decide) rfl (fun ls hl => ?_)
              refine lv_iinc (v := (nI (i_89 + 1))) (lv' := [(4, .int (nI (i_89 + 1))), (3, .int (up89 + (((f_X6_ways (f_X6_many (nI i_89))) * (f_X6_ways (((nI n) - (1 : Int32)) - (f_X6_many (nI i_89))))) * ((vl17 (i_89 ||| 2 ^ a1.toNatClampNeg)) - (vl17 i_89))))), (5, .int (f_X6_many (nI i_89))), (0, .ref (q 0)), (1, .int a1), (2, .int a2)]) hx hb dX6_share_157 hl (k := 2) rfl (nI_up i_89) (by decide) rfl (fun ls hl => ?_)
              refine lv_goto (tgt := 89) hx hb dX6_share_160 (by decide) ?_
              exact ih_89 (i_89 + 1) (up89 + (((f_X6_ways (f_X6_many (nI i_89))) * (f_X6_ways (((nI n) - (1 : Int32)) - (f_X6_many (nI i_89))))) * ((vl17 (i_89 ||| 2 ^ a1.toNatClampNeg)) - (vl17 i_89)))) ls _ _ (by omega) hT_89 (lv_sub hl [0, 1, 3, 4, 5] rfl) hP hS
        exact key_89 (2 ^ n) 0 (0 : Int32) ls _ _ (by omega) hT_89 (lv_sub hl [0, 1, 2, 3, 4] rfl) hP hS
      | succ d_17 ih_17 =>
        intro i_17 tr17 vl17 ls H locs hi_17 hT_17 hl hP hS
        have hD : va_D A (MW cI cZ q (0 : Int32) textSize place stock (nI n) readStock readCells readParts acts tried soonMany soonWhich kindMany kindFirst restMany restFirst text lies kind readPart page tr17 book kept isKept triedAbout triedIs gains vl17 seed) := hD.same (MW_ad.trans MW_ad.symm)
        rw [f_X6_share_l17_s] at hT_17
        refine lv_iload_n hx hb dX6_share_17 rfl (lv_at hl 0 rfl) ?_
        refine lv_iconst (v := (1 : Int32)) hx hb dX6_share_18 (by decide) ?_
        refine lv_aload_n hx hb dX6_share_19 rfl (lv_at hl 1 rfl) ?_
        refine va_get (D := D) (ci := 5) (v := .int (nI n)) (C := RX6) (T := TX6) (N := 30) hx hb hts tbX6 hown hK hP 0 MW_0 rfl 5 (by decide) (hts _ tm_3_6) (fun _ h9 => h9) rfl dX6_share_20 ?_
        refine lv_ishl hx hb dX6_share_23 ?_
        refine lv_rw (z := (shl (1 : Int32) (nI n))) rfl ?_
        refine lv_rw (z := (nI (2 ^ n))) (shl_pow n (by omega)) ?_
        refine lv_icmp_ge (tgt := 84) hx hb dX6_share_24 (by decide) (fun c_24 => absurd c_24 (nI_ge  (by omega) (by omega))) (fun c_24 => ?_)
        refine lv_aload_n hx hb dX6_share_27 rfl (lv_at hl 1 rfl) ?_
        refine vWrV (b := (q 0)) (As := []) (rest := []) hF (c_X6_begin l D cI cZ q (0 : Int32) textSize place stock (nI n) readStock readCells readParts acts tried soonMany soonWhich kindMany kindFirst restMany restFirst text lies kind readPart page tr17 book kept isKept triedAbout triedIs gains vl17 seed) (gdV tm_3_137 tm_3_139 tp_13 tm_1_6 tm_3_140) de_X6_begin ⟨Nat.le_of_ble_eq_true rfl, Nat.le_of_ble_eq_true rfl⟩ hP hK (va_recv hK hP (ci := 5) (q0 := 0) rfl MW_0) hl.1 rfl (Nat.le_of_ble_eq_true rfl) dX6_share_28 ⟨Nat.zero_le _, Nat.zero_le _⟩ hD hS (fun H locs hP hS => ?_)
        have hP : va_P D vwCl (MW cI cZ q (0 : Int32) textSize place stock (nI n) readStock readCells readParts acts tried soonMany soonWhich kindMany kindFirst restMany restFirst text lies kind readPart page (f_X6_begin page tr17) book kept isKept triedAbout triedIs gains vl17 seed) H := hP
        have hD : va_D A (MW cI cZ q (0 : Int32) textSize place stock (nI n) readStock readCells readParts acts tried soonMany soonWhich kindMany kindFirst restMany restFirst text lies kind readPart page (f_X6_begin page tr17) book kept isKept triedAbout triedIs gains vl17 seed) := hD.same (MW_ad.trans MW_ad.symm)
        refine lv_iconst (v := (0 : Int32)) hx hb dX6_share_31 (by decide) ?_
        refine lv_istore (lv' := [(4, .int (0 : Int32)), (3, .int (nI i_17)), (0, .ref (q 0)), (1, .int a1), (2, .int a2)]) hx hb dX6_share_32 hl (by decide) rfl (fun ls hl => ?_)
        obtain ⟨T_34, hT_34⟩ : ∃ z, f_X6_share_l34  4 0 (f_X6_begin page tr17) = z := ⟨_, rfl⟩
        rw [hT_34] at hT_17
        have key_34 : ∀ (d_34 i_34 : Nat) (tr34 : Nat → Int32) (ls : Array Slot) (H : Heap) (locs : List Loc), i_34 + d_34 = 4 → f_X6_share_l34  d_34 i_34 tr34 = T_34 → lv_has ls 6 [(4, .int (nI i_34)), (3, .int (nI i_17)), (0, .ref (q 0)), (1, .int a1), (2, .int a2)] → va_P D vwCl (MW cI cZ q (0 : Int32) textSize place stock (nI n) readStock readCells readParts acts tried soonMany soonWhich kindMany kindFirst restMany restFirst text lies kind readPart page tr34 book kept isKept triedAbout triedIs gains vl17 seed) H → va_S A s.heap H locs → W p l e (rmO 5 120) s m args below meth c H locs 0 0 Q (F0 m 34 ls []) := by
          intro d_34
          induction d_34 with
          | zero =>
            intro i_34 tr34 ls H locs hi_34 hT_34 hl hP hS
            have hD : va_D A (MW cI cZ q (0 : Int32) textSize place stock (nI n) readStock readCells readParts acts tried soonMany soonWhich kindMany kindFirst restMany restFirst text lies kind readPart page tr34 book kept isKept triedAbout triedIs gains vl17 seed) := hD.same (MW_ad.trans MW_ad.symm)
            rw [f_X6_share_l34_z] at hT_34
            refine lv_iload hx hb dX6_share_34 (lv_at hl 0 rfl) ?_
            refine lv_iconst (v := (4 : Int32)) hx hb dX6_share_36 (by decide) ?_
            refine lv_icmp_ge (tgt := 54) hx hb dX6_share_37 (by decide) (fun c_37 => ?_) (fun c_37 => absurd (nI_le (a := 4) (by omega) (by omega)) c_37)
            subst hT_34
            try dsimp only at hT_17
            refine lv_aload_n hx hb dX6_share_54 rfl (lv_at hl 2 rfl) ?_
            refine va_get (D := D) (ci := 5) (v := .ref (q 6)) (C := RX6) (T := TX6) (N := 30) hx hb hts tbX6 hown hK hP 0 MW_0 rfl 13 (by decide) (hts _ tm_3_14) (fun _ h9 => h9) rfl dX6_share_55 ?_
            refine lv_iconst (v := (5 : Int32)) hx hb dX6_share_58 (by decide) ?_
            refine lv_iload_n hx hb dX6_share_59 rfl (lv_at hl 1 rfl) ?_
            refine va_iast hx hb hK hP hD hS 6 0 MW_6 rfl (vp_in_nI (n := 5) (by decide) (by decide)) dX6_share_60 (fun H locs hP _ hS => ?_)
            have hP : va_P D vwCl (MW cI cZ q (0 : Int32) textSize place stock (nI n) readStock readCells readParts acts tried soonMany soonWhich kindMany kindFirst restMany restFirst text lies kind readPart page (upd tr34 (5 : Int32).toNatClampNeg (nI i_17)) book kept isKept triedAbout triedIs gains vl17 seed) H := hP
            rw [cl_5] at hP
            have hD : va_D A (MW cI cZ q (0 : Int32) textSize place stock (nI n) readStock readCells readParts acts tried soonMany soonWhich kindMany kindFirst restMany restFirst text lies kind readPart page (upd tr34 5 (nI i_17)) book kept isKept triedAbout triedIs gains vl17 seed) := hD.same (MW_ad.trans MW_ad.symm)
            refine lv_aload_n hx hb dX6_share_61 rfl (lv_at hl 2 rfl) ?_
            refine va_get (D := D) (ci := 5) (v := .ref (q 13)) (C := RX6) (T := TX6) (N := 30) hx hb hts tbX6 hown hK hP 0 MW_0 rfl 29 (by decide) (hts _ tm_3_30) (fun _ h9 => h9) rfl dX6_share_62 ?_
            refine lv_iload_n hx hb dX6_share_65 rfl (lv_at hl 1 rfl) ?_
            refine lv_aload_n hx hb dX6_share_66 rfl (lv_at hl 2 rfl) ?_
            refine lv_aload_n hx hb dX6_share_67 rfl (lv_at hl 2 rfl) ?_
            refine va_get (D := D) (ci := 5) (v := .ref (q 6)) (C := RX6) (T := TX6) (N := 30) hx hb hts tbX6 hown hK hP 0 MW_0 rfl 13 (by decide) (hts _ tm_3_14) (fun _ h9 => h9) rfl dX6_share_68 ?_
            refine vRdI (b := (q 0)) (As := [.ref (q 6)]) (rest := [.int (nI i_17), .ref (q 13)]) hF (c_X6_standing l D cI cZ q (0 : Int32) textSize place stock n readStock readCells readParts acts tried soonMany soonWhich kindMany kindFirst restMany restFirst text lies kind readPart page (upd tr34 5 (nI i_17)) book kept isKept triedAbout triedIs gains vl17 seed 6 (q 6) (upd tr34 5 (nI i_17)) MW_6 hn7 cl hcl) (gdV tm_3_145 tm_3_147 tp_15 tm_1_6 tm_3_148) de_X6_standing ⟨Nat.le_of_ble_eq_true rfl, Nat.le_of_ble_eq_true rfl⟩ hP hK (va_recv hK hP (ci := 5) (q0 := 0) rfl MW_0) hl.1 rfl (Nat.le_of_ble_eq_true rfl) dX6_share_71 ⟨Nat.zero_le _, Nat.zero_le _⟩ ?_
            refine sRdI (As := [.int (f_X6_standing cl n (upd tr34 5 (nI i_17)) lies kind)]) (rest := [.int (nI i_17), .ref (q 13)]) hF (c_X6_many l D cI cZ q (f_X6_standing cl n (upd tr34 5 (nI i_17)) lies kind)) (gdS tm_3_171 tm_3_172 tm_1_6 tm_3_173) de_X6_many ⟨Nat.le_of_ble_eq_true rfl, Nat.le_of_ble_eq_true rfl⟩ va_P_nil hK hl.1 rfl (Nat.le_of_ble_eq_true rfl) dX6_share_74 ⟨Nat.zero_le _, Nat.zero_le _⟩ ?_
            refine va_iast hx hb hK hP hD hS 13 0 MW_13 rfl (vp_in_nI (show i_17 < 128 by omega) (by omega)) dX6_share_77 (fun H locs hP _ hS => ?_)
            have hP : va_P D vwCl (MW cI cZ q (0 : Int32) textSize place stock (nI n) readStock readCells readParts acts tried soonMany soonWhich kindMany kindFirst restMany restFirst text lies kind readPart page (upd tr34 5 (nI i_17)) book kept isKept triedAbout triedIs gains (upd vl17 (nI i_17).toNatClampNeg (f_X6_many (f_X6_standing cl n (upd tr34 5 (nI i_17)) lies kind))) seed) H := hP
            rw [(nI_clamp (show i_17 < 2 ^ 31 by omega))] at hP
            have hD : va_D A (MW cI cZ q (0 : Int32) textSize place stock (nI n) readStock readCells readParts acts tried soonMany soonWhich kindMany kindFirst restMany restFirst text lies kind readPart page (upd tr34 5 (nI i_17)) book kept isKept triedAbout triedIs gains (upd vl17 i_17 (f_X6_many (f_X6_standing cl n (upd tr34 5 (nI i_17)) lies kind))) seed) := hD.same (MW_ad.trans MW_ad.symm)
            refine lv_iinc (v := (nI (i_17 + 1))) (lv' := [(3, .int (nI (i_17 + 1))), (4, .int (nI i_34)), (0, .ref (q 0)), (1, .int a1), (2, .int a2)]) hx hb dX6_share_78 hl (k := 1) rfl (nI_up i_17) (by decide) rfl (fun ls hl => ?_)
            refine lv_goto (tgt := 17) hx hb dX6_share_81 (by decide) ?_
            exact ih_17 (i_17 + 1) (upd tr34 5 (nI i_17)) (upd vl17 i_17 (f_X6_many (f_X6_standing cl n (upd tr34 5 (nI i_17)) lies kind))) ls _ _ (by omega) hT_17 (lv_sub hl [0, 2, 3, 4] rfl) hP hS
          | succ d_34 ih_34 =>
            intro i_34 tr34 ls H locs hi_34 hT_34 hl hP hS
            have hD : va_D A (MW cI cZ q (0 : Int32) textSize place stock (nI n) readStock readCells readParts acts tried soonMany soonWhich kindMany kindFirst restMany restFirst text lies kind readPart page tr34 book kept isKept triedAbout triedIs gains vl17 seed) := hD.same (MW_ad.trans MW_ad.symm)
            rw [f_X6_share_l34_s] at hT_34
            refine lv_iload hx hb dX6_share_34 (lv_at hl 0 rfl) ?_
            refine lv_iconst (v := (4 : Int32)) hx hb dX6_share_36 (by decide) ?_
            refine lv_icmp_ge (tgt := 54) hx hb dX6_share_37 (by decide) (fun c_37 => absurd c_37 (nI_ge (b := 4) (by omega) (by omega))) (fun c_37 => ?_)
            refine lv_aload_n hx hb dX6_share_40 rfl (lv_at hl 2 rfl) ?_
            refine va_get (D := D) (ci := 5) (v := .ref (q 6)) (C := RX6) (T := TX6) (N := 30) hx hb hts tbX6 hown hK hP 0 MW_0 rfl 13 (by decide) (hts _ tm_3_14) (fun _ h9 => h9) rfl dX6_share_41 ?_
            refine lv_iload hx hb dX6_share_44 (lv_at hl 0 rfl) ?_
            refine lv_iconst (v := (0 : Int32)) hx hb dX6_share_46 (by decide) ?_
            refine va_iast hx hb hK hP hD hS 6 0 MW_6 rfl (vp_in_nI (show i_34 < 7 by omega) (by omega)) dX6_share_47 (fun H locs hP _ hS => ?_)
            have hP : va_P D vwCl (MW cI cZ q (0 : Int32) textSize place stock (nI n) readStock readCells readParts acts tried soonMany soonWhich kindMany kindFirst restMany restFirst text lies kind readPart page (upd tr34 (nI i_34).toNatClampNeg (0 : Int32)) book kept isKept triedAbout triedIs gains vl17 seed) H := hP
            rw [(nI_clamp (show i_34 < 2 ^ 31 by omega))] at hP
            have hD : va_D A (MW cI cZ q (0 : Int32) textSize place stock (nI n) readStock readCells readParts acts tried soonMany soonWhich kindMany kindFirst restMany restFirst text lies kind readPart page (upd tr34 i_34 (0 : Int32)) book kept isKept triedAbout triedIs gains vl17 seed) := hD.same (MW_ad.trans MW_ad.symm)
            refine lv_iinc (v := (nI (i_34 + 1))) (lv' := [(4, .int (nI (i_34 + 1))), (3, .int (nI i_17)), (0, .ref (q 0)), (1, .int a1), (2, .int a2)]) hx hb dX6_share_48 hl (k := 0) rfl (nI_up i_34) (by decide) rfl (fun ls hl => ?_)
            refine lv_goto (tgt := 34) hx hb dX6_share_51 (by decide) ?_
            exact ih_34 (i_34 + 1) (upd tr34 i_34 (0 : Int32)) ls _ _ (by omega) hT_34 (lv_sub hl [0, 1, 2, 3, 4] rfl) hP hS
        exact key_34 4 0 (f_X6_begin page tr17) ls _ _ (by omega) hT_34 (lv_sub hl [0, 1, 2, 3, 4] rfl) hP hS
    exact key_17 (2 ^ n) 0 trial value ls _ _ (by omega) hT_17 (lv_sub hl [0, 1, 2, 3] rfl) hP hS
  · rw [if_neg c_10] at hR
    refine lv_iconst (v := (-1 : Int32)) hx hb dX6_share_13 (by decide) ?_
    subst hR
    exact fin _ _ _ _ dX6_share_14 (nar_i _) hP hS
def f_X6_attempt (tr : Nat) (triedAbout : Nat → Int32) (triedIs : Nat → Int32) (a1 : Int32) (a2 : Int32) : (Int32) × (Int32) × (Int32) × (Nat → Int32) × (Nat → Int32) := (if (f_X6_in a1.toInt64 (0 : Int64) (31 : Int64)) = (0 : Int32) then ((-2 : Int32), (0 : Int32), (nI tr), triedAbout, triedIs) else (if (f_X6_in a2.toInt64 (0 : Int64) (1 : Int64)) = (0 : Int32) then ((-2 : Int32), (0 : Int32), (nI tr), triedAbout, triedIs) else (if (nI tr) = (6 : Int32) then ((-4 : Int32), (0 : Int32), (nI tr), triedAbout, triedIs) else ((nI (tr + 1)), (0 : Int32), (nI (tr + 1)), (upd triedAbout tr a1), (upd triedIs tr a2)))))
set_option maxHeartbeats 4000000 in
set_option maxRecDepth 100000 in
theorem c_X6_attempt (l : Launch) (D : va_G) (cI cZ : ClassId) (q : Nat → Nat) (thrown : Int32) (textSize : Int32) (place : Int32) (stock : Int32) (parts : Int32) (readStock : Int32) (readCells : Int32) (readParts : Int32) (acts : Int32) (tr : Nat) (soonMany : Int32) (soonWhich : Int32) (kindMany : Int32) (kindFirst : Int32) (restMany : Int32) (restFirst : Int32) (text lies kind readPart page trial book kept isKept triedAbout triedIs gains value : Nat → Int32) (seed : Int64) (a1 : Int32) (a2 : Int32) (htr6 : tr ≤ 6) : WrI l yX6_attempt cX6_attempt 3 .int 1 25 D (tyL cI cZ) (MW cI cZ q thrown textSize place stock parts readStock readCells readParts acts (nI tr) soonMany soonWhich kindMany kindFirst restMany restFirst text lies kind readPart page trial book kept isKept triedAbout triedIs gains value seed) [.ref (q 0), .int a1, .int a2] (f_X6_attempt tr triedAbout triedIs a1 a2).1 (MW cI cZ q (f_X6_attempt tr triedAbout triedIs a1 a2).2.1 textSize place stock parts readStock readCells readParts acts (f_X6_attempt tr triedAbout triedIs a1 a2).2.2.1 soonMany soonWhich kindMany kindFirst restMany restFirst text lies kind readPart page trial book kept isKept (f_X6_attempt tr triedAbout triedIs a1 a2).2.2.2.1 (f_X6_attempt tr triedAbout triedIs a1 a2).2.2.2.2 gains value seed) := by
  refine WrI.of (by decide) (Nat.le_of_ble_eq_true rfl) ?_
  intro p e s m args below meth c Q A hx hb hml hown hts hP hK hD hS fin ls hl
  have hown : s.vm.findClass RX6 = some m.cls := hown
  have hF : CallFix p m c cX6_attempt 3 s args tb RX6 := ⟨hx, hb, hml, hown, hts⟩
  have hl : lv_has ls 3 [(0, .ref (q 0)), (1, .int a1), (2, .int a2)] := hl
  generalize hR : (f_X6_attempt tr triedAbout triedIs a1 a2) = R at fin
  unfold f_X6_attempt at hR
  refine lv_aload_n hx hb dX6_attempt_0 rfl (lv_at hl 0 rfl) ?_
  refine lv_iconst (v := (0 : Int32)) hx hb dX6_attempt_1 (by decide) ?_
  refine va_put (D := D) (ci := 5) (v := .int (0 : Int32)) (ty := .int) (C := RX6) (T := TX6) (N := 30) hx hb hts tbX6 tyX6 tyX6_ok nmX6 hown hK hP hD hS 0 MW_0 rfl 0 (by decide) (hts _ tm_3_1) (fun _ h9 => h9) rfl (by decide +kernel) rfl rfl (Nat.le_of_ble_eq_true rfl) dX6_attempt_2 (fun H locs hP _ hS => ?_)
  have hP : va_P D vwCl (MW cI cZ q (0 : Int32) textSize place stock parts readStock readCells readParts acts (nI tr) soonMany soonWhich kindMany kindFirst restMany restFirst text lies kind readPart page trial book kept isKept triedAbout triedIs gains value seed) H := hP
  have hD : va_D A (MW cI cZ q (0 : Int32) textSize place stock parts readStock readCells readParts acts (nI tr) soonMany soonWhich kindMany kindFirst restMany restFirst text lies kind readPart page trial book kept isKept triedAbout triedIs gains value seed) := hD.same (MW_ad.trans MW_ad.symm)
  refine lv_iload_n hx hb dX6_attempt_5 rfl (lv_at hl 1 rfl) ?_
  refine lv_i2l (v := a1.toInt64) hx hb dX6_attempt_6 rfl ?_
  refine lv_lconst (v := (0 : Int64)) hx hb dX6_attempt_7 (by decide) ?_
  refine lv_ldc2 (v := (31 : Int64)) hx hb hown (hts _ tm_4_39) dX6_attempt_8 ?_
  refine sRdI (As := [.long a1.toInt64, .long (0 : Int64), .long (31 : Int64)]) (rest := []) hF (c_X6_in l D cI cZ q a1.toInt64 (0 : Int64) (31 : Int64)) (gdS tm_3_97 tm_3_98 tm_1_6 tm_3_99) de_X6_in ⟨Nat.le_of_ble_eq_true rfl, Nat.le_of_ble_eq_true rfl⟩ va_P_nil hK hl.1 rfl (Nat.le_of_ble_eq_true rfl) dX6_attempt_11 ⟨Nat.zero_le _, Nat.zero_le _⟩ ?_
  refine lv_if_eq (tgt := 27) hx hb dX6_attempt_14 (by decide) (fun c_14 => ?_) (fun c_14 => ?_)
  · rw [if_pos c_14] at hR
    refine lv_bipush (v := (-2 : Int32)) hx hb dX6_attempt_27 (by decide) ?_
    subst hR
    exact fin _ _ _ _ dX6_attempt_29 (nar_i _) hP hS
  · rw [if_neg c_14] at hR
    refine lv_iload_n hx hb dX6_attempt_17 rfl (lv_at hl 2 rfl) ?_
    refine lv_i2l (v := a2.toInt64) hx hb dX6_attempt_18 rfl ?_
    refine lv_lconst (v := (0 : Int64)) hx hb dX6_attempt_19 (by decide) ?_
    refine lv_lconst (v := (1 : Int64)) hx hb dX6_attempt_20 (by decide) ?_
    refine sRdI (As := [.long a2.toInt64, .long (0 : Int64), .long (1 : Int64)]) (rest := []) hF (c_X6_in l D cI cZ q a2.toInt64 (0 : Int64) (1 : Int64)) (gdS tm_3_97 tm_3_98 tm_1_6 tm_3_99) de_X6_in ⟨Nat.le_of_ble_eq_true rfl, Nat.le_of_ble_eq_true rfl⟩ va_P_nil hK hl.1 rfl (Nat.le_of_ble_eq_true rfl) dX6_attempt_21 ⟨Nat.zero_le _, Nat.zero_le _⟩ ?_
    refine lv_if_ne (tgt := 30) hx hb dX6_attempt_24 (by decide) (fun c_24 => ?_) (fun c_24 => ?_)
    · rw [if_neg c_24] at hR
      refine lv_aload_n hx hb dX6_attempt_30 rfl (lv_at hl 0 rfl) ?_
      refine va_get (D := D) (ci := 5) (v := .int (nI tr)) (C := RX6) (T := TX6) (N := 30) hx hb hts tbX6 hown hK hP 0 MW_0 rfl 18 (by decide) (hts _ tm_3_19) (fun _ h9 => h9) rfl dX6_attempt_31 ?_
      refine lv_bipush (v := (6 : Int32)) hx hb dX6_attempt_34 (by decide) ?_
      refine lv_icmp_ne (tgt := 42) hx hb dX6_attempt_36 (by decide) (fun c_36 => ?_) (fun c_36 => ?_)
      · rw [if_neg c_36] at hR
        have hne := nI_ne_of (b := 6) c_36
        refine lv_aload_n hx hb dX6_attempt_42 rfl (lv_at hl 0 rfl) ?_
        refine va_get (D := D) (ci := 5) (v := .ref (q 10)) (C := RX6) (T := TX6) (N := 30) hx hb hts tbX6 hown hK hP 0 MW_0 rfl 19 (by decide) (hts _ tm_3_20) (fun _ h9 => h9) rfl dX6_attempt_43 ?_
        refine lv_aload_n hx hb dX6_attempt_46 rfl (lv_at hl 0 rfl) ?_
        refine va_get (D := D) (ci := 5) (v := .int (nI tr)) (C := RX6) (T := TX6) (N := 30) hx hb hts tbX6 hown hK hP 0 MW_0 rfl 18 (by decide) (hts _ tm_3_19) (fun _ h9 => h9) rfl dX6_attempt_47 ?_
        refine lv_iload_n hx hb dX6_attempt_50 rfl (lv_at hl 1 rfl) ?_
        refine va_iast hx hb hK hP hD hS 10 0 MW_10 rfl (vp_in_nI (show tr < 6 by omega) (by omega)) dX6_attempt_51 (fun H locs hP _ hS => ?_)
        have hP : va_P D vwCl (MW cI cZ q (0 : Int32) textSize place stock parts readStock readCells readParts acts (nI tr) soonMany soonWhich kindMany kindFirst restMany restFirst text lies kind readPart page trial book kept isKept (upd triedAbout (nI tr).toNatClampNeg a1) triedIs gains value seed) H := hP
        rw [(nI_clamp (show tr < 2 ^ 31 by omega))] at hP
        have hD : va_D A (MW cI cZ q (0 : Int32) textSize place stock parts readStock readCells readParts acts (nI tr) soonMany soonWhich kindMany kindFirst restMany restFirst text lies kind readPart page trial book kept isKept (upd triedAbout tr a1) triedIs gains value seed) := hD.same (MW_ad.trans MW_ad.symm)
        refine lv_aload_n hx hb dX6_attempt_52 rfl (lv_at hl 0 rfl) ?_
        refine va_get (D := D) (ci := 5) (v := .ref (q 11)) (C := RX6) (T := TX6) (N := 30) hx hb hts tbX6 hown hK hP 0 MW_0 rfl 20 (by decide) (hts _ tm_3_21) (fun _ h9 => h9) rfl dX6_attempt_53 ?_
        refine lv_aload_n hx hb dX6_attempt_56 rfl (lv_at hl 0 rfl) ?_
        refine va_get (D := D) (ci := 5) (v := .int (nI tr)) (C := RX6) (T := TX6) (N := 30) hx hb hts tbX6 hown hK hP 0 MW_0 rfl 18 (by decide) (hts _ tm_3_19) (fun _ h9 => h9) rfl dX6_attempt_57 ?_
        refine lv_iload_n hx hb dX6_attempt_60 rfl (lv_at hl 2 rfl) ?_
        refine va_iast hx hb hK hP hD hS 11 0 MW_11 rfl (vp_in_nI (show tr < 6 by omega) (by omega)) dX6_attempt_61 (fun H locs hP _ hS => ?_)
        have hP : va_P D vwCl (MW cI cZ q (0 : Int32) textSize place stock parts readStock readCells readParts acts (nI tr) soonMany soonWhich kindMany kindFirst restMany restFirst text lies kind readPart page trial book kept isKept (upd triedAbout tr a1) (upd triedIs (nI tr).toNatClampNeg a2) gains value seed) H := hP
        rw [(nI_clamp (show tr < 2 ^ 31 by omega))] at hP
        have hD : va_D A (MW cI cZ q (0 : Int32) textSize place stock parts readStock readCells readParts acts (nI tr) soonMany soonWhich kindMany kindFirst restMany restFirst text lies kind readPart page trial book kept isKept (upd triedAbout tr a1) (upd triedIs tr a2) gains value seed) := hD.same (MW_ad.trans MW_ad.symm)
        refine lv_aload_n hx hb dX6_attempt_62 rfl (lv_at hl 0 rfl) ?_
        refine lv_dup hx hb dX6_attempt_63 rfl ?_
        refine va_get (D := D) (ci := 5) (v := .int (nI tr)) (C := RX6) (T := TX6) (N := 30) hx hb hts tbX6 hown hK hP 0 MW_0 rfl 18 (by decide) (hts _ tm_3_19) (fun _ h9 => h9) rfl dX6_attempt_64 ?_
        refine lv_iconst (v := (1 : Int32)) hx hb dX6_attempt_67 (by decide) ?_
        refine lv_iadd hx hb dX6_attempt_68 ?_
        refine lv_rw (z := (nI (tr + 1))) (nI_1 _) ?_
        refine va_put (D := D) (ci := 5) (v := .int (nI (tr + 1))) (ty := .int) (C := RX6) (T := TX6) (N := 30) hx hb hts tbX6 tyX6 tyX6_ok nmX6 hown hK hP hD hS 0 MW_0 rfl 18 (by decide) (hts _ tm_3_19) (fun _ h9 => h9) rfl (by decide +kernel) rfl rfl (Nat.le_of_ble_eq_true rfl) dX6_attempt_69 (fun H locs hP _ hS => ?_)
        have hP : va_P D vwCl (MW cI cZ q (0 : Int32) textSize place stock parts readStock readCells readParts acts (nI (tr + 1)) soonMany soonWhich kindMany kindFirst restMany restFirst text lies kind readPart page trial book kept isKept (upd triedAbout tr a1) (upd triedIs tr a2) gains value seed) H := hP
        have hD : va_D A (MW cI cZ q (0 : Int32) textSize place stock parts readStock readCells readParts acts (nI (tr + 1)) soonMany soonWhich kindMany kindFirst restMany restFirst text lies kind readPart page trial book kept isKept (upd triedAbout tr a1) (upd triedIs tr a2) gains value seed) := hD.same (MW_ad.trans MW_ad.symm)
        refine lv_aload_n hx hb dX6_attempt_72 rfl (lv_at hl 0 rfl) ?_
        refine va_get (D := D) (ci := 5) (v := .int (nI (tr + 1))) (C := RX6) (T := TX6) (N := 30) hx hb hts tbX6 hown hK hP 0 MW_0 rfl 18 (by decide) (hts _ tm_3_19) (fun _ h9 => h9) rfl dX6_attempt_73 ?_
        subst hR
        exact fin _ _ _ _ dX6_attempt_76 (nar_i _) hP hS
      · rw [if_pos c_36] at hR
        refine lv_bipush (v := (-4 : Int32)) hx hb dX6_attempt_39 (by decide) ?_
        subst hR
        exact fin _ _ _ _ dX6_attempt_41 (nar_i _) hP hS
    · rw [if_pos c_24] at hR
      refine lv_bipush (v := (-2 : Int32)) hx hb dX6_attempt_27 (by decide) ?_
      subst hR
      exact fin _ _ _ _ dX6_attempt_29 (nar_i _) hP hS
def f_X6_unattempt (tried : Int32) : (Int32) × (Int32) × (Int32) := (tried, (0 : Int32), (0 : Int32))
set_option maxHeartbeats 4000000 in
set_option maxRecDepth 100000 in
theorem c_X6_unattempt (l : Launch) (D : va_G) (cI cZ : ClassId) (q : Nat → Nat) (thrown textSize place stock parts readStock readCells readParts acts tried soonMany soonWhich kindMany kindFirst restMany restFirst : Int32) (text lies kind readPart page trial book kept isKept triedAbout triedIs gains value : Nat → Int32) (seed : Int64) : WrI l yX6_unattempt cX6_unattempt 2 .int 0 0 D (tyL cI cZ) (MW cI cZ q thrown textSize place stock parts readStock readCells readParts acts tried soonMany soonWhich kindMany kindFirst restMany restFirst text lies kind readPart page trial book kept isKept triedAbout triedIs gains value seed) [.ref (q 0)] (f_X6_unattempt tried).1 (MW cI cZ q (f_X6_unattempt tried).2.1 textSize place stock parts readStock readCells readParts acts (f_X6_unattempt tried).2.2 soonMany soonWhich kindMany kindFirst restMany restFirst text lies kind readPart page trial book kept isKept triedAbout triedIs gains value seed) := by
  refine WrI.of (by decide) (Nat.le_of_ble_eq_true rfl) ?_
  intro p e s m args below meth c Q A hx hb hml hown hts hP hK hD hS fin ls hl
  have hown : s.vm.findClass RX6 = some m.cls := hown
  have hF : CallFix p m c cX6_unattempt 2 s args tb RX6 := ⟨hx, hb, hml, hown, hts⟩
  have hl : lv_has ls 2 [(0, .ref (q 0))] := hl
  generalize hR : (f_X6_unattempt tried) = R at fin
  unfold f_X6_unattempt at hR
  refine lv_aload_n hx hb dX6_unattempt_0 rfl (lv_at hl 0 rfl) ?_
  refine lv_iconst (v := (0 : Int32)) hx hb dX6_unattempt_1 (by decide) ?_
  refine va_put (D := D) (ci := 5) (v := .int (0 : Int32)) (ty := .int) (C := RX6) (T := TX6) (N := 30) hx hb hts tbX6 tyX6 tyX6_ok nmX6 hown hK hP hD hS 0 MW_0 rfl 0 (by decide) (hts _ tm_3_1) (fun _ h9 => h9) rfl (by decide +kernel) rfl rfl (Nat.le_of_ble_eq_true rfl) dX6_unattempt_2 (fun H locs hP _ hS => ?_)
  have hP : va_P D vwCl (MW cI cZ q (0 : Int32) textSize place stock parts readStock readCells readParts acts tried soonMany soonWhich kindMany kindFirst restMany restFirst text lies kind readPart page trial book kept isKept triedAbout triedIs gains value seed) H := hP
  have hD : va_D A (MW cI cZ q (0 : Int32) textSize place stock parts readStock readCells readParts acts tried soonMany soonWhich kindMany kindFirst restMany restFirst text lies kind readPart page trial book kept isKept triedAbout triedIs gains value seed) := hD.same (MW_ad.trans MW_ad.symm)
  refine lv_aload_n hx hb dX6_unattempt_5 rfl (lv_at hl 0 rfl) ?_
  refine va_get (D := D) (ci := 5) (v := .int tried) (C := RX6) (T := TX6) (N := 30) hx hb hts tbX6 hown hK hP 0 MW_0 rfl 18 (by decide) (hts _ tm_3_19) (fun _ h9 => h9) rfl dX6_unattempt_6 ?_
  refine lv_istore_n (lv' := [(1, .int tried), (0, .ref (q 0))]) hx hb dX6_unattempt_9 rfl hl (by decide) rfl (fun ls hl => ?_)
  refine lv_aload_n hx hb dX6_unattempt_10 rfl (lv_at hl 1 rfl) ?_
  refine lv_iconst (v := (0 : Int32)) hx hb dX6_unattempt_11 (by decide) ?_
  refine va_put (D := D) (ci := 5) (v := .int (0 : Int32)) (ty := .int) (C := RX6) (T := TX6) (N := 30) hx hb hts tbX6 tyX6 tyX6_ok nmX6 hown hK hP hD hS 0 MW_0 rfl 18 (by decide) (hts _ tm_3_19) (fun _ h9 => h9) rfl (by decide +kernel) rfl rfl (Nat.le_of_ble_eq_true rfl) dX6_unattempt_12 (fun H locs hP _ hS => ?_)
  have hP : va_P D vwCl (MW cI cZ q (0 : Int32) textSize place stock parts readStock readCells readParts acts (0 : Int32) soonMany soonWhich kindMany kindFirst restMany restFirst text lies kind readPart page trial book kept isKept triedAbout triedIs gains value seed) H := hP
  have hD : va_D A (MW cI cZ q (0 : Int32) textSize place stock parts readStock readCells readParts acts (0 : Int32) soonMany soonWhich kindMany kindFirst restMany restFirst text lies kind readPart page trial book kept isKept triedAbout triedIs gains value seed) := hD.same (MW_ad.trans MW_ad.symm)
  refine lv_iload_n hx hb dX6_unattempt_15 rfl (lv_at hl 0 rfl) ?_
  subst hR
  exact fin _ _ _ _ dX6_unattempt_16 (nar_i _) hP hS
def f_X6_kinds_l42 (triedAbout : Nat → Int32) (triedIs : Nat → Int32) (i_31 : Nat) : Nat → Nat → (Int32) → Int32
  | 0, i_42, is42 => is42
  | d_42 + 1, i_42, is42 => (if (jr (nI i_31) (4 : Int32)) = (0 : Int32) then (if is42 = (0 : Int32) then (f_X6_kinds_l42 triedAbout triedIs i_31 d_42 (i_42 + 1) (0 : Int32)) else (if (triedIs i_42) = (1 : Int32) then (f_X6_kinds_l42 triedAbout triedIs i_31 d_42 (i_42 + 1) (1 : Int32)) else (f_X6_kinds_l42 triedAbout triedIs i_31 d_42 (i_42 + 1) (0 : Int32)))) else (if (f_X6_standsBy ((nI i_31) / (4 : Int32)) (f_X6_has (triedAbout i_42) (0 : Int32)) (f_X6_has (triedAbout i_42) (1 : Int32)) (f_X6_has (triedAbout i_42) (2 : Int32)) (f_X6_has (triedAbout i_42) (3 : Int32)) (f_X6_has (triedAbout i_42) (4 : Int32))) = (0 : Int32) then (if is42 = (0 : Int32) then (f_X6_kinds_l42 triedAbout triedIs i_31 d_42 (i_42 + 1) (0 : Int32)) else (if (triedIs i_42) = (1 : Int32) then (f_X6_kinds_l42 triedAbout triedIs i_31 d_42 (i_42 + 1) (0 : Int32)) else (f_X6_kinds_l42 triedAbout triedIs i_31 d_42 (i_42 + 1) (1 : Int32)))) else (if is42 = (0 : Int32) then (f_X6_kinds_l42 triedAbout triedIs i_31 d_42 (i_42 + 1) (0 : Int32)) else (if (triedIs i_42) = (1 : Int32) then (f_X6_kinds_l42 triedAbout triedIs i_31 d_42 (i_42 + 1) (1 : Int32)) else (f_X6_kinds_l42 triedAbout triedIs i_31 d_42 (i_42 + 1) (0 : Int32))))))
theorem f_X6_kinds_l42_z {triedAbout : Nat → Int32} {triedIs : Nat → Int32} {i_31 : Nat} {i_42 : Nat} {is42 : Int32} : f_X6_kinds_l42 triedAbout triedIs i_31 0 i_42 is42 = is42 := by rw [f_X6_kinds_l42]
theorem f_X6_kinds_l42_s {triedAbout : Nat → Int32} {triedIs : Nat → Int32} {i_31 : Nat} {d_42 : Nat} {i_42 : Nat} {is42 : Int32} : f_X6_kinds_l42 triedAbout triedIs i_31 (d_42 + 1) i_42 is42 = (if (jr (nI i_31) (4 : Int32)) = (0 : Int32) then (if is42 = (0 : Int32) then (f_X6_kinds_l42 triedAbout triedIs i_31 d_42 (i_42 + 1) (0 : Int32)) else (if (triedIs i_42) = (1 : Int32) then (f_X6_kinds_l42 triedAbout triedIs i_31 d_42 (i_42 + 1) (1 : Int32)) else (f_X6_kinds_l42 triedAbout triedIs i_31 d_42 (i_42 + 1) (0 : Int32)))) else (if (f_X6_standsBy ((nI i_31) / (4 : Int32)) (f_X6_has (triedAbout i_42) (0 : Int32)) (f_X6_has (triedAbout i_42) (1 : Int32)) (f_X6_has (triedAbout i_42) (2 : Int32)) (f_X6_has (triedAbout i_42) (3 : Int32)) (f_X6_has (triedAbout i_42) (4 : Int32))) = (0 : Int32) then (if is42 = (0 : Int32) then (f_X6_kinds_l42 triedAbout triedIs i_31 d_42 (i_42 + 1) (0 : Int32)) else (if (triedIs i_42) = (1 : Int32) then (f_X6_kinds_l42 triedAbout triedIs i_31 d_42 (i_42 + 1) (0 : Int32)) else (f_X6_kinds_l42 triedAbout triedIs i_31 d_42 (i_42 + 1) (1 : Int32)))) else (if is42 = (0 : Int32) then (f_X6_kinds_l42 triedAbout triedIs i_31 d_42 (i_42 + 1) (0 : Int32)) else (if (triedIs i_42) = (1 : Int32) then (f_X6_kinds_l42 triedAbout triedIs i_31 d_42 (i_42 + 1) (1 : Int32)) else (f_X6_kinds_l42 triedAbout triedIs i_31 d_42 (i_42 + 1) (0 : Int32)))))) := by rw [f_X6_kinds_l42]
def f_X6_kinds_l31 (tr : Nat) (triedAbout : Nat → Int32) (triedIs : Nat → Int32) : Nat → Nat → (Int32) → (Int32) → (Int32) × (Int32)
  | 0, i_31, km31, kf31 => (km31, kf31)
  | d_31 + 1, i_31, km31, kf31 => (if (f_X6_kinds_l42 triedAbout triedIs i_31 tr 0 (1 : Int32)) = (0 : Int32) then (if (f_X6_kinds_l42 triedAbout triedIs i_31 tr 0 (1 : Int32)) = (0 : Int32) then (f_X6_kinds_l31 tr triedAbout triedIs d_31 (i_31 + 1) (km31 + (0 : Int32)) kf31) else (f_X6_kinds_l31 tr triedAbout triedIs d_31 (i_31 + 1) (km31 + (1 : Int32)) kf31)) else (if km31 = (0 : Int32) then (if (f_X6_kinds_l42 triedAbout triedIs i_31 tr 0 (1 : Int32)) = (0 : Int32) then (f_X6_kinds_l31 tr triedAbout triedIs d_31 (i_31 + 1) (km31 + (0 : Int32)) (((10 : Int32) * ((nI i_31) / (4 : Int32))) + (jr (nI i_31) (4 : Int32)))) else (f_X6_kinds_l31 tr triedAbout triedIs d_31 (i_31 + 1) (km31 + (1 : Int32)) (((10 : Int32) * ((nI i_31) / (4 : Int32))) + (jr (nI i_31) (4 : Int32))))) else (if (f_X6_kinds_l42 triedAbout triedIs i_31 tr 0 (1 : Int32)) = (0 : Int32) then (f_X6_kinds_l31 tr triedAbout triedIs d_31 (i_31 + 1) (km31 + (0 : Int32)) kf31) else (f_X6_kinds_l31 tr triedAbout triedIs d_31 (i_31 + 1) (km31 + (1 : Int32)) kf31))))
theorem f_X6_kinds_l31_z {tr : Nat} {triedAbout : Nat → Int32} {triedIs : Nat → Int32} {i_31 : Nat} {km31 : Int32} {kf31 : Int32} : f_X6_kinds_l31 tr triedAbout triedIs 0 i_31 km31 kf31 = (km31, kf31) := by rw [f_X6_kinds_l31]
theorem f_X6_kinds_l31_s {tr : Nat} {triedAbout : Nat → Int32} {triedIs : Nat → Int32} {d_31 : Nat} {i_31 : Nat} {km31 : Int32} {kf31 : Int32} : f_X6_kinds_l31 tr triedAbout triedIs (d_31 + 1) i_31 km31 kf31 = (if (f_X6_kinds_l42 triedAbout triedIs i_31 tr 0 (1 : Int32)) = (0 : Int32) then (if (f_X6_kinds_l42 triedAbout triedIs i_31 tr 0 (1 : Int32)) = (0 : Int32) then (f_X6_kinds_l31 tr triedAbout triedIs d_31 (i_31 + 1) (km31 + (0 : Int32)) kf31) else (f_X6_kinds_l31 tr triedAbout triedIs d_31 (i_31 + 1) (km31 + (1 : Int32)) kf31)) else (if km31 = (0 : Int32) then (if (f_X6_kinds_l42 triedAbout triedIs i_31 tr 0 (1 : Int32)) = (0 : Int32) then (f_X6_kinds_l31 tr triedAbout triedIs d_31 (i_31 + 1) (km31 + (0 : Int32)) (((10 : Int32) * ((nI i_31) / (4 : Int32))) + (jr (nI i_31) (4 : Int32)))) else (f_X6_kinds_l31 tr triedAbout triedIs d_31 (i_31 + 1) (km31 + (1 : Int32)) (((10 : Int32) * ((nI i_31) / (4 : Int32))) + (jr (nI i_31) (4 : Int32))))) else (if (f_X6_kinds_l42 triedAbout triedIs i_31 tr 0 (1 : Int32)) = (0 : Int32) then (f_X6_kinds_l31 tr triedAbout triedIs d_31 (i_31 + 1) (km31 + (0 : Int32)) kf31) else (f_X6_kinds_l31 tr triedAbout triedIs d_31 (i_31 + 1) (km31 + (1 : Int32)) kf31)))) := by rw [f_X6_kinds_l31]
def f_X6_kinds (tr : Nat) (kindMany : Int32) (kindFirst : Int32) (triedAbout : Nat → Int32) (triedIs : Nat → Int32) (a1 : Int32) : (Int32) × (Int32) × (Int32) × (Int32) := (if (f_X6_in a1.toInt64 (0 : Int64) (1 : Int64)) = (0 : Int32) then ((-2 : Int32), (0 : Int32), kindMany, kindFirst) else (if a1 = (0 : Int32) then ((f_X6_kinds_l31 tr triedAbout triedIs 16 0 (0 : Int32) (-9 : Int32)).1, (0 : Int32), (f_X6_kinds_l31 tr triedAbout triedIs 16 0 (0 : Int32) (-9 : Int32)).1, (f_X6_kinds_l31 tr triedAbout triedIs 16 0 (0 : Int32) (-9 : Int32)).2) else ((f_X6_kinds_l31 tr triedAbout triedIs 16 0 (0 : Int32) (-9 : Int32)).2, (0 : Int32), (f_X6_kinds_l31 tr triedAbout triedIs 16 0 (0 : Int32) (-9 : Int32)).1, (f_X6_kinds_l31 tr triedAbout triedIs 16 0 (0 : Int32) (-9 : Int32)).2)))
set_option maxHeartbeats 4000000 in
set_option maxRecDepth 100000 in
theorem c_X6_kinds (l : Launch) (D : va_G) (cI cZ : ClassId) (q : Nat → Nat) (thrown : Int32) (textSize : Int32) (place : Int32) (stock : Int32) (parts : Int32) (readStock : Int32) (readCells : Int32) (readParts : Int32) (acts : Int32) (tr : Nat) (soonMany : Int32) (soonWhich : Int32) (kindMany : Int32) (kindFirst : Int32) (restMany : Int32) (restFirst : Int32) (text lies kind readPart page trial book kept isKept triedAbout triedIs gains value : Nat → Int32) (seed : Int64) (a1 : Int32) (htr6 : tr ≤ 6) : WrI l yX6_kinds cX6_kinds 7 .int 1 25 D (tyL cI cZ) (MW cI cZ q thrown textSize place stock parts readStock readCells readParts acts (nI tr) soonMany soonWhich kindMany kindFirst restMany restFirst text lies kind readPart page trial book kept isKept triedAbout triedIs gains value seed) [.ref (q 0), .int a1] (f_X6_kinds tr kindMany kindFirst triedAbout triedIs a1).1 (MW cI cZ q (f_X6_kinds tr kindMany kindFirst triedAbout triedIs a1).2.1 textSize place stock parts readStock readCells readParts acts (nI tr) soonMany soonWhich (f_X6_kinds tr kindMany kindFirst triedAbout triedIs a1).2.2.1 (f_X6_kinds tr kindMany kindFirst triedAbout triedIs a1).2.2.2 restMany restFirst text lies kind readPart page trial book kept isKept triedAbout triedIs gains value seed) := by
  refine WrI.of (by decide) (Nat.le_of_ble_eq_true rfl) ?_
  intro p e s m args below meth c Q A hx hb hml hown hts hP hK hD hS fin ls hl
  have hown : s.vm.findClass RX6 = some m.cls := hown
  have hF : CallFix p m c cX6_kinds 7 s args tb RX6 := ⟨hx, hb, hml, hown, hts⟩
  have hl : lv_has ls 7 [(0, .ref (q 0)), (1, .int a1)] := hl
  generalize hR : (f_X6_kinds tr kindMany kindFirst triedAbout triedIs a1) = R at fin
  unfold f_X6_kinds at hR
  refine lv_aload_n hx hb dX6_kinds_0 rfl (lv_at hl 0 rfl) ?_
  refine lv_iconst (v := (0 : Int32)) hx hb dX6_kinds_1 (by decide) ?_
  refine va_put (D := D) (ci := 5) (v := .int (0 : Int32)) (ty := .int) (C := RX6) (T := TX6) (N := 30) hx hb hts tbX6 tyX6 tyX6_ok nmX6 hown hK hP hD hS 0 MW_0 rfl 0 (by decide) (hts _ tm_3_1) (fun _ h9 => h9) rfl (by decide +kernel) rfl rfl (Nat.le_of_ble_eq_true rfl) dX6_kinds_2 (fun H locs hP _ hS => ?_)
  have hP : va_P D vwCl (MW cI cZ q (0 : Int32) textSize place stock parts readStock readCells readParts acts (nI tr) soonMany soonWhich kindMany kindFirst restMany restFirst text lies kind readPart page trial book kept isKept triedAbout triedIs gains value seed) H := hP
  have hD : va_D A (MW cI cZ q (0 : Int32) textSize place stock parts readStock readCells readParts acts (nI tr) soonMany soonWhich kindMany kindFirst restMany restFirst text lies kind readPart page trial book kept isKept triedAbout triedIs gains value seed) := hD.same (MW_ad.trans MW_ad.symm)
  refine lv_iload_n hx hb dX6_kinds_5 rfl (lv_at hl 1 rfl) ?_
  refine lv_i2l (v := a1.toInt64) hx hb dX6_kinds_6 rfl ?_
  refine lv_lconst (v := (0 : Int64)) hx hb dX6_kinds_7 (by decide) ?_
  refine lv_lconst (v := (1 : Int64)) hx hb dX6_kinds_8 (by decide) ?_
  refine sRdI (As := [.long a1.toInt64, .long (0 : Int64), .long (1 : Int64)]) (rest := []) hF (c_X6_in l D cI cZ q a1.toInt64 (0 : Int64) (1 : Int64)) (gdS tm_3_97 tm_3_98 tm_1_6 tm_3_99) de_X6_in ⟨Nat.le_of_ble_eq_true rfl, Nat.le_of_ble_eq_true rfl⟩ va_P_nil hK hl.1 rfl (Nat.le_of_ble_eq_true rfl) dX6_kinds_9 ⟨Nat.zero_le _, Nat.zero_le _⟩ ?_
  refine lv_if_ne (tgt := 18) hx hb dX6_kinds_12 (by decide) (fun c_12 => ?_) (fun c_12 => ?_)
  · rw [if_neg c_12] at hR
    refine lv_aload_n hx hb dX6_kinds_18 rfl (lv_at hl 0 rfl) ?_
    refine lv_iconst (v := (0 : Int32)) hx hb dX6_kinds_19 (by decide) ?_
    refine va_put (D := D) (ci := 5) (v := .int (0 : Int32)) (ty := .int) (C := RX6) (T := TX6) (N := 30) hx hb hts tbX6 tyX6 tyX6_ok nmX6 hown hK hP hD hS 0 MW_0 rfl 24 (by decide) (hts _ tm_3_25) (fun _ h9 => h9) rfl (by decide +kernel) rfl rfl (Nat.le_of_ble_eq_true rfl) dX6_kinds_20 (fun H locs hP _ hS => ?_)
    have hP : va_P D vwCl (MW cI cZ q (0 : Int32) textSize place stock parts readStock readCells readParts acts (nI tr) soonMany soonWhich (0 : Int32) kindFirst restMany restFirst text lies kind readPart page trial book kept isKept triedAbout triedIs gains value seed) H := hP
    have hD : va_D A (MW cI cZ q (0 : Int32) textSize place stock parts readStock readCells readParts acts (nI tr) soonMany soonWhich (0 : Int32) kindFirst restMany restFirst text lies kind readPart page trial book kept isKept triedAbout triedIs gains value seed) := hD.same (MW_ad.trans MW_ad.symm)
    refine lv_aload_n hx hb dX6_kinds_23 rfl (lv_at hl 0 rfl) ?_
    refine lv_bipush (v := (-9 : Int32)) hx hb dX6_kinds_24 (by decide) ?_
    refine va_put (D := D) (ci := 5) (v := .int (-9 : Int32)) (ty := .int) (C := RX6) (T := TX6) (N := 30) hx hb hts tbX6 tyX6 tyX6_ok nmX6 hown hK hP hD hS 0 MW_0 rfl 25 (by decide) (hts _ tm_3_26) (fun _ h9 => h9) rfl (by decide +kernel) rfl rfl (Nat.le_of_ble_eq_true rfl) dX6_kinds_26 (fun H locs hP _ hS => ?_)
    have hP : va_P D vwCl (MW cI cZ q (0 : Int32) textSize place stock parts readStock readCells readParts acts (nI tr) soonMany soonWhich (0 : Int32) (-9 : Int32) restMany restFirst text lies kind readPart page trial book kept isKept triedAbout triedIs gains value seed) H := hP
    have hD : va_D A (MW cI cZ q (0 : Int32) textSize place stock parts readStock readCells readParts acts (nI tr) soonMany soonWhich (0 : Int32) (-9 : Int32) restMany restFirst text lies kind readPart page trial book kept isKept triedAbout triedIs gains value seed) := hD.same (MW_ad.trans MW_ad.symm)
    refine lv_iconst (v := (0 : Int32)) hx hb dX6_kinds_29 (by decide) ?_
    refine lv_istore_n (lv' := [(2, .int (0 : Int32)), (0, .ref (q 0)), (1, .int a1)]) hx hb dX6_kinds_30 rfl hl (by decide) rfl (fun ls hl => ?_)
    obtain ⟨T_31, hT_31⟩ : ∃ z, f_X6_kinds_l31 tr triedAbout triedIs 16 0 (0 : Int32) (-9 : Int32) = z := ⟨_, rfl⟩
    rw [hT_31] at hR
    have key_31 : ∀ (d_31 i_31 : Nat) (km31 : Int32) (kf31 : Int32) (ls : Array Slot) (H : Heap) (locs : List Loc), i_31 + d_31 = 16 → f_X6_kinds_l31 tr triedAbout triedIs d_31 i_31 km31 kf31 = T_31 → lv_has ls 7 [(2, .int (nI i_31)), (0, .ref (q 0)), (1, .int a1)] → va_P D vwCl (MW cI cZ q (0 : Int32) textSize place stock parts readStock readCells readParts acts (nI tr) soonMany soonWhich km31 kf31 restMany restFirst text lies kind readPart page trial book kept isKept triedAbout triedIs gains value seed) H → va_S A s.heap H locs → W p l e (rmO 1 25) s m args below meth c H locs 0 0 Q (F0 m 31 ls []) := by
      intro d_31
      induction d_31 with
      | zero =>
        intro i_31 km31 kf31 ls H locs hi_31 hT_31 hl hP hS
        have hD : va_D A (MW cI cZ q (0 : Int32) textSize place stock parts readStock readCells readParts acts (nI tr) soonMany soonWhich km31 kf31 restMany restFirst text lies kind readPart page trial book kept isKept triedAbout triedIs gains value seed) := hD.same (MW_ad.trans MW_ad.symm)
        rw [f_X6_kinds_l31_z] at hT_31
        refine lv_iload_n hx hb dX6_kinds_31 rfl (lv_at hl 0 rfl) ?_
        refine lv_bipush (v := (16 : Int32)) hx hb dX6_kinds_32 (by decide) ?_
        refine lv_icmp_ge (tgt := 205) hx hb dX6_kinds_34 (by decide) (fun c_34 => ?_) (fun c_34 => absurd (nI_le (a := 16) (by omega) (by omega)) c_34)
        subst hT_31
        try dsimp only at hR
        refine lv_iload_n hx hb dX6_kinds_205 rfl (lv_at hl 2 rfl) ?_
        refine lv_if_ne (tgt := 216) hx hb dX6_kinds_206 (by decide) (fun c_206 => ?_) (fun c_206 => ?_)
        · rw [if_neg c_206] at hR
          refine lv_aload_n hx hb dX6_kinds_216 rfl (lv_at hl 1 rfl) ?_
          refine va_get (D := D) (ci := 5) (v := .int kf31) (C := RX6) (T := TX6) (N := 30) hx hb hts tbX6 hown hK hP 0 MW_0 rfl 25 (by decide) (hts _ tm_3_26) (fun _ h9 => h9) rfl dX6_kinds_217 ?_
          subst hR
          exact fin _ _ _ _ dX6_kinds_220 (nar_i _) hP hS
        · rw [if_pos c_206] at hR
          refine lv_aload_n hx hb dX6_kinds_209 rfl (lv_at hl 1 rfl) ?_
          refine va_get (D := D) (ci := 5) (v := .int km31) (C := RX6) (T := TX6) (N := 30) hx hb hts tbX6 hown hK hP 0 MW_0 rfl 24 (by decide) (hts _ tm_3_25) (fun _ h9 => h9) rfl dX6_kinds_210 ?_
          refine lv_goto (tgt := 220) hx hb dX6_kinds_213 (by decide) ?_
          subst hR
          exact fin _ _ _ _ dX6_kinds_220 (nar_i _) hP hS
      | succ d_31 ih_31 =>
        intro i_31 km31 kf31 ls H locs hi_31 hT_31 hl hP hS
        have hD : va_D A (MW cI cZ q (0 : Int32) textSize place stock parts readStock readCells readParts acts (nI tr) soonMany soonWhich km31 kf31 restMany restFirst text lies kind readPart page trial book kept isKept triedAbout triedIs gains value seed) := hD.same (MW_ad.trans MW_ad.symm)
        rw [f_X6_kinds_l31_s] at hT_31
        refine lv_iload_n hx hb dX6_kinds_31 rfl (lv_at hl 0 rfl) ?_
        refine lv_bipush (v := (16 : Int32)) hx hb dX6_kinds_32 (by decide) ?_
        refine lv_icmp_ge (tgt := 205) hx hb dX6_kinds_34 (by decide) (fun c_34 => absurd c_34 (nI_ge (b := 16) (by omega) (by omega))) (fun c_34 => ?_)
        refine lv_iconst (v := (1 : Int32)) hx hb dX6_kinds_37 (by decide) ?_
        refine lv_istore_n (lv' := [(3, .int (1 : Int32)), (2, .int (nI i_31)), (0, .ref (q 0)), (1, .int a1)]) hx hb dX6_kinds_38 rfl hl (by decide) rfl (fun ls hl => ?_)
        refine lv_iconst (v := (0 : Int32)) hx hb dX6_kinds_39 (by decide) ?_
        refine lv_istore (lv' := [(4, .int (0 : Int32)), (3, .int (1 : Int32)), (2, .int (nI i_31)), (0, .ref (q 0)), (1, .int a1)]) hx hb dX6_kinds_40 hl (by decide) rfl (fun ls hl => ?_)
        obtain ⟨T_42, hT_42⟩ : ∃ z, f_X6_kinds_l42 triedAbout triedIs i_31 tr 0 (1 : Int32) = z := ⟨_, rfl⟩
        rw [hT_42] at hT_31
        have key_42 : ∀ (d_42 i_42 : Nat) (is42 : Int32) (ls : Array Slot) (H : Heap) (locs : List Loc), i_42 + d_42 = tr → f_X6_kinds_l42 triedAbout triedIs i_31 d_42 i_42 is42 = T_42 → lv_has ls 7 [(4, .int (nI i_42)), (3, .int is42), (2, .int (nI i_31)), (0, .ref (q 0)), (1, .int a1)] → va_P D vwCl (MW cI cZ q (0 : Int32) textSize place stock parts readStock readCells readParts acts (nI tr) soonMany soonWhich km31 kf31 restMany restFirst text lies kind readPart page trial book kept isKept triedAbout triedIs gains value seed) H → va_S A s.heap H locs → W p l e (rmO 1 25) s m args below meth c H locs 0 0 Q (F0 m 42 ls []) := by
          intro d_42
          induction d_42 with
          | zero =>
            intro i_42 is42 ls H locs hi_42 hT_42 hl hP hS
            have hD : va_D A (MW cI cZ q (0 : Int32) textSize place stock parts readStock readCells readParts acts (nI tr) soonMany soonWhich km31 kf31 restMany restFirst text lies kind readPart page trial book kept isKept triedAbout triedIs gains value seed) := hD.same (MW_ad.trans MW_ad.symm)
            rw [f_X6_kinds_l42_z] at hT_42
            refine lv_iload hx hb dX6_kinds_42 (lv_at hl 0 rfl) ?_
            refine lv_aload_n hx hb dX6_kinds_44 rfl (lv_at hl 3 rfl) ?_
            refine va_get (D := D) (ci := 5) (v := .int (nI tr)) (C := RX6) (T := TX6) (N := 30) hx hb hts tbX6 hown hK hP 0 MW_0 rfl 18 (by decide) (hts _ tm_3_19) (fun _ h9 => h9) rfl dX6_kinds_45 ?_
            refine lv_icmp_ge (tgt := 149) hx hb dX6_kinds_48 (by decide) (fun c_48 => ?_) (fun c_48 => absurd (nI_le  (by omega) (by omega)) c_48)
            subst hT_42
            try dsimp only at hT_31
            refine lv_aload_n hx hb dX6_kinds_149 rfl (lv_at hl 3 rfl) ?_
            refine lv_iload_n hx hb dX6_kinds_150 rfl (lv_at hl 1 rfl) ?_
            refine lv_if_eq (tgt := 174) hx hb dX6_kinds_151 (by decide) (fun c_151 => ?_) (fun c_151 => ?_)
            · rw [if_pos c_151] at hT_31
              refine lv_aload_n hx hb dX6_kinds_174 rfl (lv_at hl 3 rfl) ?_
              refine va_get (D := D) (ci := 5) (v := .int kf31) (C := RX6) (T := TX6) (N := 30) hx hb hts tbX6 hown hK hP 0 MW_0 rfl 25 (by decide) (hts _ tm_3_26) (fun _ h9 => h9) rfl dX6_kinds_175 ?_
              refine va_put (D := D) (ci := 5) (v := .int kf31) (ty := .int) (C := RX6) (T := TX6) (N := 30) hx hb hts tbX6 tyX6 tyX6_ok nmX6 hown hK hP hD hS 0 MW_0 rfl 25 (by decide) (hts _ tm_3_26) (fun _ h9 => h9) rfl (by decide +kernel) rfl rfl (Nat.le_of_ble_eq_true rfl) dX6_kinds_178 (fun H locs hP _ hS => ?_)
              have hP : va_P D vwCl (MW cI cZ q (0 : Int32) textSize place stock parts readStock readCells readParts acts (nI tr) soonMany soonWhich km31 kf31 restMany restFirst text lies kind readPart page trial book kept isKept triedAbout triedIs gains value seed) H := hP
              have hD : va_D A (MW cI cZ q (0 : Int32) textSize place stock parts readStock readCells readParts acts (nI tr) soonMany soonWhich km31 kf31 restMany restFirst text lies kind readPart page trial book kept isKept triedAbout triedIs gains value seed) := hD.same (MW_ad.trans MW_ad.symm)
              refine lv_aload_n hx hb dX6_kinds_181 rfl (lv_at hl 3 rfl) ?_
              refine lv_dup hx hb dX6_kinds_182 rfl ?_
              refine va_get (D := D) (ci := 5) (v := .int km31) (C := RX6) (T := TX6) (N := 30) hx hb hts tbX6 hown hK hP 0 MW_0 rfl 24 (by decide) (hts _ tm_3_25) (fun _ h9 => h9) rfl dX6_kinds_183 ?_
              refine lv_iload_n hx hb dX6_kinds_186 rfl (lv_at hl 1 rfl) ?_
              refine lv_if_eq (tgt := 194) hx hb dX6_kinds_187 (by decide) (fun c_187 => ?_) (fun c_187 => ?_)
              · rw [if_pos c_187] at hT_31
                refine lv_iconst (v := (0 : Int32)) hx hb dX6_kinds_194 (by decide) ?_
                refine lv_iadd hx hb dX6_kinds_195 ?_
                refine va_put (D := D) (ci := 5) (v := .int (km31 + (0 : Int32))) (ty := .int) (C := RX6) (T := TX6) (N := 30) hx hb hts tbX6 tyX6 tyX6_ok nmX6 hown hK hP hD hS 0 MW_0 rfl 24 (by decide) (hts _ tm_3_25) (fun _ h9 => h9) rfl (by decide +kernel) rfl rfl (Nat.le_of_ble_eq_true rfl) dX6_kinds_196 (fun H locs hP _ hS => ?_)
                have hP : va_P D vwCl (MW cI cZ q (0 : Int32) textSize place stock parts readStock readCells readParts acts (nI tr) soonMany soonWhich (km31 + (0 : Int32)) kf31 restMany restFirst text lies kind readPart page trial book kept isKept triedAbout triedIs gains value seed) H := hP
                have hD : va_D A (MW cI cZ q (0 : Int32) textSize place stock parts readStock readCells readParts acts (nI tr) soonMany soonWhich (km31 + (0 : Int32)) kf31 restMany restFirst text lies kind readPart page trial book kept isKept triedAbout triedIs gains value seed) := hD.same (MW_ad.trans MW_ad.symm)
                refine lv_iinc (v := (nI (i_31 + 1))) (lv' := [(2, .int (nI (i_31 + 1))), (4, .int (nI i_42)), (3, .int is42), (0, .ref (q 0)), (1, .int a1)]) hx hb dX6_kinds_199 hl (k := 2) rfl (nI_up i_31) (by decide) rfl (fun ls hl => ?_)
                refine lv_goto (tgt := 31) hx hb dX6_kinds_202 (by decide) ?_
                exact ih_31 (i_31 + 1) (km31 + (0 : Int32)) kf31 ls _ _ (by omega) hT_31 (lv_sub hl [0, 3, 4] rfl) hP hS
              · rw [if_neg c_187] at hT_31
                refine lv_iconst (v := (1 : Int32)) hx hb dX6_kinds_190 (by decide) ?_
                refine lv_goto (tgt := 195) hx hb dX6_kinds_191 (by decide) ?_
                refine lv_iadd hx hb dX6_kinds_195 ?_
                refine va_put (D := D) (ci := 5) (v := .int (km31 + (1 : Int32))) (ty := .int) (C := RX6) (T := TX6) (N := 30) hx hb hts tbX6 tyX6 tyX6_ok nmX6 hown hK hP hD hS 0 MW_0 rfl 24 (by decide) (hts _ tm_3_25) (fun _ h9 => h9) rfl (by decide +kernel) rfl rfl (Nat.le_of_ble_eq_true rfl) dX6_kinds_196 (fun H locs hP _ hS => ?_)
                have hP : va_P D vwCl (MW cI cZ q (0 : Int32) textSize place stock parts readStock readCells readParts acts (nI tr) soonMany soonWhich (km31 + (1 : Int32)) kf31 restMany restFirst text lies kind readPart page trial book kept isKept triedAbout triedIs gains value seed) H := hP
                have hD : va_D A (MW cI cZ q (0 : Int32) textSize place stock parts readStock readCells readParts acts (nI tr) soonMany soonWhich (km31 + (1 : Int32)) kf31 restMany restFirst text lies kind readPart page trial book kept isKept triedAbout triedIs gains value seed) := hD.same (MW_ad.trans MW_ad.symm)
                refine lv_iinc (v := (nI (i_31 + 1))) (lv' := [(2, .int (nI (i_31 + 1))), (4, .int (nI i_42)), (3, .int is42), (0, .ref (q 0)), (1, .int a1)]) hx hb dX6_kinds_199 hl (k := 2) rfl (nI_up i_31) (by decide) rfl (fun ls hl => ?_)
                refine lv_goto (tgt := 31) hx hb dX6_kinds_202 (by decide) ?_
                exact ih_31 (i_31 + 1) (km31 + (1 : Int32)) kf31 ls _ _ (by omega) hT_31 (lv_sub hl [0, 3, 4] rfl) hP hS
            · rw [if_neg c_151] at hT_31
              refine lv_aload_n hx hb dX6_kinds_154 rfl (lv_at hl 3 rfl) ?_
              refine va_get (D := D) (ci := 5) (v := .int km31) (C := RX6) (T := TX6) (N := 30) hx hb hts tbX6 hown hK hP 0 MW_0 rfl 24 (by decide) (hts _ tm_3_25) (fun _ h9 => h9) rfl dX6_kinds_155 ?_
              refine lv_if_ne (tgt := 174) hx hb dX6_kinds_158 (by decide) (fun c_158 => ?_) (fun c_158 => ?_)
              · rw [if_neg c_158] at hT_31
                refine lv_aload_n hx hb dX6_kinds_174 rfl (lv_at hl 3 rfl) ?_
                refine va_get (D := D) (ci := 5) (v := .int kf31) (C := RX6) (T := TX6) (N := 30) hx hb hts tbX6 hown hK hP 0 MW_0 rfl 25 (by decide) (hts _ tm_3_26) (fun _ h9 => h9) rfl dX6_kinds_175 ?_
                refine va_put (D := D) (ci := 5) (v := .int kf31) (ty := .int) (C := RX6) (T := TX6) (N := 30) hx hb hts tbX6 tyX6 tyX6_ok nmX6 hown hK hP hD hS 0 MW_0 rfl 25 (by decide) (hts _ tm_3_26) (fun _ h9 => h9) rfl (by decide +kernel) rfl rfl (Nat.le_of_ble_eq_true rfl) dX6_kinds_178 (fun H locs hP _ hS => ?_)
                have hP : va_P D vwCl (MW cI cZ q (0 : Int32) textSize place stock parts readStock readCells readParts acts (nI tr) soonMany soonWhich km31 kf31 restMany restFirst text lies kind readPart page trial book kept isKept triedAbout triedIs gains value seed) H := hP
                have hD : va_D A (MW cI cZ q (0 : Int32) textSize place stock parts readStock readCells readParts acts (nI tr) soonMany soonWhich km31 kf31 restMany restFirst text lies kind readPart page trial book kept isKept triedAbout triedIs gains value seed) := hD.same (MW_ad.trans MW_ad.symm)
                refine lv_aload_n hx hb dX6_kinds_181 rfl (lv_at hl 3 rfl) ?_
                refine lv_dup hx hb dX6_kinds_182 rfl ?_
                refine va_get (D := D) (ci := 5) (v := .int km31) (C := RX6) (T := TX6) (N := 30) hx hb hts tbX6 hown hK hP 0 MW_0 rfl 24 (by decide) (hts _ tm_3_25) (fun _ h9 => h9) rfl dX6_kinds_183 ?_
                refine lv_iload_n hx hb dX6_kinds_186 rfl (lv_at hl 1 rfl) ?_
                refine lv_if_eq (tgt := 194) hx hb dX6_kinds_187 (by decide) (fun c_187 => ?_) (fun c_187 => ?_)
                · rw [if_pos c_187] at hT_31
                  refine lv_iconst (v := (0 : Int32)) hx hb dX6_kinds_194 (by decide) ?_
                  refine lv_iadd hx hb dX6_kinds_195 ?_
                  refine va_put (D := D) (ci := 5) (v := .int (km31 + (0 : Int32))) (ty := .int) (C := RX6) (T := TX6) (N := 30) hx hb hts tbX6 tyX6 tyX6_ok nmX6 hown hK hP hD hS 0 MW_0 rfl 24 (by decide) (hts _ tm_3_25) (fun _ h9 => h9) rfl (by decide +kernel) rfl rfl (Nat.le_of_ble_eq_true rfl) dX6_kinds_196 (fun H locs hP _ hS => ?_)
                  have hP : va_P D vwCl (MW cI cZ q (0 : Int32) textSize place stock parts readStock readCells readParts acts (nI tr) soonMany soonWhich (km31 + (0 : Int32)) kf31 restMany restFirst text lies kind readPart page trial book kept isKept triedAbout triedIs gains value seed) H := hP
                  have hD : va_D A (MW cI cZ q (0 : Int32) textSize place stock parts readStock readCells readParts acts (nI tr) soonMany soonWhich (km31 + (0 : Int32)) kf31 restMany restFirst text lies kind readPart page trial book kept isKept triedAbout triedIs gains value seed) := hD.same (MW_ad.trans MW_ad.symm)
                  refine lv_iinc (v := (nI (i_31 + 1))) (lv' := [(2, .int (nI (i_31 + 1))), (4, .int (nI i_42)), (3, .int is42), (0, .ref (q 0)), (1, .int a1)]) hx hb dX6_kinds_199 hl (k := 2) rfl (nI_up i_31) (by decide) rfl (fun ls hl => ?_)
                  refine lv_goto (tgt := 31) hx hb dX6_kinds_202 (by decide) ?_
                  exact ih_31 (i_31 + 1) (km31 + (0 : Int32)) kf31 ls _ _ (by omega) hT_31 (lv_sub hl [0, 3, 4] rfl) hP hS
                · rw [if_neg c_187] at hT_31
                  refine lv_iconst (v := (1 : Int32)) hx hb dX6_kinds_190 (by decide) ?_
                  refine lv_goto (tgt := 195) hx hb dX6_kinds_191 (by decide) ?_
                  refine lv_iadd hx hb dX6_kinds_195 ?_
                  refine va_put (D := D) (ci := 5) (v := .int (km31 + (1 : Int32))) (ty := .int) (C := RX6) (T := TX6) (N := 30) hx hb hts tbX6 tyX6 tyX6_ok nmX6 hown hK hP hD hS 0 MW_0 rfl 24 (by decide) (hts _ tm_3_25) (fun _ h9 => h9) rfl (by decide +kernel) rfl rfl (Nat.le_of_ble_eq_true rfl) dX6_kinds_196 (fun H locs hP _ hS => ?_)
                  have hP : va_P D vwCl (MW cI cZ q (0 : Int32) textSize place stock parts readStock readCells readParts acts (nI tr) soonMany soonWhich (km31 + (1 : Int32)) kf31 restMany restFirst text lies kind readPart page trial book kept isKept triedAbout triedIs gains value seed) H := hP
                  have hD : va_D A (MW cI cZ q (0 : Int32) textSize place stock parts readStock readCells readParts acts (nI tr) soonMany soonWhich (km31 + (1 : Int32)) kf31 restMany restFirst text lies kind readPart page trial book kept isKept triedAbout triedIs gains value seed) := hD.same (MW_ad.trans MW_ad.symm)
                  refine lv_iinc (v := (nI (i_31 + 1))) (lv' := [(2, .int (nI (i_31 + 1))), (4, .int (nI i_42)), (3, .int is42), (0, .ref (q 0)), (1, .int a1)]) hx hb dX6_kinds_199 hl (k := 2) rfl (nI_up i_31) (by decide) rfl (fun ls hl => ?_)
                  refine lv_goto (tgt := 31) hx hb dX6_kinds_202 (by decide) ?_
                  exact ih_31 (i_31 + 1) (km31 + (1 : Int32)) kf31 ls _ _ (by omega) hT_31 (lv_sub hl [0, 3, 4] rfl) hP hS
              · rw [if_pos c_158] at hT_31
                refine lv_bipush (v := (10 : Int32)) hx hb dX6_kinds_161 (by decide) ?_
                refine lv_iload_n hx hb dX6_kinds_163 rfl (lv_at hl 2 rfl) ?_
                refine lv_iconst (v := (4 : Int32)) hx hb dX6_kinds_164 (by decide) ?_
                refine lv_idiv hx hb dX6_kinds_165 (by decide) ?_
                refine lv_imul hx hb dX6_kinds_166 ?_
                refine lv_iload_n hx hb dX6_kinds_167 rfl (lv_at hl 2 rfl) ?_
                refine lv_iconst (v := (4 : Int32)) hx hb dX6_kinds_168 (by decide) ?_
                refine lv_irem hx hb dX6_kinds_169 (by decide) ?_
                refine lv_rw (z := (jr (nI i_31) (4 : Int32))) rfl ?_
                refine lv_iadd hx hb dX6_kinds_170 ?_
                refine lv_goto (tgt := 178) hx hb dX6_kinds_171 (by decide) ?_
                refine va_put (D := D) (ci := 5) (v := .int (((10 : Int32) * ((nI i_31) / (4 : Int32))) + (jr (nI i_31) (4 : Int32)))) (ty := .int) (C := RX6) (T := TX6) (N := 30) hx hb hts tbX6 tyX6 tyX6_ok nmX6 hown hK hP hD hS 0 MW_0 rfl 25 (by decide) (hts _ tm_3_26) (fun _ h9 => h9) rfl (by decide +kernel) rfl rfl (Nat.le_of_ble_eq_true rfl) dX6_kinds_178 (fun H locs hP _ hS => ?_)
                have hP : va_P D vwCl (MW cI cZ q (0 : Int32) textSize place stock parts readStock readCells readParts acts (nI tr) soonMany soonWhich km31 (((10 : Int32) * ((nI i_31) / (4 : Int32))) + (jr (nI i_31) (4 : Int32))) restMany restFirst text lies kind readPart page trial book kept isKept triedAbout triedIs gains value seed) H := hP
                have hD : va_D A (MW cI cZ q (0 : Int32) textSize place stock parts readStock readCells readParts acts (nI tr) soonMany soonWhich km31 (((10 : Int32) * ((nI i_31) / (4 : Int32))) + (jr (nI i_31) (4 : Int32))) restMany restFirst text lies kind readPart page trial book kept isKept triedAbout triedIs gains value seed) := hD.same (MW_ad.trans MW_ad.symm)
                refine lv_aload_n hx hb dX6_kinds_181 rfl (lv_at hl 3 rfl) ?_
                refine lv_dup hx hb dX6_kinds_182 rfl ?_
                refine va_get (D := D) (ci := 5) (v := .int km31) (C := RX6) (T := TX6) (N := 30) hx hb hts tbX6 hown hK hP 0 MW_0 rfl 24 (by decide) (hts _ tm_3_25) (fun _ h9 => h9) rfl dX6_kinds_183 ?_
                refine lv_iload_n hx hb dX6_kinds_186 rfl (lv_at hl 1 rfl) ?_
                refine lv_if_eq (tgt := 194) hx hb dX6_kinds_187 (by decide) (fun c_187 => ?_) (fun c_187 => ?_)
                · rw [if_pos c_187] at hT_31
                  refine lv_iconst (v := (0 : Int32)) hx hb dX6_kinds_194 (by decide) ?_
                  refine lv_iadd hx hb dX6_kinds_195 ?_
                  refine va_put (D := D) (ci := 5) (v := .int (km31 + (0 : Int32))) (ty := .int) (C := RX6) (T := TX6) (N := 30) hx hb hts tbX6 tyX6 tyX6_ok nmX6 hown hK hP hD hS 0 MW_0 rfl 24 (by decide) (hts _ tm_3_25) (fun _ h9 => h9) rfl (by decide +kernel) rfl rfl (Nat.le_of_ble_eq_true rfl) dX6_kinds_196 (fun H locs hP _ hS => ?_)
                  have hP : va_P D vwCl (MW cI cZ q (0 : Int32) textSize place stock parts readStock readCells readParts acts (nI tr) soonMany soonWhich (km31 + (0 : Int32)) (((10 : Int32) * ((nI i_31) / (4 : Int32))) + (jr (nI i_31) (4 : Int32))) restMany restFirst text lies kind readPart page trial book kept isKept triedAbout triedIs gains value seed) H := hP
                  have hD : va_D A (MW cI cZ q (0 : Int32) textSize place stock parts readStock readCells readParts acts (nI tr) soonMany soonWhich (km31 + (0 : Int32)) (((10 : Int32) * ((nI i_31) / (4 : Int32))) + (jr (nI i_31) (4 : Int32))) restMany restFirst text lies kind readPart page trial book kept isKept triedAbout triedIs gains value seed) := hD.same (MW_ad.trans MW_ad.symm)
                  refine lv_iinc (v := (nI (i_31 + 1))) (lv' := [(2, .int (nI (i_31 + 1))), (4, .int (nI i_42)), (3, .int is42), (0, .ref (q 0)), (1, .int a1)]) hx hb dX6_kinds_199 hl (k := 2) rfl (nI_up i_31) (by decide) rfl (fun ls hl => ?_)
                  refine lv_goto (tgt := 31) hx hb dX6_kinds_202 (by decide) ?_
                  exact ih_31 (i_31 + 1) (km31 + (0 : Int32)) (((10 : Int32) * ((nI i_31) / (4 : Int32))) + (jr (nI i_31) (4 : Int32))) ls _ _ (by omega) hT_31 (lv_sub hl [0, 3, 4] rfl) hP hS
                · rw [if_neg c_187] at hT_31
                  refine lv_iconst (v := (1 : Int32)) hx hb dX6_kinds_190 (by decide) ?_
                  refine lv_goto (tgt := 195) hx hb dX6_kinds_191 (by decide) ?_
                  refine lv_iadd hx hb dX6_kinds_195 ?_
                  refine va_put (D := D) (ci := 5) (v := .int (km31 + (1 : Int32))) (ty := .int) (C := RX6) (T := TX6) (N := 30) hx hb hts tbX6 tyX6 tyX6_ok nmX6 hown hK hP hD hS 0 MW_0 rfl 24 (by decide) (hts _ tm_3_25) (fun _ h9 => h9) rfl (by decide +kernel) rfl rfl (Nat.le_of_ble_eq_true rfl) dX6_kinds_196 (fun H locs hP _ hS => ?_)
                  have hP : va_P D vwCl (MW cI cZ q (0 : Int32) textSize place stock parts readStock readCells readParts acts (nI tr) soonMany soonWhich (km31 + (1 : Int32)) (((10 : Int32) * ((nI i_31) / (4 : Int32))) + (jr (nI i_31) (4 : Int32))) restMany restFirst text lies kind readPart page trial book kept isKept triedAbout triedIs gains value seed) H := hP
                  have hD : va_D A (MW cI cZ q (0 : Int32) textSize place stock parts readStock readCells readParts acts (nI tr) soonMany soonWhich (km31 + (1 : Int32)) (((10 : Int32) * ((nI i_31) / (4 : Int32))) + (jr (nI i_31) (4 : Int32))) restMany restFirst text lies kind readPart page trial book kept isKept triedAbout triedIs gains value seed) := hD.same (MW_ad.trans MW_ad.symm)
                  refine lv_iinc (v := (nI (i_31 + 1))) (lv' := [(2, .int (nI (i_31 + 1))), (4, .int (nI i_42)), (3, .int is42), (0, .ref (q 0)), (1, .int a1)]) hx hb dX6_kinds_199 hl (k := 2) rfl (nI_up i_31) (by decide) rfl (fun ls hl => ?_)
                  refine lv_goto (tgt := 31) hx hb dX6_kinds_202 (by decide) ?_
                  exact ih_31 (i_31 + 1) (km31 + (1 : Int32)) (((10 : Int32) * ((nI i_31) / (4 : Int32))) + (jr (nI i_31) (4 : Int32))) ls _ _ (by omega) hT_31 (lv_sub hl [0, 3, 4] rfl) hP hS
          | succ d_42 ih_42 =>
            intro i_42 is42 ls H locs hi_42 hT_42 hl hP hS
            have hD : va_D A (MW cI cZ q (0 : Int32) textSize place stock parts readStock readCells readParts acts (nI tr) soonMany soonWhich km31 kf31 restMany restFirst text lies kind readPart page trial book kept isKept triedAbout triedIs gains value seed) := hD.same (MW_ad.trans MW_ad.symm)
            rw [f_X6_kinds_l42_s] at hT_42
            refine lv_iload hx hb dX6_kinds_42 (lv_at hl 0 rfl) ?_
            refine lv_aload_n hx hb dX6_kinds_44 rfl (lv_at hl 3 rfl) ?_
            refine va_get (D := D) (ci := 5) (v := .int (nI tr)) (C := RX6) (T := TX6) (N := 30) hx hb hts tbX6 hown hK hP 0 MW_0 rfl 18 (by decide) (hts _ tm_3_19) (fun _ h9 => h9) rfl dX6_kinds_45 ?_
            refine lv_icmp_ge (tgt := 149) hx hb dX6_kinds_48 (by decide) (fun c_48 => absurd c_48 (nI_ge  (by omega) (by omega))) (fun c_48 => ?_)
            refine lv_aload_n hx hb dX6_kinds_51 rfl (lv_at hl 3 rfl) ?_
            refine va_get (D := D) (ci := 5) (v := .ref (q 10)) (C := RX6) (T := TX6) (N := 30) hx hb hts tbX6 hown hK hP 0 MW_0 rfl 19 (by decide) (hts _ tm_3_20) (fun _ h9 => h9) rfl dX6_kinds_52 ?_
            refine lv_iload hx hb dX6_kinds_55 (lv_at hl 0 rfl) ?_
            refine va_iald hx hb hK hP 10 0 MW_10 rfl (vp_in_nI (show i_42 < 6 by omega) (by omega)) dX6_kinds_57 ?_
            refine lv_rw (z := (triedAbout i_42)) (congrArg triedAbout (nI_clamp (show i_42 < 2 ^ 31 by omega))) ?_
            refine lv_istore (lv' := [(5, .int (triedAbout i_42)), (4, .int (nI i_42)), (3, .int is42), (2, .int (nI i_31)), (0, .ref (q 0)), (1, .int a1)]) hx hb dX6_kinds_58 hl (by decide) rfl (fun ls hl => ?_)
            refine lv_iload_n hx hb dX6_kinds_60 rfl (lv_at hl 3 rfl) ?_
            refine lv_iconst (v := (4 : Int32)) hx hb dX6_kinds_61 (by decide) ?_
            refine lv_irem hx hb dX6_kinds_62 (by decide) ?_
            refine lv_rw (z := (jr (nI i_31) (4 : Int32))) rfl ?_
            refine lv_if_eq (tgt := 105) hx hb dX6_kinds_63 (by decide) (fun c_63 => ?_) (fun c_63 => ?_)
            · rw [if_pos c_63] at hT_42
              refine lv_iconst (v := (1 : Int32)) hx hb dX6_kinds_105 (by decide) ?_
              refine lv_goto (tgt := 110) hx hb dX6_kinds_106 (by decide) ?_
              refine lv_istore (lv' := [(6, .int (1 : Int32)), (5, .int (triedAbout i_42)), (4, .int (nI i_42)), (3, .int is42), (2, .int (nI i_31)), (0, .ref (q 0)), (1, .int a1)]) hx hb dX6_kinds_110 hl (by decide) rfl (fun ls hl => ?_)
              refine lv_iload_n hx hb dX6_kinds_112 rfl (lv_at hl 3 rfl) ?_
              refine lv_if_eq (tgt := 141) hx hb dX6_kinds_113 (by decide) (fun c_113 => ?_) (fun c_113 => ?_)
              · rw [if_pos c_113] at hT_42
                refine lv_iconst (v := (0 : Int32)) hx hb dX6_kinds_141 (by decide) ?_
                refine lv_istore_n (lv' := [(3, .int (0 : Int32)), (6, .int (1 : Int32)), (5, .int (triedAbout i_42)), (4, .int (nI i_42)), (2, .int (nI i_31)), (0, .ref (q 0)), (1, .int a1)]) hx hb dX6_kinds_142 rfl hl (by decide) rfl (fun ls hl => ?_)
                refine lv_iinc (v := (nI (i_42 + 1))) (lv' := [(4, .int (nI (i_42 + 1))), (3, .int (0 : Int32)), (6, .int (1 : Int32)), (5, .int (triedAbout i_42)), (2, .int (nI i_31)), (0, .ref (q 0)), (1, .int a1)]) hx hb dX6_kinds_143 hl (k := 3) rfl (nI_up i_42) (by decide) rfl (fun ls hl => ?_)
                refine lv_goto (tgt := 42) hx hb dX6_kinds_146 (by decide) ?_
                exact ih_42 (i_42 + 1) (0 : Int32) ls _ _ (by omega) hT_42 (lv_sub hl [0, 1, 4, 5, 6] rfl) hP hS
              · rw [if_neg c_113] at hT_42
                refine lv_iload hx hb dX6_kinds_116 (lv_at hl 0 rfl) ?_
                refine lv_aload_n hx hb dX6_kinds_118 rfl (lv_at hl 5 rfl) ?_
                refine va_get (D := D) (ci := 5) (v := .ref (q 11)) (C := RX6) (T := TX6) (N := 30) hx hb hts tbX6 hown hK hP 0 MW_0 rfl 20 (by decide) (hts _ tm_3_21) (fun _ h9 => h9) rfl dX6_kinds_119 ?_
                refine lv_iload hx hb dX6_kinds_122 (lv_at hl 2 rfl) ?_
                refine va_iald hx hb hK hP 11 0 MW_11 rfl (vp_in_nI (show i_42 < 6 by omega) (by omega)) dX6_kinds_124 ?_
                refine lv_rw (z := (triedIs i_42)) (congrArg triedIs (nI_clamp (show i_42 < 2 ^ 31 by omega))) ?_
                refine lv_iconst (v := (1 : Int32)) hx hb dX6_kinds_125 (by decide) ?_
                refine lv_icmp_ne (tgt := 133) hx hb dX6_kinds_126 (by decide) (fun c_126 => ?_) (fun c_126 => ?_)
                · rw [if_neg c_126] at hT_42
                  refine lv_iconst (v := (0 : Int32)) hx hb dX6_kinds_133 (by decide) ?_
                  refine lv_icmp_ne (tgt := 141) hx hb dX6_kinds_134 (by decide) (fun c_134 => ?_) (fun c_134 => absurd c_134 (by decide))
                  refine lv_iconst (v := (0 : Int32)) hx hb dX6_kinds_141 (by decide) ?_
                  refine lv_istore_n (lv' := [(3, .int (0 : Int32)), (6, .int (1 : Int32)), (5, .int (triedAbout i_42)), (4, .int (nI i_42)), (2, .int (nI i_31)), (0, .ref (q 0)), (1, .int a1)]) hx hb dX6_kinds_142 rfl hl (by decide) rfl (fun ls hl => ?_)
                  refine lv_iinc (v := (nI (i_42 + 1))) (lv' := [(4, .int (nI (i_42 + 1))), (3, .int (0 : Int32)), (6, .int (1 : Int32)), (5, .int (triedAbout i_42)), (2, .int (nI i_31)), (0, .ref (q 0)), (1, .int a1)]) hx hb dX6_kinds_143 hl (k := 3) rfl (nI_up i_42) (by decide) rfl (fun ls hl => ?_)
                  refine lv_goto (tgt := 42) hx hb dX6_kinds_146 (by decide) ?_
                  exact ih_42 (i_42 + 1) (0 : Int32) ls _ _ (by omega) hT_42 (lv_sub hl [0, 1, 4, 5, 6] rfl) hP hS
                · rw [if_pos c_126] at hT_42
                  refine lv_iconst (v := (1 : Int32)) hx hb dX6_kinds_129 (by decide) ?_
                  refine lv_goto (tgt := 134) hx hb dX6_kinds_130 (by decide) ?_
                  refine lv_icmp_ne (tgt := 141) hx hb dX6_kinds_134 (by decide) (fun c_134 => absurd c_134 (by decide)) (fun c_134 => ?_)
                  refine lv_iconst (v := (1 : Int32)) hx hb dX6_kinds_137 (by decide) ?_
                  refine lv_goto (tgt := 142) hx hb dX6_kinds_138 (by decide) ?_
                  refine lv_istore_n (lv' := [(3, .int (1 : Int32)), (6, .int (1 : Int32)), (5, .int (triedAbout i_42)), (4, .int (nI i_42)), (2, .int (nI i_31)), (0, .ref (q 0)), (1, .int a1)]) hx hb dX6_kinds_142 rfl hl (by decide) rfl (fun ls hl => ?_)
                  refine lv_iinc (v := (nI (i_42 + 1))) (lv' := [(4, .int (nI (i_42 + 1))), (3, .int (1 : Int32)), (6, .int (1 : Int32)), (5, .int (triedAbout i_42)), (2, .int (nI i_31)), (0, .ref (q 0)), (1, .int a1)]) hx hb dX6_kinds_143 hl (k := 3) rfl (nI_up i_42) (by decide) rfl (fun ls hl => ?_)
                  refine lv_goto (tgt := 42) hx hb dX6_kinds_146 (by decide) ?_
                  exact ih_42 (i_42 + 1) (1 : Int32) ls _ _ (by omega) hT_42 (lv_sub hl [0, 1, 4, 5, 6] rfl) hP hS
            · rw [if_neg c_63] at hT_42
              refine lv_iload_n hx hb dX6_kinds_66 rfl (lv_at hl 3 rfl) ?_
              refine lv_iconst (v := (4 : Int32)) hx hb dX6_kinds_67 (by decide) ?_
              refine lv_idiv hx hb dX6_kinds_68 (by decide) ?_
              refine lv_iload hx hb dX6_kinds_69 (lv_at hl 0 rfl) ?_
              refine lv_iconst (v := (0 : Int32)) hx hb dX6_kinds_71 (by decide) ?_
              refine sRdI (As := [.int (triedAbout i_42), .int (0 : Int32)]) (rest := [.int ((nI i_31) / (4 : Int32))]) hF (c_X6_has l D cI cZ q (triedAbout i_42) (0 : Int32)) (gdS tm_3_118 tm_3_119 tm_1_6 tm_3_120) de_X6_has ⟨Nat.le_of_ble_eq_true rfl, Nat.le_of_ble_eq_true rfl⟩ va_P_nil hK hl.1 rfl (Nat.le_of_ble_eq_true rfl) dX6_kinds_72 ⟨Nat.zero_le _, Nat.zero_le _⟩ ?_
              refine lv_iload hx hb dX6_kinds_75 (lv_at hl 0 rfl) ?_
              refine lv_iconst (v := (1 : Int32)) hx hb dX6_kinds_77 (by decide) ?_
              refine sRdI (As := [.int (triedAbout i_42), .int (1 : Int32)]) (rest := [.int (f_X6_has (triedAbout i_42) (0 : Int32)), .int ((nI i_31) / (4 : Int32))]) hF (c_X6_has l D cI cZ q (triedAbout i_42) (1 : Int32)) (gdS tm_3_118 tm_3_119 tm_1_6 tm_3_120) de_X6_has ⟨Nat.le_of_ble_eq_true rfl, Nat.le_of_ble_eq_true rfl⟩ va_P_nil hK hl.1 rfl (Nat.le_of_ble_eq_true rfl) dX6_kinds_78 ⟨Nat.zero_le _, Nat.zero_le _⟩ ?_
              refine lv_iload hx hb dX6_kinds_81 (lv_at hl 0 rfl) ?_
              refine lv_iconst (v := (2 : Int32)) hx hb dX6_kinds_83 (by decide) ?_
              refine sRdI (As := [.int (triedAbout i_42), .int (2 : Int32)]) (rest := [.int (f_X6_has (triedAbout i_42) (1 : Int32)), .int (f_X6_has (triedAbout i_42) (0 : Int32)), .int ((nI i_31) / (4 : Int32))]) hF (c_X6_has l D cI cZ q (triedAbout i_42) (2 : Int32)) (gdS tm_3_118 tm_3_119 tm_1_6 tm_3_120) de_X6_has ⟨Nat.le_of_ble_eq_true rfl, Nat.le_of_ble_eq_true rfl⟩ va_P_nil hK hl.1 rfl (Nat.le_of_ble_eq_true rfl) dX6_kinds_84 ⟨Nat.zero_le _, Nat.zero_le _⟩ ?_
              refine lv_iload hx hb dX6_kinds_87 (lv_at hl 0 rfl) ?_
              refine lv_iconst (v := (3 : Int32)) hx hb dX6_kinds_89 (by decide) ?_
              refine sRdI (As := [.int (triedAbout i_42), .int (3 : Int32)]) (rest := [.int (f_X6_has (triedAbout i_42) (2 : Int32)), .int (f_X6_has (triedAbout i_42) (1 : Int32)), .int (f_X6_has (triedAbout i_42) (0 : Int32)), .int ((nI i_31) / (4 : Int32))]) hF (c_X6_has l D cI cZ q (triedAbout i_42) (3 : Int32)) (gdS tm_3_118 tm_3_119 tm_1_6 tm_3_120) de_X6_has ⟨Nat.le_of_ble_eq_true rfl, Nat.le_of_ble_eq_true rfl⟩ va_P_nil hK hl.1 rfl (Nat.le_of_ble_eq_true rfl) dX6_kinds_90 ⟨Nat.zero_le _, Nat.zero_le _⟩ ?_
              refine lv_iload hx hb dX6_kinds_93 (lv_at hl 0 rfl) ?_
              refine lv_iconst (v := (4 : Int32)) hx hb dX6_kinds_95 (by decide) ?_
              refine sRdI (As := [.int (triedAbout i_42), .int (4 : Int32)]) (rest := [.int (f_X6_has (triedAbout i_42) (3 : Int32)), .int (f_X6_has (triedAbout i_42) (2 : Int32)), .int (f_X6_has (triedAbout i_42) (1 : Int32)), .int (f_X6_has (triedAbout i_42) (0 : Int32)), .int ((nI i_31) / (4 : Int32))]) hF (c_X6_has l D cI cZ q (triedAbout i_42) (4 : Int32)) (gdS tm_3_118 tm_3_119 tm_1_6 tm_3_120) de_X6_has ⟨Nat.le_of_ble_eq_true rfl, Nat.le_of_ble_eq_true rfl⟩ va_P_nil hK hl.1 rfl (Nat.le_of_ble_eq_true rfl) dX6_kinds_96 ⟨Nat.zero_le _, Nat.zero_le _⟩ ?_
              refine sRdI (As := [.int ((nI i_31) / (4 : Int32)), .int (f_X6_has (triedAbout i_42) (0 : Int32)), .int (f_X6_has (triedAbout i_42) (1 : Int32)), .int (f_X6_has (triedAbout i_42) (2 : Int32)), .int (f_X6_has (triedAbout i_42) (3 : Int32)), .int (f_X6_has (triedAbout i_42) (4 : Int32))]) (rest := []) hF (c_X6_standsBy l D cI cZ q ((nI i_31) / (4 : Int32)) (f_X6_has (triedAbout i_42) (0 : Int32)) (f_X6_has (triedAbout i_42) (1 : Int32)) (f_X6_has (triedAbout i_42) (2 : Int32)) (f_X6_has (triedAbout i_42) (3 : Int32)) (f_X6_has (triedAbout i_42) (4 : Int32)) (has01 _ _)) (gdS tm_3_168 tm_3_169 tm_1_6 tm_3_170) de_X6_standsBy ⟨Nat.le_of_ble_eq_true rfl, Nat.le_of_ble_eq_true rfl⟩ va_P_nil hK hl.1 rfl (Nat.le_of_ble_eq_true rfl) dX6_kinds_99 ⟨Nat.zero_le _, Nat.zero_le _⟩ ?_
              refine lv_if_eq (tgt := 109) hx hb dX6_kinds_102 (by decide) (fun c_102 => ?_) (fun c_102 => ?_)
              · rw [if_pos c_102] at hT_42
                refine lv_iconst (v := (0 : Int32)) hx hb dX6_kinds_109 (by decide) ?_
                refine lv_istore (lv' := [(6, .int (0 : Int32)), (5, .int (triedAbout i_42)), (4, .int (nI i_42)), (3, .int is42), (2, .int (nI i_31)), (0, .ref (q 0)), (1, .int a1)]) hx hb dX6_kinds_110 hl (by decide) rfl (fun ls hl => ?_)
                refine lv_iload_n hx hb dX6_kinds_112 rfl (lv_at hl 3 rfl) ?_
                refine lv_if_eq (tgt := 141) hx hb dX6_kinds_113 (by decide) (fun c_113 => ?_) (fun c_113 => ?_)
                · rw [if_pos c_113] at hT_42
                  refine lv_iconst (v := (0 : Int32)) hx hb dX6_kinds_141 (by decide) ?_
                  refine lv_istore_n (lv' := [(3, .int (0 : Int32)), (6, .int (0 : Int32)), (5, .int (triedAbout i_42)), (4, .int (nI i_42)), (2, .int (nI i_31)), (0, .ref (q 0)), (1, .int a1)]) hx hb dX6_kinds_142 rfl hl (by decide) rfl (fun ls hl => ?_)
                  refine lv_iinc (v := (nI (i_42 + 1))) (lv' := [(4, .int (nI (i_42 + 1))), (3, .int (0 : Int32)), (6, .int (0 : Int32)), (5, .int (triedAbout i_42)), (2, .int (nI i_31)), (0, .ref (q 0)), (1, .int a1)]) hx hb dX6_kinds_143 hl (k := 3) rfl (nI_up i_42) (by decide) rfl (fun ls hl => ?_)
                  refine lv_goto (tgt := 42) hx hb dX6_kinds_146 (by decide) ?_
                  exact ih_42 (i_42 + 1) (0 : Int32) ls _ _ (by omega) hT_42 (lv_sub hl [0, 1, 4, 5, 6] rfl) hP hS
                · rw [if_neg c_113] at hT_42
                  refine lv_iload hx hb dX6_kinds_116 (lv_at hl 0 rfl) ?_
                  refine lv_aload_n hx hb dX6_kinds_118 rfl (lv_at hl 5 rfl) ?_
                  refine va_get (D := D) (ci := 5) (v := .ref (q 11)) (C := RX6) (T := TX6) (N := 30) hx hb hts tbX6 hown hK hP 0 MW_0 rfl 20 (by decide) (hts _ tm_3_21) (fun _ h9 => h9) rfl dX6_kinds_119 ?_
                  refine lv_iload hx hb dX6_kinds_122 (lv_at hl 2 rfl) ?_
                  refine va_iald hx hb hK hP 11 0 MW_11 rfl (vp_in_nI (show i_42 < 6 by omega) (by omega)) dX6_kinds_124 ?_
                  refine lv_rw (z := (triedIs i_42)) (congrArg triedIs (nI_clamp (show i_42 < 2 ^ 31 by omega))) ?_
                  refine lv_iconst (v := (1 : Int32)) hx hb dX6_kinds_125 (by decide) ?_
                  refine lv_icmp_ne (tgt := 133) hx hb dX6_kinds_126 (by decide) (fun c_126 => ?_) (fun c_126 => ?_)
                  · rw [if_neg c_126] at hT_42
                    refine lv_iconst (v := (0 : Int32)) hx hb dX6_kinds_133 (by decide) ?_
                    refine lv_icmp_ne (tgt := 141) hx hb dX6_kinds_134 (by decide) (fun c_134 => absurd c_134 (by decide)) (fun c_134 => ?_)
                    refine lv_iconst (v := (1 : Int32)) hx hb dX6_kinds_137 (by decide) ?_
                    refine lv_goto (tgt := 142) hx hb dX6_kinds_138 (by decide) ?_
                    refine lv_istore_n (lv' := [(3, .int (1 : Int32)), (6, .int (0 : Int32)), (5, .int (triedAbout i_42)), (4, .int (nI i_42)), (2, .int (nI i_31)), (0, .ref (q 0)), (1, .int a1)]) hx hb dX6_kinds_142 rfl hl (by decide) rfl (fun ls hl => ?_)
                    refine lv_iinc (v := (nI (i_42 + 1))) (lv' := [(4, .int (nI (i_42 + 1))), (3, .int (1 : Int32)), (6, .int (0 : Int32)), (5, .int (triedAbout i_42)), (2, .int (nI i_31)), (0, .ref (q 0)), (1, .int a1)]) hx hb dX6_kinds_143 hl (k := 3) rfl (nI_up i_42) (by decide) rfl (fun ls hl => ?_)
                    refine lv_goto (tgt := 42) hx hb dX6_kinds_146 (by decide) ?_
                    exact ih_42 (i_42 + 1) (1 : Int32) ls _ _ (by omega) hT_42 (lv_sub hl [0, 1, 4, 5, 6] rfl) hP hS
                  · rw [if_pos c_126] at hT_42
                    refine lv_iconst (v := (1 : Int32)) hx hb dX6_kinds_129 (by decide) ?_
                    refine lv_goto (tgt := 134) hx hb dX6_kinds_130 (by decide) ?_
                    refine lv_icmp_ne (tgt := 141) hx hb dX6_kinds_134 (by decide) (fun c_134 => ?_) (fun c_134 => absurd c_134 (by decide))
                    refine lv_iconst (v := (0 : Int32)) hx hb dX6_kinds_141 (by decide) ?_
                    refine lv_istore_n (lv' := [(3, .int (0 : Int32)), (6, .int (0 : Int32)), (5, .int (triedAbout i_42)), (4, .int (nI i_42)), (2, .int (nI i_31)), (0, .ref (q 0)), (1, .int a1)]) hx hb dX6_kinds_142 rfl hl (by decide) rfl (fun ls hl => ?_)
                    refine lv_iinc (v := (nI (i_42 + 1))) (lv' := [(4, .int (nI (i_42 + 1))), (3, .int (0 : Int32)), (6, .int (0 : Int32)), (5, .int (triedAbout i_42)), (2, .int (nI i_31)), (0, .ref (q 0)), (1, .int a1)]) hx hb dX6_kinds_143 hl (k := 3) rfl (nI_up i_42) (by decide) rfl (fun ls hl => ?_)
                    refine lv_goto (tgt := 42) hx hb dX6_kinds_146 (by decide) ?_
                    exact ih_42 (i_42 + 1) (0 : Int32) ls _ _ (by omega) hT_42 (lv_sub hl [0, 1, 4, 5, 6] rfl) hP hS
              · rw [if_neg c_102] at hT_42
                refine lv_iconst (v := (1 : Int32)) hx hb dX6_kinds_105 (by decide) ?_
                refine lv_goto (tgt := 110) hx hb dX6_kinds_106 (by decide) ?_
                refine lv_istore (lv' := [(6, .int (1 : Int32)), (5, .int (triedAbout i_42)), (4, .int (nI i_42)), (3, .int is42), (2, .int (nI i_31)), (0, .ref (q 0)), (1, .int a1)]) hx hb dX6_kinds_110 hl (by decide) rfl (fun ls hl => ?_)
                refine lv_iload_n hx hb dX6_kinds_112 rfl (lv_at hl 3 rfl) ?_
                refine lv_if_eq (tgt := 141) hx hb dX6_kinds_113 (by decide) (fun c_113 => ?_) (fun c_113 => ?_)
                · rw [if_pos c_113] at hT_42
                  refine lv_iconst (v := (0 : Int32)) hx hb dX6_kinds_141 (by decide) ?_
                  refine lv_istore_n (lv' := [(3, .int (0 : Int32)), (6, .int (1 : Int32)), (5, .int (triedAbout i_42)), (4, .int (nI i_42)), (2, .int (nI i_31)), (0, .ref (q 0)), (1, .int a1)]) hx hb dX6_kinds_142 rfl hl (by decide) rfl (fun ls hl => ?_)
                  refine lv_iinc (v := (nI (i_42 + 1))) (lv' := [(4, .int (nI (i_42 + 1))), (3, .int (0 : Int32)), (6, .int (1 : Int32)), (5, .int (triedAbout i_42)), (2, .int (nI i_31)), (0, .ref (q 0)), (1, .int a1)]) hx hb dX6_kinds_143 hl (k := 3) rfl (nI_up i_42) (by decide) rfl (fun ls hl => ?_)
                  refine lv_goto (tgt := 42) hx hb dX6_kinds_146 (by decide) ?_
                  exact ih_42 (i_42 + 1) (0 : Int32) ls _ _ (by omega) hT_42 (lv_sub hl [0, 1, 4, 5, 6] rfl) hP hS
                · rw [if_neg c_113] at hT_42
                  refine lv_iload hx hb dX6_kinds_116 (lv_at hl 0 rfl) ?_
                  refine lv_aload_n hx hb dX6_kinds_118 rfl (lv_at hl 5 rfl) ?_
                  refine va_get (D := D) (ci := 5) (v := .ref (q 11)) (C := RX6) (T := TX6) (N := 30) hx hb hts tbX6 hown hK hP 0 MW_0 rfl 20 (by decide) (hts _ tm_3_21) (fun _ h9 => h9) rfl dX6_kinds_119 ?_
                  refine lv_iload hx hb dX6_kinds_122 (lv_at hl 2 rfl) ?_
                  refine va_iald hx hb hK hP 11 0 MW_11 rfl (vp_in_nI (show i_42 < 6 by omega) (by omega)) dX6_kinds_124 ?_
                  refine lv_rw (z := (triedIs i_42)) (congrArg triedIs (nI_clamp (show i_42 < 2 ^ 31 by omega))) ?_
                  refine lv_iconst (v := (1 : Int32)) hx hb dX6_kinds_125 (by decide) ?_
                  refine lv_icmp_ne (tgt := 133) hx hb dX6_kinds_126 (by decide) (fun c_126 => ?_) (fun c_126 => ?_)
                  · rw [if_neg c_126] at hT_42
                    refine lv_iconst (v := (0 : Int32)) hx hb dX6_kinds_133 (by decide) ?_
                    refine lv_icmp_ne (tgt := 141) hx hb dX6_kinds_134 (by decide) (fun c_134 => ?_) (fun c_134 => absurd c_134 (by decide))
                    refine lv_iconst (v := (0 : Int32)) hx hb dX6_kinds_141 (by decide) ?_
                    refine lv_istore_n (lv' := [(3, .int (0 : Int32)), (6, .int (1 : Int32)), (5, .int (triedAbout i_42)), (4, .int (nI i_42)), (2, .int (nI i_31)), (0, .ref (q 0)), (1, .int a1)]) hx hb dX6_kinds_142 rfl hl (by decide) rfl (fun ls hl => ?_)
                    refine lv_iinc (v := (nI (i_42 + 1))) (lv' := [(4, .int (nI (i_42 + 1))), (3, .int (0 : Int32)), (6, .int (1 : Int32)), (5, .int (triedAbout i_42)), (2, .int (nI i_31)), (0, .ref (q 0)), (1, .int a1)]) hx hb dX6_kinds_143 hl (k := 3) rfl (nI_up i_42) (by decide) rfl (fun ls hl => ?_)
                    refine lv_goto (tgt := 42) hx hb dX6_kinds_146 (by decide) ?_
                    exact ih_42 (i_42 + 1) (0 : Int32) ls _ _ (by omega) hT_42 (lv_sub hl [0, 1, 4, 5, 6] rfl) hP hS
                  · rw [if_pos c_126] at hT_42
                    refine lv_iconst (v := (1 : Int32)) hx hb dX6_kinds_129 (by decide) ?_
                    refine lv_goto (tgt := 134) hx hb dX6_kinds_130 (by decide) ?_
                    refine lv_icmp_ne (tgt := 141) hx hb dX6_kinds_134 (by decide) (fun c_134 => absurd c_134 (by decide)) (fun c_134 => ?_)
                    refine lv_iconst (v := (1 : Int32)) hx hb dX6_kinds_137 (by decide) ?_
                    refine lv_goto (tgt := 142) hx hb dX6_kinds_138 (by decide) ?_
                    refine lv_istore_n (lv' := [(3, .int (1 : Int32)), (6, .int (1 : Int32)), (5, .int (triedAbout i_42)), (4, .int (nI i_42)), (2, .int (nI i_31)), (0, .ref (q 0)), (1, .int a1)]) hx hb dX6_kinds_142 rfl hl (by decide) rfl (fun ls hl => ?_)
                    refine lv_iinc (v := (nI (i_42 + 1))) (lv' := [(4, .int (nI (i_42 + 1))), (3, .int (1 : Int32)), (6, .int (1 : Int32)), (5, .int (triedAbout i_42)), (2, .int (nI i_31)), (0, .ref (q 0)), (1, .int a1)]) hx hb dX6_kinds_143 hl (k := 3) rfl (nI_up i_42) (by decide) rfl (fun ls hl => ?_)
                    refine lv_goto (tgt := 42) hx hb dX6_kinds_146 (by decide) ?_
                    exact ih_42 (i_42 + 1) (1 : Int32) ls _ _ (by omega) hT_42 (lv_sub hl [0, 1, 4, 5, 6] rfl) hP hS
        exact key_42 tr 0 (1 : Int32) ls _ _ (by omega) hT_42 (lv_sub hl [0, 1, 2, 3, 4] rfl) hP hS
    exact key_31 16 0 (0 : Int32) (-9 : Int32) ls _ _ (by omega) hT_31 (lv_sub hl [0, 1, 2] rfl) hP hS
  · rw [if_pos c_12] at hR
    refine lv_bipush (v := (-2 : Int32)) hx hb dX6_kinds_15 (by decide) ?_
    subst hR
    exact fin _ _ _ _ dX6_kinds_17 (nar_i _) hP hS
def f_X6_wipe (textSize : Int32) : (Int32) × (Int32) × (Int32) := (textSize, (0 : Int32), (0 : Int32))
set_option maxHeartbeats 4000000 in
set_option maxRecDepth 100000 in
theorem c_X6_wipe (l : Launch) (D : va_G) (cI cZ : ClassId) (q : Nat → Nat) (thrown textSize place stock parts readStock readCells readParts acts tried soonMany soonWhich kindMany kindFirst restMany restFirst : Int32) (text lies kind readPart page trial book kept isKept triedAbout triedIs gains value : Nat → Int32) (seed : Int64) : WrI l yX6_wipe cX6_wipe 2 .int 0 0 D (tyL cI cZ) (MW cI cZ q thrown textSize place stock parts readStock readCells readParts acts tried soonMany soonWhich kindMany kindFirst restMany restFirst text lies kind readPart page trial book kept isKept triedAbout triedIs gains value seed) [.ref (q 0)] (f_X6_wipe textSize).1 (MW cI cZ q (f_X6_wipe textSize).2.1 (f_X6_wipe textSize).2.2 place stock parts readStock readCells readParts acts tried soonMany soonWhich kindMany kindFirst restMany restFirst text lies kind readPart page trial book kept isKept triedAbout triedIs gains value seed) := by
  refine WrI.of (by decide) (Nat.le_of_ble_eq_true rfl) ?_
  intro p e s m args below meth c Q A hx hb hml hown hts hP hK hD hS fin ls hl
  have hown : s.vm.findClass RX6 = some m.cls := hown
  have hF : CallFix p m c cX6_wipe 2 s args tb RX6 := ⟨hx, hb, hml, hown, hts⟩
  have hl : lv_has ls 2 [(0, .ref (q 0))] := hl
  generalize hR : (f_X6_wipe textSize) = R at fin
  unfold f_X6_wipe at hR
  refine lv_aload_n hx hb dX6_wipe_0 rfl (lv_at hl 0 rfl) ?_
  refine lv_iconst (v := (0 : Int32)) hx hb dX6_wipe_1 (by decide) ?_
  refine va_put (D := D) (ci := 5) (v := .int (0 : Int32)) (ty := .int) (C := RX6) (T := TX6) (N := 30) hx hb hts tbX6 tyX6 tyX6_ok nmX6 hown hK hP hD hS 0 MW_0 rfl 0 (by decide) (hts _ tm_3_1) (fun _ h9 => h9) rfl (by decide +kernel) rfl rfl (Nat.le_of_ble_eq_true rfl) dX6_wipe_2 (fun H locs hP _ hS => ?_)
  have hP : va_P D vwCl (MW cI cZ q (0 : Int32) textSize place stock parts readStock readCells readParts acts tried soonMany soonWhich kindMany kindFirst restMany restFirst text lies kind readPart page trial book kept isKept triedAbout triedIs gains value seed) H := hP
  have hD : va_D A (MW cI cZ q (0 : Int32) textSize place stock parts readStock readCells readParts acts tried soonMany soonWhich kindMany kindFirst restMany restFirst text lies kind readPart page trial book kept isKept triedAbout triedIs gains value seed) := hD.same (MW_ad.trans MW_ad.symm)
  refine lv_aload_n hx hb dX6_wipe_5 rfl (lv_at hl 0 rfl) ?_
  refine va_get (D := D) (ci := 5) (v := .int textSize) (C := RX6) (T := TX6) (N := 30) hx hb hts tbX6 hown hK hP 0 MW_0 rfl 2 (by decide) (hts _ tm_3_3) (fun _ h9 => h9) rfl dX6_wipe_6 ?_
  refine lv_istore_n (lv' := [(1, .int textSize), (0, .ref (q 0))]) hx hb dX6_wipe_9 rfl hl (by decide) rfl (fun ls hl => ?_)
  refine lv_aload_n hx hb dX6_wipe_10 rfl (lv_at hl 1 rfl) ?_
  refine lv_iconst (v := (0 : Int32)) hx hb dX6_wipe_11 (by decide) ?_
  refine va_put (D := D) (ci := 5) (v := .int (0 : Int32)) (ty := .int) (C := RX6) (T := TX6) (N := 30) hx hb hts tbX6 tyX6 tyX6_ok nmX6 hown hK hP hD hS 0 MW_0 rfl 2 (by decide) (hts _ tm_3_3) (fun _ h9 => h9) rfl (by decide +kernel) rfl rfl (Nat.le_of_ble_eq_true rfl) dX6_wipe_12 (fun H locs hP _ hS => ?_)
  have hP : va_P D vwCl (MW cI cZ q (0 : Int32) (0 : Int32) place stock parts readStock readCells readParts acts tried soonMany soonWhich kindMany kindFirst restMany restFirst text lies kind readPart page trial book kept isKept triedAbout triedIs gains value seed) H := hP
  have hD : va_D A (MW cI cZ q (0 : Int32) (0 : Int32) place stock parts readStock readCells readParts acts tried soonMany soonWhich kindMany kindFirst restMany restFirst text lies kind readPart page trial book kept isKept triedAbout triedIs gains value seed) := hD.same (MW_ad.trans MW_ad.symm)
  refine lv_iload_n hx hb dX6_wipe_15 rfl (lv_at hl 0 rfl) ?_
  subst hR
  exact fin _ _ _ _ dX6_wipe_16 (nar_i _) hP hS
def f_X6_seed (seed : Int64) (a1 : Int64) : (Int64) × (Int32) × (Int64) := (seed, (0 : Int32), a1)
set_option maxHeartbeats 4000000 in
set_option maxRecDepth 100000 in
theorem c_X6_seed (l : Launch) (D : va_G) (cI cZ : ClassId) (q : Nat → Nat) (thrown textSize place stock parts readStock readCells readParts acts tried soonMany soonWhich kindMany kindFirst restMany restFirst : Int32) (text lies kind readPart page trial book kept isKept triedAbout triedIs gains value : Nat → Int32) (seed : Int64) (a1 : Int64) : WrL l yX6_seed cX6_seed 5 0 0 D (tyL cI cZ) (MW cI cZ q thrown textSize place stock parts readStock readCells readParts acts tried soonMany soonWhich kindMany kindFirst restMany restFirst text lies kind readPart page trial book kept isKept triedAbout triedIs gains value seed) [.ref (q 0), .long a1] (f_X6_seed seed a1).1 (MW cI cZ q (f_X6_seed seed a1).2.1 textSize place stock parts readStock readCells readParts acts tried soonMany soonWhich kindMany kindFirst restMany restFirst text lies kind readPart page trial book kept isKept triedAbout triedIs gains value (f_X6_seed seed a1).2.2) := by
  refine WrL.of (by decide) (Nat.le_of_ble_eq_true rfl) ?_
  intro p e s m args below meth c Q A hx hb hml hown hts hP hK hD hS fin ls hl
  have hown : s.vm.findClass RX6 = some m.cls := hown
  have hF : CallFix p m c cX6_seed 5 s args tb RX6 := ⟨hx, hb, hml, hown, hts⟩
  have hl : lv_has ls 5 [(0, .ref (q 0)), (1, .long a1)] := hl
  generalize hR : (f_X6_seed seed a1) = R at fin
  unfold f_X6_seed at hR
  refine lv_aload_n hx hb dX6_seed_0 rfl (lv_at hl 0 rfl) ?_
  refine lv_iconst (v := (0 : Int32)) hx hb dX6_seed_1 (by decide) ?_
  refine va_put (D := D) (ci := 5) (v := .int (0 : Int32)) (ty := .int) (C := RX6) (T := TX6) (N := 30) hx hb hts tbX6 tyX6 tyX6_ok nmX6 hown hK hP hD hS 0 MW_0 rfl 0 (by decide) (hts _ tm_3_1) (fun _ h9 => h9) rfl (by decide +kernel) rfl rfl (Nat.le_of_ble_eq_true rfl) dX6_seed_2 (fun H locs hP _ hS => ?_)
  have hP : va_P D vwCl (MW cI cZ q (0 : Int32) textSize place stock parts readStock readCells readParts acts tried soonMany soonWhich kindMany kindFirst restMany restFirst text lies kind readPart page trial book kept isKept triedAbout triedIs gains value seed) H := hP
  have hD : va_D A (MW cI cZ q (0 : Int32) textSize place stock parts readStock readCells readParts acts tried soonMany soonWhich kindMany kindFirst restMany restFirst text lies kind readPart page trial book kept isKept triedAbout triedIs gains value seed) := hD.same (MW_ad.trans MW_ad.symm)
  refine lv_aload_n hx hb dX6_seed_5 rfl (lv_at hl 0 rfl) ?_
  refine va_get (D := D) (ci := 5) (v := .long seed) (C := RX6) (T := TX6) (N := 30) hx hb hts tbX6 hown hK hP 0 MW_0 rfl 21 (by decide) (hts _ tm_3_22) (fun _ h9 => h9) rfl dX6_seed_6 ?_
  refine lv_lstore_n (lv' := [(3, .long seed), (0, .ref (q 0)), (1, .long a1)]) hx hb dX6_seed_9 rfl hl (by decide) rfl (fun ls hl => ?_)
  refine lv_aload_n hx hb dX6_seed_10 rfl (lv_at hl 1 rfl) ?_
  refine lv_lload_n hx hb dX6_seed_11 rfl (lv_at hl 2 rfl) ?_
  refine va_put (D := D) (ci := 5) (v := .long a1) (ty := .long) (C := RX6) (T := TX6) (N := 30) hx hb hts tbX6 tyX6 tyX6_ok nmX6 hown hK hP hD hS 0 MW_0 rfl 21 (by decide) (hts _ tm_3_22) (fun _ h9 => h9) rfl (by decide +kernel) rfl rfl (Nat.le_of_ble_eq_true rfl) dX6_seed_12 (fun H locs hP _ hS => ?_)
  have hP : va_P D vwCl (MW cI cZ q (0 : Int32) textSize place stock parts readStock readCells readParts acts tried soonMany soonWhich kindMany kindFirst restMany restFirst text lies kind readPart page trial book kept isKept triedAbout triedIs gains value a1) H := hP
  have hD : va_D A (MW cI cZ q (0 : Int32) textSize place stock parts readStock readCells readParts acts tried soonMany soonWhich kindMany kindFirst restMany restFirst text lies kind readPart page trial book kept isKept triedAbout triedIs gains value a1) := hD.same (MW_ad.trans MW_ad.symm)
  refine lv_lload_n hx hb dX6_seed_15 rfl (lv_at hl 0 rfl) ?_
  subst hR
  exact fin _ _ _ _ dX6_seed_16 hP hS
