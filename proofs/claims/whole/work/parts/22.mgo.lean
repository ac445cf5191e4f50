theorem de_X6_begin : deOK yX6_begin 0 := by decide +kernel
theorem de_X6_settle : deOK yX6_settle 1 := by decide +kernel
theorem de_X6_goPut : deOK yX6_goPut 2 := by decide +kernel
theorem de_X6_goStrike : deOK yX6_goStrike 2 := by decide +kernel
theorem de_X6_goRain : deOK yX6_goRain 1 := by decide +kernel
theorem note14 {na : Nat} (h : na ≤ 14) (c : nI na = 14) : na = 14 := (nI_eq (b := 14) (by omega) (by omega)).mp c
theorem note13 {na : Nat} (h : na ≤ 14) (c : ¬ nI na = 14) : na ≤ 13 := by
  rcases Nat.lt_or_ge na 14 with h2 | h2
  · omega
  · exact absurd (by rw [show na = 14 by omega]; rfl) c
theorem nI_ne_of {a b : Nat} (c : ¬ nI a = nI b) : a ≠ b := fun h => c (by rw [h])
theorem nI_lt_of {a b : Nat} (ha : a < 2 ^ 31) (c : ¬ nI b ≤ nI a) : a < b := by
  rcases Nat.lt_or_ge a b with h | h
  · exact h
  · exact absurd (nI_le h (by omega)) c
theorem nI_or (a b : Nat) : nI a ||| nI b = nI (a ||| b) := by
  apply Int32.toBitVec_inj.mp
  apply BitVec.eq_of_toNat_eq
  simp [nI, Int32.toBitVec_or]
theorem or_lt7 {i p n : Nat} (h1 : i < 2 ^ n) (h2 : p < n) (h3 : n ≤ 7) : i ||| 2 ^ p < 128 := by
  have a : i < 2 ^ 7 := Nat.lt_of_lt_of_le h1 (Nat.pow_le_pow_right (by omega) h3)
  have b : 2 ^ p < 2 ^ 7 := Nat.pow_lt_pow_right (by omega) (by omega)
  exact Nat.or_lt_two_pow a b
def f_X6_begin_l2 (page : Nat → Int32) : Nat → Nat → (Nat → Int32) → Nat → Int32
  | 0, i_2, tr2 => tr2
  | d_2 + 1, i_2, tr2 => (f_X6_begin_l2 page d_2 (i_2 + 1) (upd tr2 i_2 (page i_2)))
theorem f_X6_begin_l2_z {page : Nat → Int32} {i_2 : Nat} {tr2 : Nat → Int32} : f_X6_begin_l2 page 0 i_2 tr2 = tr2 := by rw [f_X6_begin_l2]
theorem f_X6_begin_l2_s {page : Nat → Int32} {d_2 : Nat} {i_2 : Nat} {tr2 : Nat → Int32} : f_X6_begin_l2 page (d_2 + 1) i_2 tr2 = (f_X6_begin_l2 page d_2 (i_2 + 1) (upd tr2 i_2 (page i_2))) := by rw [f_X6_begin_l2]
def f_X6_begin (page : Nat → Int32) (trial : Nat → Int32) : Nat → Int32 := (f_X6_begin_l2 page 7 0 trial)
set_option maxHeartbeats 4000000 in
set_option maxRecDepth 100000 in
theorem c_X6_begin (l : Launch) (D : va_G) (cI cZ : ClassId) (q : Nat → Nat) (thrown textSize place stock parts readStock readCells readParts acts tried soonMany soonWhich kindMany kindFirst restMany restFirst : Int32) (text lies kind readPart page trial book kept isKept triedAbout triedIs gains value : Nat → Int32) (seed : Int64) : WrV l yX6_begin cX6_begin 2 0 0 D (tyL cI cZ) (MW cI cZ q thrown textSize place stock parts readStock readCells readParts acts tried soonMany soonWhich kindMany kindFirst restMany restFirst text lies kind readPart page trial book kept isKept triedAbout triedIs gains value seed) [.ref (q 0)] (MW cI cZ q thrown textSize place stock parts readStock readCells readParts acts tried soonMany soonWhich kindMany kindFirst restMany restFirst text lies kind readPart page (f_X6_begin page trial) book kept isKept triedAbout triedIs gains value seed) := by
  refine WrV.of (by decide) (Nat.le_of_ble_eq_true rfl) ?_
  intro p e s m args below meth c Q A hx hb hml hown hts hP hK hD hS fin ls hl
  have hown : s.vm.findClass RX6 = some m.cls := hown
  have hF : CallFix p m c cX6_begin 2 s args tb RX6 := ⟨hx, hb, hml, hown, hts⟩
  have hl : lv_has ls 2 [(0, .ref (q 0))] := hl
  generalize hR : (f_X6_begin page trial) = R at fin
  unfold f_X6_begin at hR
  refine lv_iconst (v := (0 : Int32)) hx hb dX6_begin_0 (by decide) ?_
  refine lv_istore_n (lv' := [(1, .int (0 : Int32)), (0, .ref (q 0))]) hx hb dX6_begin_1 rfl hl (by decide) rfl (fun ls hl => ?_)
  obtain ⟨T_2, hT_2⟩ : ∃ z, f_X6_begin_l2 page 7 0 trial = z := ⟨_, rfl⟩
  rw [hT_2] at hR
  have key_2 : ∀ (d_2 i_2 : Nat) (tr2 : Nat → Int32) (ls : Array Slot) (H : Heap) (locs : List Loc), i_2 + d_2 = 7 → f_X6_begin_l2 page d_2 i_2 tr2 = T_2 → lv_has ls 2 [(1, .int (nI i_2)), (0, .ref (q 0))] → va_P D vwCl (MW cI cZ q thrown textSize place stock parts readStock readCells readParts acts tried soonMany soonWhich kindMany kindFirst restMany restFirst text lies kind readPart page tr2 book kept isKept triedAbout triedIs gains value seed) H → va_S A s.heap H locs → W p l e (rmO 0 0) s m args below meth c H locs 0 0 Q (F0 m 2 ls []) := by
    intro d_2
    induction d_2 with
    | zero =>
      intro i_2 tr2 ls H locs hi_2 hT_2 hl hP hS
      have hD : va_D A (MW cI cZ q thrown textSize place stock parts readStock readCells readParts acts tried soonMany soonWhich kindMany kindFirst restMany restFirst text lies kind readPart page tr2 book kept isKept triedAbout triedIs gains value seed) := hD.same (MW_ad.trans MW_ad.symm)
      rw [f_X6_begin_l2_z] at hT_2
      refine lv_iload_n hx hb dX6_begin_2 rfl (lv_at hl 0 rfl) ?_
      refine lv_bipush (v := (7 : Int32)) hx hb dX6_begin_3 (by decide) ?_
      refine lv_icmp_ge (tgt := 26) hx hb dX6_begin_5 (by decide) (fun c_5 => ?_) (fun c_5 => absurd (nI_le (a := 7) (by omega) (by omega)) c_5)
      subst hT_2
      try dsimp only at hR
      subst hR
      exact fin _ _ _ _ dX6_begin_26 hP hS
    | succ d_2 ih_2 =>
      intro i_2 tr2 ls H locs hi_2 hT_2 hl hP hS
      have hD : va_D A (MW cI cZ q thrown textSize place stock parts readStock readCells readParts acts tried soonMany soonWhich kindMany kindFirst restMany restFirst text lies kind readPart page tr2 book kept isKept triedAbout triedIs gains value seed) := hD.same (MW_ad.trans MW_ad.symm)
      rw [f_X6_begin_l2_s] at hT_2
      refine lv_iload_n hx hb dX6_begin_2 rfl (lv_at hl 0 rfl) ?_
      refine lv_bipush (v := (7 : Int32)) hx hb dX6_begin_3 (by decide) ?_
      refine lv_icmp_ge (tgt := 26) hx hb dX6_begin_5 (by decide) (fun c_5 => absurd c_5 (nI_ge (b := 7) (by omega) (by omega))) (fun c_5 => ?_)
      refine lv_aload_n hx hb dX6_begin_8 rfl (lv_at hl 1 rfl) ?_
      refine va_get (D := D) (ci := 5) (v := .ref (q 6)) (C := RX6) (T := TX6) (N := 30) hx hb hts tbX6 hown hK hP 0 MW_0 rfl 13 (by decide) (hts _ tm_3_14) (fun _ h9 => h9) rfl dX6_begin_9 ?_
      refine lv_iload_n hx hb dX6_begin_12 rfl (lv_at hl 0 rfl) ?_
      refine lv_aload_n hx hb dX6_begin_13 rfl (lv_at hl 1 rfl) ?_
      refine va_get (D := D) (ci := 5) (v := .ref (q 5)) (C := RX6) (T := TX6) (N := 30) hx hb hts tbX6 hown hK hP 0 MW_0 rfl 12 (by decide) (hts _ tm_3_13) (fun _ h9 => h9) rfl dX6_begin_14 ?_
      refine lv_iload_n hx hb dX6_begin_17 rfl (lv_at hl 0 rfl) ?_
      refine va_iald hx hb hK hP 5 0 MW_5 rfl (vp_in_nI (show i_2 < 7 by omega) (by omega)) dX6_begin_18 ?_
      refine lv_rw (z := (page i_2)) (congrArg page (nI_clamp (show i_2 < 2 ^ 31 by omega))) ?_
      refine va_iast hx hb hK hP hD hS 6 0 MW_6 rfl (vp_in_nI (show i_2 < 7 by omega) (by omega)) dX6_begin_19 (fun H locs hP _ hS => ?_)
      have hP : va_P D vwCl (MW cI cZ q thrown textSize place stock parts readStock readCells readParts acts tried soonMany soonWhich kindMany kindFirst restMany restFirst text lies kind readPart page (upd tr2 (nI i_2).toNatClampNeg (page i_2)) book kept isKept triedAbout triedIs gains value seed) H := hP
      rw [(nI_clamp (show i_2 < 2 ^ 31 by omega))] at hP
      have hD : va_D A (MW cI cZ q thrown textSize place stock parts readStock readCells readParts acts tried soonMany soonWhich kindMany kindFirst restMany restFirst text lies kind readPart page (upd tr2 i_2 (page i_2)) book kept isKept triedAbout triedIs gains value seed) := hD.same (MW_ad.trans MW_ad.symm)
      refine lv_iinc (v := (nI (i_2 + 1))) (lv' := [(1, .int (nI (i_2 + 1))), (0, .ref (q 0))]) hx hb dX6_begin_20 hl (k := 0) rfl (nI_up i_2) (by decide) rfl (fun ls hl => ?_)
      refine lv_goto (tgt := 2) hx hb dX6_begin_23 (by decide) ?_
      exact ih_2 (i_2 + 1) (upd tr2 i_2 (page i_2)) ls _ _ (by omega) hT_2 (lv_sub hl [0, 1] rfl) hP hS
  exact key_2 7 0 trial ls _ _ (by omega) hT_2 (lv_sub hl [0, 1] rfl) hP hS
theorem begin_l : ∀ (d i : Nat) (page tr : Nat → Int32) (j : Nat), f_X6_begin_l2 page d i tr j = if i ≤ j ∧ j < i + d then page j else tr j := by
  intro d
  induction d with
  | zero => intro i page tr j; rw [f_X6_begin_l2_z, if_neg (by omega)]
  | succ d ih =>
    intro i page tr j
    rw [f_X6_begin_l2_s, ih]
    by_cases h : i + 1 ≤ j ∧ j < i + 1 + d
    · rw [if_pos h, if_pos (by omega)]
    · rw [if_neg h]
      by_cases h2 : j = i
      · rw [h2, pk_us, if_pos (by omega)]
      · rw [pk_un h2, if_neg (by omega)]
theorem begin_at (page trial : Nat → Int32) (j : Nat) (h : j < 7) : f_X6_begin page trial j = page j := by
  unfold f_X6_begin
  rw [begin_l, if_pos (by omega)]
def f_X6_settle (cl : Nat → Nat) (n : Nat) (lies : Nat → Int32) (kind : Nat → Int32) (trial : Nat → Int32) : (Int32) × (Nat → Int32) := (((f_X6_many (trial 5)) - (f_X6_many ((upd trial 5 (f_X6_standing cl n trial lies kind)) 5))), (upd trial 5 (f_X6_standing cl n trial lies kind)))
set_option maxHeartbeats 4000000 in
set_option maxRecDepth 100000 in
theorem c_X6_settle_trial (l : Launch) (D : va_G) (cI cZ : ClassId) (q : Nat → Nat) (thrown : Int32) (textSize : Int32) (place : Int32) (stock : Int32) (n : Nat) (readStock : Int32) (readCells : Int32) (readParts : Int32) (acts : Int32) (tried : Int32) (soonMany : Int32) (soonWhich : Int32) (kindMany : Int32) (kindFirst : Int32) (restMany : Int32) (restFirst : Int32) (text lies kind readPart page trial book kept isKept triedAbout triedIs gains value : Nat → Int32) (seed : Int64) (hn7 : n ≤ 7) (cl : Nat → Nat) (hcl : ∀ j, j < 7 → lies j = nI (cl j) ∧ cl j < 16) : WrI l yX6_settle cX6_settle 3 .int 5 120 D (tyL cI cZ) (MW cI cZ q thrown textSize place stock (nI n) readStock readCells readParts acts tried soonMany soonWhich kindMany kindFirst restMany restFirst text lies kind readPart page trial book kept isKept triedAbout triedIs gains value seed) [.ref (q 0), .ref (q 6)] (f_X6_settle cl n lies kind trial).1 (MW cI cZ q thrown textSize place stock (nI n) readStock readCells readParts acts tried soonMany soonWhich kindMany kindFirst restMany restFirst text lies kind readPart page (f_X6_settle cl n lies kind trial).2 book kept isKept triedAbout triedIs gains value seed) := by
  refine WrI.of (by decide) (Nat.le_of_ble_eq_true rfl) ?_
  intro p e s m args below meth c Q A hx hb hml hown hts hP hK hD hS fin ls hl
  have hown : s.vm.findClass RX6 = some m.cls := hown
  have hF : CallFix p m c cX6_settle 3 s args tb RX6 := ⟨hx, hb, hml, hown, hts⟩
  have hl : lv_has ls 3 [(0, .ref (q 0)), (1, .ref (q 6))] := hl
  generalize hR : (f_X6_settle cl n lies kind trial) = R at fin
  unfold f_X6_settle at hR
  refine lv_aload_n hx hb dX6_settle_0 rfl (lv_at hl 1 rfl) ?_
  refine lv_iconst (v := (5 : Int32)) hx hb dX6_settle_1 (by decide) ?_
  refine va_iald hx hb hK hP 6 0 MW_6 rfl (vp_in_nI (n := 5) (by decide) (by decide)) dX6_settle_2 ?_
  refine lv_rw (z := (trial 5)) (congrArg trial cl_5) ?_
  refine lv_istore_n (lv' := [(2, .int (trial 5)), (0, .ref (q 0)), (1, .ref (q 6))]) hx hb dX6_settle_3 rfl hl (by decide) rfl (fun ls hl => ?_)
  refine lv_aload_n hx hb dX6_settle_4 rfl (lv_at hl 2 rfl) ?_
  refine lv_iconst (v := (5 : Int32)) hx hb dX6_settle_5 (by decide) ?_
  refine lv_aload_n hx hb dX6_settle_6 rfl (lv_at hl 1 rfl) ?_
  refine lv_aload_n hx hb dX6_settle_7 rfl (lv_at hl 2 rfl) ?_
  refine vRdI (b := (q 0)) (As := [.ref (q 6)]) (rest := [.int (5 : Int32), .ref (q 6)]) hF (c_X6_standing l D cI cZ q thrown textSize place stock n readStock readCells readParts acts tried soonMany soonWhich kindMany kindFirst restMany restFirst text lies kind readPart page trial book kept isKept triedAbout triedIs gains value seed 6 (q 6) trial MW_6 hn7 cl hcl) (gdV tm_3_145 tm_3_147 tp_15 tm_1_6 tm_3_148) de_X6_standing ⟨Nat.le_of_ble_eq_true rfl, Nat.le_of_ble_eq_true rfl⟩ hP hK (va_recv hK hP (ci := 5) (q0 := 0) rfl MW_0) hl.1 rfl (Nat.le_of_ble_eq_true rfl) dX6_settle_8 ⟨Nat.zero_le _, Nat.zero_le _⟩ ?_
  refine va_iast hx hb hK hP hD hS 6 0 MW_6 rfl (vp_in_nI (n := 5) (by decide) (by decide)) dX6_settle_11 (fun H locs hP _ hS => ?_)
  have hP : va_P D vwCl (MW cI cZ q thrown textSize place stock (nI n) readStock readCells readParts acts tried soonMany soonWhich kindMany kindFirst restMany restFirst text lies kind readPart page (upd trial (5 : Int32).toNatClampNeg (f_X6_standing cl n trial lies kind)) book kept isKept triedAbout triedIs gains value seed) H := hP
  rw [cl_5] at hP
  have hD : va_D A (MW cI cZ q thrown textSize place stock (nI n) readStock readCells readParts acts tried soonMany soonWhich kindMany kindFirst restMany restFirst text lies kind readPart page (upd trial 5 (f_X6_standing cl n trial lies kind)) book kept isKept triedAbout triedIs gains value seed) := hD.same (MW_ad.trans MW_ad.symm)
  refine lv_iload_n hx hb dX6_settle_12 rfl (lv_at hl 0 rfl) ?_
  refine sRdI (As := [.int (trial 5)]) (rest := []) hF (c_X6_many l D cI cZ q (trial 5)) (gdS tm_3_171 tm_3_172 tm_1_6 tm_3_173) de_X6_many ⟨Nat.le_of_ble_eq_true rfl, Nat.le_of_ble_eq_true rfl⟩ va_P_nil hK hl.1 rfl (Nat.le_of_ble_eq_true rfl) dX6_settle_13 ⟨Nat.zero_le _, Nat.zero_le _⟩ ?_
  refine lv_aload_n hx hb dX6_settle_16 rfl (lv_at hl 2 rfl) ?_
  refine lv_iconst (v := (5 : Int32)) hx hb dX6_settle_17 (by decide) ?_
  refine va_iald hx hb hK hP 6 0 MW_6 rfl (vp_in_nI (n := 5) (by decide) (by decide)) dX6_settle_18 ?_
  refine lv_rw (z := ((upd trial 5 (f_X6_standing cl n trial lies kind)) 5)) (congrArg (upd trial 5 (f_X6_standing cl n trial lies kind)) cl_5) ?_
  refine sRdI (As := [.int ((upd trial 5 (f_X6_standing cl n trial lies kind)) 5)]) (rest := [.int (f_X6_many (trial 5))]) hF (c_X6_many l D cI cZ q ((upd trial 5 (f_X6_standing cl n trial lies kind)) 5)) (gdS tm_3_171 tm_3_172 tm_1_6 tm_3_173) de_X6_many ⟨Nat.le_of_ble_eq_true rfl, Nat.le_of_ble_eq_true rfl⟩ va_P_nil hK hl.1 rfl (Nat.le_of_ble_eq_true rfl) dX6_settle_19 ⟨Nat.zero_le _, Nat.zero_le _⟩ ?_
  refine lv_isub hx hb dX6_settle_22 ?_
  subst hR
  exact fin _ _ _ _ dX6_settle_23 (nar_i _) hP hS
set_option maxHeartbeats 4000000 in
set_option maxRecDepth 100000 in
theorem c_X6_settle_page (l : Launch) (D : va_G) (cI cZ : ClassId) (q : Nat → Nat) (thrown : Int32) (textSize : Int32) (place : Int32) (stock : Int32) (n : Nat) (readStock : Int32) (readCells : Int32) (readParts : Int32) (acts : Int32) (tried : Int32) (soonMany : Int32) (soonWhich : Int32) (kindMany : Int32) (kindFirst : Int32) (restMany : Int32) (restFirst : Int32) (text lies kind readPart page trial book kept isKept triedAbout triedIs gains value : Nat → Int32) (seed : Int64) (hn7 : n ≤ 7) (cl : Nat → Nat) (hcl : ∀ j, j < 7 → lies j = nI (cl j) ∧ cl j < 16) : WrI l yX6_settle cX6_settle 3 .int 5 120 D (tyL cI cZ) (MW cI cZ q thrown textSize place stock (nI n) readStock readCells readParts acts tried soonMany soonWhich kindMany kindFirst restMany restFirst text lies kind readPart page trial book kept isKept triedAbout triedIs gains value seed) [.ref (q 0), .ref (q 5)] (f_X6_settle cl n lies kind page).1 (MW cI cZ q thrown textSize place stock (nI n) readStock readCells readParts acts tried soonMany soonWhich kindMany kindFirst restMany restFirst text lies kind readPart (f_X6_settle cl n lies kind page).2 trial book kept isKept triedAbout triedIs gains value seed) := by
  refine WrI.of (by decide) (Nat.le_of_ble_eq_true rfl) ?_
  intro p e s m args below meth c Q A hx hb hml hown hts hP hK hD hS fin ls hl
  have hown : s.vm.findClass RX6 = some m.cls := hown
  have hF : CallFix p m c cX6_settle 3 s args tb RX6 := ⟨hx, hb, hml, hown, hts⟩
  have hl : lv_has ls 3 [(0, .ref (q 0)), (1, .ref (q 5))] := hl
  generalize hR : (f_X6_settle cl n lies kind page) = R at fin
  unfold f_X6_settle at hR
  refine lv_aload_n hx hb dX6_settle_0 rfl (lv_at hl 1 rfl) ?_
  refine lv_iconst (v := (5 : Int32)) hx hb dX6_settle_1 (by decide) ?_
  refine va_iald hx hb hK hP 5 0 MW_5 rfl (vp_in_nI (n := 5) (by decide) (by decide)) dX6_settle_2 ?_
  refine lv_rw (z := (page 5)) (congrArg page cl_5) ?_
  refine lv_istore_n (lv' := [(2, .int (page 5)), (0, .ref (q 0)), (1, .ref (q 5))]) hx hb dX6_settle_3 rfl hl (by decide) rfl (fun ls hl => ?_)
  refine lv_aload_n hx hb dX6_settle_4 rfl (lv_at hl 2 rfl) ?_
  refine lv_iconst (v := (5 : Int32)) hx hb dX6_settle_5 (by decide) ?_
  refine lv_aload_n hx hb dX6_settle_6 rfl (lv_at hl 1 rfl) ?_
  refine lv_aload_n hx hb dX6_settle_7 rfl (lv_at hl 2 rfl) ?_
  refine vRdI (b := (q 0)) (As := [.ref (q 5)]) (rest := [.int (5 : Int32), .ref (q 5)]) hF (c_X6_standing l D cI cZ q thrown textSize place stock n readStock readCells readParts acts tried soonMany soonWhich kindMany kindFirst restMany restFirst text lies kind readPart page trial book kept isKept triedAbout triedIs gains value seed 5 (q 5) page MW_5 hn7 cl hcl) (gdV tm_3_145 tm_3_147 tp_15 tm_1_6 tm_3_148) de_X6_standing ⟨Nat.le_of_ble_eq_true rfl, Nat.le_of_ble_eq_true rfl⟩ hP hK (va_recv hK hP (ci := 5) (q0 := 0) rfl MW_0) hl.1 rfl (Nat.le_of_ble_eq_true rfl) dX6_settle_8 ⟨Nat.zero_le _, Nat.zero_le _⟩ ?_
  refine va_iast hx hb hK hP hD hS 5 0 MW_5 rfl (vp_in_nI (n := 5) (by decide) (by decide)) dX6_settle_11 (fun H locs hP _ hS => ?_)
  have hP : va_P D vwCl (MW cI cZ q thrown textSize place stock (nI n) readStock readCells readParts acts tried soonMany soonWhich kindMany kindFirst restMany restFirst text lies kind readPart (upd page (5 : Int32).toNatClampNeg (f_X6_standing cl n page lies kind)) trial book kept isKept triedAbout triedIs gains value seed) H := hP
  rw [cl_5] at hP
  have hD : va_D A (MW cI cZ q thrown textSize place stock (nI n) readStock readCells readParts acts tried soonMany soonWhich kindMany kindFirst restMany restFirst text lies kind readPart (upd page 5 (f_X6_standing cl n page lies kind)) trial book kept isKept triedAbout triedIs gains value seed) := hD.same (MW_ad.trans MW_ad.symm)
  refine lv_iload_n hx hb dX6_settle_12 rfl (lv_at hl 0 rfl) ?_
  refine sRdI (As := [.int (page 5)]) (rest := []) hF (c_X6_many l D cI cZ q (page 5)) (gdS tm_3_171 tm_3_172 tm_1_6 tm_3_173) de_X6_many ⟨Nat.le_of_ble_eq_true rfl, Nat.le_of_ble_eq_true rfl⟩ va_P_nil hK hl.1 rfl (Nat.le_of_ble_eq_true rfl) dX6_settle_13 ⟨Nat.zero_le _, Nat.zero_le _⟩ ?_
  refine lv_aload_n hx hb dX6_settle_16 rfl (lv_at hl 2 rfl) ?_
  refine lv_iconst (v := (5 : Int32)) hx hb dX6_settle_17 (by decide) ?_
  refine va_iald hx hb hK hP 5 0 MW_5 rfl (vp_in_nI (n := 5) (by decide) (by decide)) dX6_settle_18 ?_
  refine lv_rw (z := ((upd page 5 (f_X6_standing cl n page lies kind)) 5)) (congrArg (upd page 5 (f_X6_standing cl n page lies kind)) cl_5) ?_
  refine sRdI (As := [.int ((upd page 5 (f_X6_standing cl n page lies kind)) 5)]) (rest := [.int (f_X6_many (page 5))]) hF (c_X6_many l D cI cZ q ((upd page 5 (f_X6_standing cl n page lies kind)) 5)) (gdS tm_3_171 tm_3_172 tm_1_6 tm_3_173) de_X6_many ⟨Nat.le_of_ble_eq_true rfl, Nat.le_of_ble_eq_true rfl⟩ va_P_nil hK hl.1 rfl (Nat.le_of_ble_eq_true rfl) dX6_settle_19 ⟨Nat.zero_le _, Nat.zero_le _⟩ ?_
  refine lv_isub hx hb dX6_settle_22 ?_
  subst hR
  exact fin _ _ _ _ dX6_settle_23 (nar_i _) hP hS
def f_X6_goPut (cl : Nat → Nat) (n : Nat) (cc : Nat) (lies : Nat → Int32) (kind : Nat → Int32) (trial : Nat → Int32) : (Int32) × (Nat → Int32) := (if (trial 4) = (0 : Int32) then ((0 : Int32), trial) else (if (trial cc) = (4 : Int32) then ((0 : Int32), trial) else (if (f_X6_partAt n lies (((4 : Int32) * (trial cc)) + (nI cc))) = (-9 : Int32) then ((1 : Int32), (f_X6_settle cl n lies kind (upd (upd (upd trial 5 ((trial 5) ||| (0 : Int32))) cc (((upd trial 5 ((trial 5) ||| (0 : Int32))) cc) + (1 : Int32))) 4 (((upd (upd trial 5 ((trial 5) ||| (0 : Int32))) cc (((upd trial 5 ((trial 5) ||| (0 : Int32))) cc) + (1 : Int32))) 4) - (1 : Int32)))).2) else ((1 : Int32), (f_X6_settle cl n lies kind (upd (upd (upd trial 5 ((trial 5) ||| (shl (1 : Int32) (f_X6_partAt n lies (((4 : Int32) * (trial cc)) + (nI cc)))))) cc (((upd trial 5 ((trial 5) ||| (shl (1 : Int32) (f_X6_partAt n lies (((4 : Int32) * (trial cc)) + (nI cc)))))) cc) + (1 : Int32))) 4 (((upd (upd trial 5 ((trial 5) ||| (shl (1 : Int32) (f_X6_partAt n lies (((4 : Int32) * (trial cc)) + (nI cc)))))) cc (((upd trial 5 ((trial 5) ||| (shl (1 : Int32) (f_X6_partAt n lies (((4 : Int32) * (trial cc)) + (nI cc)))))) cc) + (1 : Int32))) 4) - (1 : Int32)))).2))))
set_option maxHeartbeats 4000000 in
set_option maxRecDepth 100000 in
theorem c_X6_goPut_trial (l : Launch) (D : va_G) (cI cZ : ClassId) (q : Nat → Nat) (thrown : Int32) (textSize : Int32) (place : Int32) (stock : Int32) (n : Nat) (readStock : Int32) (readCells : Int32) (readParts : Int32) (acts : Int32) (tried : Int32) (soonMany : Int32) (soonWhich : Int32) (kindMany : Int32) (kindFirst : Int32) (restMany : Int32) (restFirst : Int32) (text lies kind readPart page trial book kept isKept triedAbout triedIs gains value : Nat → Int32) (seed : Int64) (cc : Nat) (hn7 : n ≤ 7) (hcc : cc < 4) (cl : Nat → Nat) (hcl : ∀ j, j < 7 → lies j = nI (cl j) ∧ cl j < 16) : WrI l yX6_goPut cX6_goPut 4 .boolean 6 142 D (tyL cI cZ) (MW cI cZ q thrown textSize place stock (nI n) readStock readCells readParts acts tried soonMany soonWhich kindMany kindFirst restMany restFirst text lies kind readPart page trial book kept isKept triedAbout triedIs gains value seed) [.ref (q 0), .ref (q 6), .int (nI cc)] (f_X6_goPut cl n cc lies kind trial).1 (MW cI cZ q thrown textSize place stock (nI n) readStock readCells readParts acts tried soonMany soonWhich kindMany kindFirst restMany restFirst text lies kind readPart page (f_X6_goPut cl n cc lies kind trial).2 book kept isKept triedAbout triedIs gains value seed) := by
  refine WrI.of (by decide) (Nat.le_of_ble_eq_true rfl) ?_
  intro p e s m args below meth c Q A hx hb hml hown hts hP hK hD hS fin ls hl
  have hown : s.vm.findClass RX6 = some m.cls := hown
  have hF : CallFix p m c cX6_goPut 4 s args tb RX6 := ⟨hx, hb, hml, hown, hts⟩
  have hl : lv_has ls 4 [(0, .ref (q 0)), (1, .ref (q 6)), (2, .int (nI cc))] := hl
  generalize hR : (f_X6_goPut cl n cc lies kind trial) = R at fin
  unfold f_X6_goPut at hR
  refine lv_aload_n hx hb dX6_goPut_0 rfl (lv_at hl 1 rfl) ?_
  refine lv_iconst (v := (4 : Int32)) hx hb dX6_goPut_1 (by decide) ?_
  refine va_iald hx hb hK hP 6 0 MW_6 rfl (vp_in_nI (n := 4) (by decide) (by decide)) dX6_goPut_2 ?_
  refine lv_rw (z := (trial 4)) (congrArg trial cl_4) ?_
  refine lv_if_eq (tgt := 13) hx hb dX6_goPut_3 (by decide) (fun c_3 => ?_) (fun c_3 => ?_)
  · rw [if_pos c_3] at hR
    refine lv_iconst (v := (0 : Int32)) hx hb dX6_goPut_13 (by decide) ?_
    subst hR
    exact fin _ _ _ _ dX6_goPut_14 (nar_b (Or.inl rfl)) hP hS
  · rw [if_neg c_3] at hR
    refine lv_aload_n hx hb dX6_goPut_6 rfl (lv_at hl 1 rfl) ?_
    refine lv_iload_n hx hb dX6_goPut_7 rfl (lv_at hl 2 rfl) ?_
    refine va_iald hx hb hK hP 6 0 MW_6 rfl (vp_in_nI (show cc < 7 by omega) (by omega)) dX6_goPut_8 ?_
    refine lv_rw (z := (trial cc)) (congrArg trial (nI_clamp (show cc < 2 ^ 31 by omega))) ?_
    refine lv_iconst (v := (4 : Int32)) hx hb dX6_goPut_9 (by decide) ?_
    refine lv_icmp_ne (tgt := 15) hx hb dX6_goPut_10 (by decide) (fun c_10 => ?_) (fun c_10 => ?_)
    · rw [if_neg c_10] at hR
      refine lv_aload_n hx hb dX6_goPut_15 rfl (lv_at hl 0 rfl) ?_
      refine lv_iconst (v := (4 : Int32)) hx hb dX6_goPut_16 (by decide) ?_
      refine lv_aload_n hx hb dX6_goPut_17 rfl (lv_at hl 1 rfl) ?_
      refine lv_iload_n hx hb dX6_goPut_18 rfl (lv_at hl 2 rfl) ?_
      refine va_iald hx hb hK hP 6 0 MW_6 rfl (vp_in_nI (show cc < 7 by omega) (by omega)) dX6_goPut_19 ?_
      refine lv_rw (z := (trial cc)) (congrArg trial (nI_clamp (show cc < 2 ^ 31 by omega))) ?_
      refine lv_imul hx hb dX6_goPut_20 ?_
      refine lv_iload_n hx hb dX6_goPut_21 rfl (lv_at hl 2 rfl) ?_
      refine lv_iadd hx hb dX6_goPut_22 ?_
      refine vRdI (b := (q 0)) (As := [.int (((4 : Int32) * (trial cc)) + (nI cc))]) (rest := []) hF (c_X6_partAt l D cI cZ q thrown textSize place stock n readStock readCells readParts acts tried soonMany soonWhich kindMany kindFirst restMany restFirst text lies kind readPart page trial book kept isKept triedAbout triedIs gains value seed (((4 : Int32) * (trial cc)) + (nI cc)) hn7) (gdV tm_3_164 tm_3_166 tp_19 tm_1_6 tm_3_167) de_X6_partAt ⟨Nat.le_of_ble_eq_true rfl, Nat.le_of_ble_eq_true rfl⟩ hP hK (va_recv hK hP (ci := 5) (q0 := 0) rfl MW_0) hl.1 rfl (Nat.le_of_ble_eq_true rfl) dX6_goPut_23 ⟨Nat.zero_le _, Nat.zero_le _⟩ ?_
      refine lv_istore_n (lv' := [(3, .int (f_X6_partAt n lies (((4 : Int32) * (trial cc)) + (nI cc)))), (0, .ref (q 0)), (1, .ref (q 6)), (2, .int (nI cc))]) hx hb dX6_goPut_26 rfl hl (by decide) rfl (fun ls hl => ?_)
      refine lv_aload_n hx hb dX6_goPut_27 rfl (lv_at hl 2 rfl) ?_
      refine lv_iconst (v := (5 : Int32)) hx hb dX6_goPut_28 (by decide) ?_
      refine lv_dup2_11 hx hb dX6_goPut_29 rfl rfl ?_
      refine va_iald hx hb hK hP 6 0 MW_6 rfl (vp_in_nI (n := 5) (by decide) (by decide)) dX6_goPut_30 ?_
      refine lv_rw (z := (trial 5)) (congrArg trial cl_5) ?_
      refine lv_iload_n hx hb dX6_goPut_31 rfl (lv_at hl 0 rfl) ?_
      refine lv_bipush (v := (-9 : Int32)) hx hb dX6_goPut_32 (by decide) ?_
      refine lv_icmp_ne (tgt := 41) hx hb dX6_goPut_34 (by decide) (fun c_34 => ?_) (fun c_34 => ?_)
      · rw [if_neg c_34] at hR
        refine lv_iconst (v := (1 : Int32)) hx hb dX6_goPut_41 (by decide) ?_
        refine lv_iload_n hx hb dX6_goPut_42 rfl (lv_at hl 0 rfl) ?_
        refine lv_ishl hx hb dX6_goPut_43 ?_
        refine lv_rw (z := (shl (1 : Int32) (f_X6_partAt n lies (((4 : Int32) * (trial cc)) + (nI cc))))) rfl ?_
        refine lv_ior hx hb dX6_goPut_44 ?_
        refine va_iast hx hb hK hP hD hS 6 0 MW_6 rfl (vp_in_nI (n := 5) (by decide) (by decide)) dX6_goPut_45 (fun H locs hP _ hS => ?_)
        have hP : va_P D vwCl (MW cI cZ q thrown textSize place stock (nI n) readStock readCells readParts acts tried soonMany soonWhich kindMany kindFirst restMany restFirst text lies kind readPart page (upd trial (5 : Int32).toNatClampNeg ((trial 5) ||| (shl (1 : Int32) (f_X6_partAt n lies (((4 : Int32) * (trial cc)) + (nI cc)))))) book kept isKept triedAbout triedIs gains value seed) H := hP
        rw [cl_5] at hP
        have hD : va_D A (MW cI cZ q thrown textSize place stock (nI n) readStock readCells readParts acts tried soonMany soonWhich kindMany kindFirst restMany restFirst text lies kind readPart page (upd trial 5 ((trial 5) ||| (shl (1 : Int32) (f_X6_partAt n lies (((4 : Int32) * (trial cc)) + (nI cc)))))) book kept isKept triedAbout triedIs gains value seed) := hD.same (MW_ad.trans MW_ad.symm)
        refine lv_aload_n hx hb dX6_goPut_46 rfl (lv_at hl 2 rfl) ?_
        refine lv_iload_n hx hb dX6_goPut_47 rfl (lv_at hl 3 rfl) ?_
        refine lv_dup2_11 hx hb dX6_goPut_48 rfl rfl ?_
        refine va_iald hx hb hK hP 6 0 MW_6 rfl (vp_in_nI (show cc < 7 by omega) (by omega)) dX6_goPut_49 ?_
        refine lv_rw (z := ((upd trial 5 ((trial 5) ||| (shl (1 : Int32) (f_X6_partAt n lies (((4 : Int32) * (trial cc)) + (nI cc)))))) cc)) (congrArg (upd trial 5 ((trial 5) ||| (shl (1 : Int32) (f_X6_partAt n lies (((4 : Int32) * (trial cc)) + (nI cc)))))) (nI_clamp (show cc < 2 ^ 31 by omega))) ?_
        refine lv_iconst (v := (1 : Int32)) hx hb dX6_goPut_50 (by decide) ?_
        refine lv_iadd hx hb dX6_goPut_51 ?_
        refine va_iast hx hb hK hP hD hS 6 0 MW_6 rfl (vp_in_nI (show cc < 7 by omega) (by omega)) dX6_goPut_52 (fun H locs hP _ hS => ?_)
        have hP : va_P D vwCl (MW cI cZ q thrown textSize place stock (nI n) readStock readCells readParts acts tried soonMany soonWhich kindMany kindFirst restMany restFirst text lies kind readPart page (upd (upd trial 5 ((trial 5) ||| (shl (1 : Int32) (f_X6_partAt n lies (((4 : Int32) * (trial cc)) + (nI cc)))))) (nI cc).toNatClampNeg (((upd trial 5 ((trial 5) ||| (shl (1 : Int32) (f_X6_partAt n lies (((4 : Int32) * (trial cc)) + (nI cc)))))) cc) + (1 : Int32))) book kept isKept triedAbout triedIs gains value seed) H := hP
        rw [(nI_clamp (show cc < 2 ^ 31 by omega))] at hP
        have hD : va_D A (MW cI cZ q thrown textSize place stock (nI n) readStock readCells readParts acts tried soonMany soonWhich kindMany kindFirst restMany restFirst text lies kind readPart page (upd (upd trial 5 ((trial 5) ||| (shl (1 : Int32) (f_X6_partAt n lies (((4 : Int32) * (trial cc)) + (nI cc)))))) cc (((upd trial 5 ((trial 5) ||| (shl (1 : Int32) (f_X6_partAt n lies (((4 : Int32) * (trial cc)) + (nI cc)))))) cc) + (1 : Int32))) book kept isKept triedAbout triedIs gains value seed) := hD.same (MW_ad.trans MW_ad.symm)
        refine lv_aload_n hx hb dX6_goPut_53 rfl (lv_at hl 2 rfl) ?_
        refine lv_iconst (v := (4 : Int32)) hx hb dX6_goPut_54 (by decide) ?_
        refine lv_dup2_11 hx hb dX6_goPut_55 rfl rfl ?_
        refine va_iald hx hb hK hP 6 0 MW_6 rfl (vp_in_nI (n := 4) (by decide) (by decide)) dX6_goPut_56 ?_
        refine lv_rw (z := ((upd (upd trial 5 ((trial 5) ||| (shl (1 : Int32) (f_X6_partAt n lies (((4 : Int32) * (trial cc)) + (nI cc)))))) cc (((upd trial 5 ((trial 5) ||| (shl (1 : Int32) (f_X6_partAt n lies (((4 : Int32) * (trial cc)) + (nI cc)))))) cc) + (1 : Int32))) 4)) (congrArg (upd (upd trial 5 ((trial 5) ||| (shl (1 : Int32) (f_X6_partAt n lies (((4 : Int32) * (trial cc)) + (nI cc)))))) cc (((upd trial 5 ((trial 5) ||| (shl (1 : Int32) (f_X6_partAt n lies (((4 : Int32) * (trial cc)) + (nI cc)))))) cc) + (1 : Int32))) cl_4) ?_
        refine lv_iconst (v := (1 : Int32)) hx hb dX6_goPut_57 (by decide) ?_
        refine lv_isub hx hb dX6_goPut_58 ?_
        refine va_iast hx hb hK hP hD hS 6 0 MW_6 rfl (vp_in_nI (n := 4) (by decide) (by decide)) dX6_goPut_59 (fun H locs hP _ hS => ?_)
        have hP : va_P D vwCl (MW cI cZ q thrown textSize place stock (nI n) readStock readCells readParts acts tried soonMany soonWhich kindMany kindFirst restMany restFirst text lies kind readPart page (upd (upd (upd trial 5 ((trial 5) ||| (shl (1 : Int32) (f_X6_partAt n lies (((4 : Int32) * (trial cc)) + (nI cc)))))) cc (((upd trial 5 ((trial 5) ||| (shl (1 : Int32) (f_X6_partAt n lies (((4 : Int32) * (trial cc)) + (nI cc)))))) cc) + (1 : Int32))) (4 : Int32).toNatClampNeg (((upd (upd trial 5 ((trial 5) ||| (shl (1 : Int32) (f_X6_partAt n lies (((4 : Int32) * (trial cc)) + (nI cc)))))) cc (((upd trial 5 ((trial 5) ||| (shl (1 : Int32) (f_X6_partAt n lies (((4 : Int32) * (trial cc)) + (nI cc)))))) cc) + (1 : Int32))) 4) - (1 : Int32))) book kept isKept triedAbout triedIs gains value seed) H := hP
        rw [cl_4] at hP
        have hD : va_D A (MW cI cZ q thrown textSize place stock (nI n) readStock readCells readParts acts tried soonMany soonWhich kindMany kindFirst restMany restFirst text lies kind readPart page (upd (upd (upd trial 5 ((trial 5) ||| (shl (1 : Int32) (f_X6_partAt n lies (((4 : Int32) * (trial cc)) + (nI cc)))))) cc (((upd trial 5 ((trial 5) ||| (shl (1 : Int32) (f_X6_partAt n lies (((4 : Int32) * (trial cc)) + (nI cc)))))) cc) + (1 : Int32))) 4 (((upd (upd trial 5 ((trial 5) ||| (shl (1 : Int32) (f_X6_partAt n lies (((4 : Int32) * (trial cc)) + (nI cc)))))) cc (((upd trial 5 ((trial 5) ||| (shl (1 : Int32) (f_X6_partAt n lies (((4 : Int32) * (trial cc)) + (nI cc)))))) cc) + (1 : Int32))) 4) - (1 : Int32))) book kept isKept triedAbout triedIs gains value seed) := hD.same (MW_ad.trans MW_ad.symm)
        refine lv_aload_n hx hb dX6_goPut_60 rfl (lv_at hl 1 rfl) ?_
        refine lv_aload_n hx hb dX6_goPut_61 rfl (lv_at hl 2 rfl) ?_
        refine vWrI (b := (q 0)) (As := [.ref (q 6)]) (rest := []) hF (c_X6_settle_trial l D cI cZ q thrown textSize place stock n readStock readCells readParts acts tried soonMany soonWhich kindMany kindFirst restMany restFirst text lies kind readPart page (upd (upd (upd trial 5 ((trial 5) ||| (shl (1 : Int32) (f_X6_partAt n lies (((4 : Int32) * (trial cc)) + (nI cc)))))) cc (((upd trial 5 ((trial 5) ||| (shl (1 : Int32) (f_X6_partAt n lies (((4 : Int32) * (trial cc)) + (nI cc)))))) cc) + (1 : Int32))) 4 (((upd (upd trial 5 ((trial 5) ||| (shl (1 : Int32) (f_X6_partAt n lies (((4 : Int32) * (trial cc)) + (nI cc)))))) cc (((upd trial 5 ((trial 5) ||| (shl (1 : Int32) (f_X6_partAt n lies (((4 : Int32) * (trial cc)) + (nI cc)))))) cc) + (1 : Int32))) 4) - (1 : Int32))) book kept isKept triedAbout triedIs gains value seed hn7 cl hcl) (gdV tm_3_141 tm_3_143 tp_14 tm_1_6 tm_3_144) de_X6_settle ⟨Nat.le_of_ble_eq_true rfl, Nat.le_of_ble_eq_true rfl⟩ hP hK (va_recv hK hP (ci := 5) (q0 := 0) rfl MW_0) hl.1 rfl (Nat.le_of_ble_eq_true rfl) dX6_goPut_62 ⟨Nat.zero_le _, Nat.zero_le _⟩ hD hS (fun H locs hP hS => ?_)
        have hP : va_P D vwCl (MW cI cZ q thrown textSize place stock (nI n) readStock readCells readParts acts tried soonMany soonWhich kindMany kindFirst restMany restFirst text lies kind readPart page (f_X6_settle cl n lies kind (upd (upd (upd trial 5 ((trial 5) ||| (shl (1 : Int32) (f_X6_partAt n lies (((4 : Int32) * (trial cc)) + (nI cc)))))) cc (((upd trial 5 ((trial 5) ||| (shl (1 : Int32) (f_X6_partAt n lies (((4 : Int32) * (trial cc)) + (nI cc)))))) cc) + (1 : Int32))) 4 (((upd (upd trial 5 ((trial 5) ||| (shl (1 : Int32) (f_X6_partAt n lies (((4 : Int32) * (trial cc)) + (nI cc)))))) cc (((upd trial 5 ((trial 5) ||| (shl (1 : Int32) (f_X6_partAt n lies (((4 : Int32) * (trial cc)) + (nI cc)))))) cc) + (1 : Int32))) 4) - (1 : Int32)))).2 book kept isKept triedAbout triedIs gains value seed) H := hP
        have hD : va_D A (MW cI cZ q thrown textSize place stock (nI n) readStock readCells readParts acts tried soonMany soonWhich kindMany kindFirst restMany restFirst text lies kind readPart page (f_X6_settle cl n lies kind (upd (upd (upd trial 5 ((trial 5) ||| (shl (1 : Int32) (f_X6_partAt n lies (((4 : Int32) * (trial cc)) + (nI cc)))))) cc (((upd trial 5 ((trial 5) ||| (shl (1 : Int32) (f_X6_partAt n lies (((4 : Int32) * (trial cc)) + (nI cc)))))) cc) + (1 : Int32))) 4 (((upd (upd trial 5 ((trial 5) ||| (shl (1 : Int32) (f_X6_partAt n lies (((4 : Int32) * (trial cc)) + (nI cc)))))) cc (((upd trial 5 ((trial 5) ||| (shl (1 : Int32) (f_X6_partAt n lies (((4 : Int32) * (trial cc)) + (nI cc)))))) cc) + (1 : Int32))) 4) - (1 : Int32)))).2 book kept isKept triedAbout triedIs gains value seed) := hD.same (MW_ad.trans MW_ad.symm)
        refine lv_pop hx hb dX6_goPut_65 rfl ?_
        refine lv_iconst (v := (1 : Int32)) hx hb dX6_goPut_66 (by decide) ?_
        subst hR
        exact fin _ _ _ _ dX6_goPut_67 (nar_b (Or.inr rfl)) hP hS
      · rw [if_pos c_34] at hR
        refine lv_iconst (v := (0 : Int32)) hx hb dX6_goPut_37 (by decide) ?_
        refine lv_goto (tgt := 44) hx hb dX6_goPut_38 (by decide) ?_
        refine lv_ior hx hb dX6_goPut_44 ?_
        refine va_iast hx hb hK hP hD hS 6 0 MW_6 rfl (vp_in_nI (n := 5) (by decide) (by decide)) dX6_goPut_45 (fun H locs hP _ hS => ?_)
        have hP : va_P D vwCl (MW cI cZ q thrown textSize place stock (nI n) readStock readCells readParts acts tried soonMany soonWhich kindMany kindFirst restMany restFirst text lies kind readPart page (upd trial (5 : Int32).toNatClampNeg ((trial 5) ||| (0 : Int32))) book kept isKept triedAbout triedIs gains value seed) H := hP
        rw [cl_5] at hP
        have hD : va_D A (MW cI cZ q thrown textSize place stock (nI n) readStock readCells readParts acts tried soonMany soonWhich kindMany kindFirst restMany restFirst text lies kind readPart page (upd trial 5 ((trial 5) ||| (0 : Int32))) book kept isKept triedAbout triedIs gains value seed) := hD.same (MW_ad.trans MW_ad.symm)
        refine lv_aload_n hx hb dX6_goPut_46 rfl (lv_at hl 2 rfl) ?_
        refine lv_iload_n hx hb dX6_goPut_47 rfl (lv_at hl 3 rfl) ?_
        refine lv_dup2_11 hx hb dX6_goPut_48 rfl rfl ?_
        refine va_iald hx hb hK hP 6 0 MW_6 rfl (vp_in_nI (show cc < 7 by omega) (by omega)) dX6_goPut_49 ?_
        refine lv_rw (z := ((upd trial 5 ((trial 5) ||| (0 : Int32))) cc)) (congrArg (upd trial 5 ((trial 5) ||| (0 : Int32))) (nI_clamp (show cc < 2 ^ 31 by omega))) ?_
        refine lv_iconst (v := (1 : Int32)) hx hb dX6_goPut_50 (by decide) ?_
        refine lv_iadd hx hb dX6_goPut_51 ?_
        refine va_iast hx hb hK hP hD hS 6 0 MW_6 rfl (vp_in_nI (show cc < 7 by omega) (by omega)) dX6_goPut_52 (fun H locs hP _ hS => ?_)
        have hP : va_P D vwCl (MW cI cZ q thrown textSize place stock (nI n) readStock readCells readParts acts tried soonMany soonWhich kindMany kindFirst restMany restFirst text lies kind readPart page (upd (upd trial 5 ((trial 5) ||| (0 : Int32))) (nI cc).toNatClampNeg (((upd trial 5 ((trial 5) ||| (0 : Int32))) cc) + (1 : Int32))) book kept isKept triedAbout triedIs gains value seed) H := hP
        rw [(nI_clamp (show cc < 2 ^ 31 by omega))] at hP
        have hD : va_D A (MW cI cZ q thrown textSize place stock (nI n) readStock readCells readParts acts tried soonMany soonWhich kindMany kindFirst restMany restFirst text lies kind readPart page (upd (upd trial 5 ((trial 5) ||| (0 : Int32))) cc (((upd trial 5 ((trial 5) ||| (0 : Int32))) cc) + (1 : Int32))) book kept isKept triedAbout triedIs gains value seed) := hD.same (MW_ad.trans MW_ad.symm)
        refine lv_aload_n hx hb dX6_goPut_53 rfl (lv_at hl 2 rfl) ?_
        refine lv_iconst (v := (4 : Int32)) hx hb dX6_goPut_54 (by decide) ?_
        refine lv_dup2_11 hx hb dX6_goPut_55 rfl rfl ?_
        refine va_iald hx hb hK hP 6 0 MW_6 rfl (vp_in_nI (n := 4) (by decide) (by decide)) dX6_goPut_56 ?_
        refine lv_rw (z := ((upd (upd trial 5 ((trial 5) ||| (0 : Int32))) cc (((upd trial 5 ((trial 5) ||| (0 : Int32))) cc) + (1 : Int32))) 4)) (congrArg (upd (upd trial 5 ((trial 5) ||| (0 : Int32))) cc (((upd trial 5 ((trial 5) ||| (0 : Int32))) cc) + (1 : Int32))) cl_4) ?_
        refine lv_iconst (v := (1 : Int32)) hx hb dX6_goPut_57 (by decide) ?_
        refine lv_isub hx hb dX6_goPut_58 ?_
        refine va_iast hx hb hK hP hD hS 6 0 MW_6 rfl (vp_in_nI (n := 4) (by decide) (by decide)) dX6_goPut_59 (fun H locs hP _ hS => ?_)
        have hP : va_P D vwCl (MW cI cZ q thrown textSize place stock (nI n) readStock readCells readParts acts tried soonMany soonWhich kindMany kindFirst restMany restFirst text lies kind readPart page (upd (upd (upd trial 5 ((trial 5) ||| (0 : Int32))) cc (((upd trial 5 ((trial 5) ||| (0 : Int32))) cc) + (1 : Int32))) (4 : Int32).toNatClampNeg (((upd (upd trial 5 ((trial 5) ||| (0 : Int32))) cc (((upd trial 5 ((trial 5) ||| (0 : Int32))) cc) + (1 : Int32))) 4) - (1 : Int32))) book kept isKept triedAbout triedIs gains value seed) H := hP
        rw [cl_4] at hP
        have hD : va_D A (MW cI cZ q thrown textSize place stock (nI n) readStock readCells readParts acts tried soonMany soonWhich kindMany kindFirst restMany restFirst text lies kind readPart page (upd (upd (upd trial 5 ((trial 5) ||| (0 : Int32))) cc (((upd trial 5 ((trial 5) ||| (0 : Int32))) cc) + (1 : Int32))) 4 (((upd (upd trial 5 ((trial 5) ||| (0 : Int32))) cc (((upd trial 5 ((trial 5) ||| (0 : Int32))) cc) + (1 : Int32))) 4) - (1 : Int32))) book kept isKept triedAbout triedIs gains value seed) := hD.same (MW_ad.trans MW_ad.symm)
        refine lv_aload_n hx hb dX6_goPut_60 rfl (lv_at hl 1 rfl) ?_
        refine lv_aload_n hx hb dX6_goPut_61 rfl (lv_at hl 2 rfl) ?_
        refine vWrI (b := (q 0)) (As := [.ref (q 6)]) (rest := []) hF (c_X6_settle_trial l D cI cZ q thrown textSize place stock n readStock readCells readParts acts tried soonMany soonWhich kindMany kindFirst restMany restFirst text lies kind readPart page (upd (upd (upd trial 5 ((trial 5) ||| (0 : Int32))) cc (((upd trial 5 ((trial 5) ||| (0 : Int32))) cc) + (1 : Int32))) 4 (((upd (upd trial 5 ((trial 5) ||| (0 : Int32))) cc (((upd trial 5 ((trial 5) ||| (0 : Int32))) cc) + (1 : Int32))) 4) - (1 : Int32))) book kept isKept triedAbout triedIs gains value seed hn7 cl hcl) (gdV tm_3_141 tm_3_143 tp_14 tm_1_6 tm_3_144) de_X6_settle ⟨Nat.le_of_ble_eq_true rfl, Nat.le_of_ble_eq_true rfl⟩ hP hK (va_recv hK hP (ci := 5) (q0 := 0) rfl MW_0) hl.1 rfl (Nat.le_of_ble_eq_true rfl) dX6_goPut_62 ⟨Nat.zero_le _, Nat.zero_le _⟩ hD hS (fun H locs hP hS => ?_)
        have hP : va_P D vwCl (MW cI cZ q thrown textSize place stock (nI n) readStock readCells readParts acts tried soonMany soonWhich kindMany kindFirst restMany restFirst text lies kind readPart page (f_X6_settle cl n lies kind (upd (upd (upd trial 5 ((trial 5) ||| (0 : Int32))) cc (((upd trial 5 ((trial 5) ||| (0 : Int32))) cc) + (1 : Int32))) 4 (((upd (upd trial 5 ((trial 5) ||| (0 : Int32))) cc (((upd trial 5 ((trial 5) ||| (0 : Int32))) cc) + (1 : Int32))) 4) - (1 : Int32)))).2 book kept isKept triedAbout triedIs gains value seed) H := hP
        have hD : va_D A (MW cI cZ q thrown textSize place stock (nI n) readStock readCells readParts acts tried soonMany soonWhich kindMany kindFirst restMany restFirst text lies kind readPart page (f_X6_settle cl n lies kind (upd (upd (upd trial 5 ((trial 5) ||| (0 : Int32))) cc (((upd trial 5 ((trial 5) ||| (0 : Int32))) cc) + (1 : Int32))) 4 (((upd (upd trial 5 ((trial 5) ||| (0 : Int32))) cc (((upd trial 5 ((trial 5) ||| (0 : Int32))) cc) + (1 : Int32))) 4) - (1 : Int32)))).2 book kept isKept triedAbout triedIs gains value seed) := hD.same (MW_ad.trans MW_ad.symm)
        refine lv_pop hx hb dX6_goPut_65 rfl ?_
        refine lv_iconst (v := (1 : Int32)) hx hb dX6_goPut_66 (by decide) ?_
        subst hR
        exact fin _ _ _ _ dX6_goPut_67 (nar_b (Or.inr rfl)) hP hS
    · rw [if_pos c_10] at hR
      refine lv_iconst (v := (0 : Int32)) hx hb dX6_goPut_13 (by decide) ?_
      subst hR
      exact fin _ _ _ _ dX6_goPut_14 (nar_b (Or.inl rfl)) hP hS
set_option maxHeartbeats 4000000 in
set_option maxRecDepth 100000 in
theorem c_X6_goPut_page (l : Launch) (D : va_G) (cI cZ : ClassId) (q : Nat → Nat) (thrown : Int32) (textSize : Int32) (place : Int32) (stock : Int32) (n : Nat) (readStock : Int32) (readCells : Int32) (readParts : Int32) (acts : Int32) (tried : Int32) (soonMany : Int32) (soonWhich : Int32) (kindMany : Int32) (kindFirst : Int32) (restMany : Int32) (restFirst : Int32) (text lies kind readPart page trial book kept isKept triedAbout triedIs gains value : Nat → Int32) (seed : Int64) (cc : Nat) (hn7 : n ≤ 7) (hcc : cc < 4) (cl : Nat → Nat) (hcl : ∀ j, j < 7 → lies j = nI (cl j) ∧ cl j < 16) : WrI l yX6_goPut cX6_goPut 4 .boolean 6 142 D (tyL cI cZ) (MW cI cZ q thrown textSize place stock (nI n) readStock readCells readParts acts tried soonMany soonWhich kindMany kindFirst restMany restFirst text lies kind readPart page trial book kept isKept triedAbout triedIs gains value seed) [.ref (q 0), .ref (q 5), .int (nI cc)] (f_X6_goPut cl n cc lies kind page).1 (MW cI cZ q thrown textSize place stock (nI n) readStock readCells readParts acts tried soonMany soonWhich kindMany kindFirst restMany restFirst text lies kind readPart (f_X6_goPut cl n cc lies kind page).2 trial book kept isKept triedAbout triedIs gains value seed) := by
  refine WrI.of (by decide) (Nat.le_of_ble_eq_true rfl) ?_
  intro p e s m args below meth c Q A hx hb hml hown hts hP hK hD hS fin ls hl
  have hown : s.vm.findClass RX6 = some m.cls := hown
  have hF : CallFix p m c cX6_goPut 4 s args tb RX6 := ⟨hx, hb, hml, hown, hts⟩
  have hl : lv_has ls 4 [(0, .ref (q 0)), (1, .ref (q 5)), (2, .int (nI cc))] := hl
  generalize hR : (f_X6_goPut cl n cc lies kind page) = R at fin
  unfold f_X6_goPut at hR
  refine lv_aload_n hx hb dX6_goPut_0 rfl (lv_at hl 1 rfl) ?_
  refine lv_iconst (v := (4 : Int32)) hx hb dX6_goPut_1 (by decide) ?_
  refine va_iald hx hb hK hP 5 0 MW_5 rfl (vp_in_nI (n := 4) (by decide) (by decide)) dX6_goPut_2 ?_
  refine lv_rw (z := (page 4)) (congrArg page cl_4) ?_
  refine lv_if_eq (tgt := 13) hx hb dX6_goPut_3 (by decide) (fun c_3 => ?_) (fun c_3 => ?_)
  · rw [if_pos c_3] at hR
    refine lv_iconst (v := (0 : Int32)) hx hb dX6_goPut_13 (by decide) ?_
    subst hR
    exact fin _ _ _ _ dX6_goPut_14 (nar_b (Or.inl rfl)) hP hS
  · rw [if_neg c_3] at hR
    refine lv_aload_n hx hb dX6_goPut_6 rfl (lv_at hl 1 rfl) ?_
    refine lv_iload_n hx hb dX6_goPut_7 rfl (lv_at hl 2 rfl) ?_
    refine va_iald hx hb hK hP 5 0 MW_5 rfl (vp_in_nI (show cc < 7 by omega) (by omega)) dX6_goPut_8 ?_
    refine lv_rw (z := (page cc)) (congrArg page (nI_clamp (show cc < 2 ^ 31 by omega))) ?_
    refine lv_iconst (v := (4 : Int32)) hx hb dX6_goPut_9 (by decide) ?_
    refine lv_icmp_ne (tgt := 15) hx hb dX6_goPut_10 (by decide) (fun c_10 => ?_) (fun c_10 => ?_)
    · rw [if_neg c_10] at hR
      refine lv_aload_n hx hb dX6_goPut_15 rfl (lv_at hl 0 rfl) ?_
      refine lv_iconst (v := (4 : Int32)) hx hb dX6_goPut_16 (by decide) ?_
      refine lv_aload_n hx hb dX6_goPut_17 rfl (lv_at hl 1 rfl) ?_
      refine lv_iload_n hx hb dX6_goPut_18 rfl (lv_at hl 2 rfl) ?_
      refine va_iald hx hb hK hP 5 0 MW_5 rfl (vp_in_nI (show cc < 7 by omega) (by omega)) dX6_goPut_19 ?_
      refine lv_rw (z := (page cc)) (congrArg page (nI_clamp (show cc < 2 ^ 31 by omega))) ?_
      refine lv_imul hx hb dX6_goPut_20 ?_
      refine lv_iload_n hx hb dX6_goPut_21 rfl (lv_at hl 2 rfl) ?_
      refine lv_iadd hx hb dX6_goPut_22 ?_
      refine vRdI (b := (q 0)) (As := [.int (((4 : Int32) * (page cc)) + (nI cc))]) (rest := []) hF (c_X6_partAt l D cI cZ q thrown textSize place stock n readStock readCells readParts acts tried soonMany soonWhich kindMany kindFirst restMany restFirst text lies kind readPart page trial book kept isKept triedAbout triedIs gains value seed (((4 : Int32) * (page cc)) + (nI cc)) hn7) (gdV tm_3_164 tm_3_166 tp_19 tm_1_6 tm_3_167) de_X6_partAt ⟨Nat.le_of_ble_eq_true rfl, Nat.le_of_ble_eq_true rfl⟩ hP hK (va_recv hK hP (ci := 5) (q0 := 0) rfl MW_0) hl.1 rfl (Nat.le_of_ble_eq_true rfl) dX6_goPut_23 ⟨Nat.zero_le _, Nat.zero_le _⟩ ?_
      refine lv_istore_n (lv' := [(3, .int (f_X6_partAt n lies (((4 : Int32) * (page cc)) + (nI cc)))), (0, .ref (q 0)), (1, .ref (q 5)), (2, .int (nI cc))]) hx hb dX6_goPut_26 rfl hl (by decide) rfl (fun ls hl => ?_)
      refine lv_aload_n hx hb dX6_goPut_27 rfl (lv_at hl 2 rfl) ?_
      refine lv_iconst (v := (5 : Int32)) hx hb dX6_goPut_28 (by decide) ?_
      refine lv_dup2_11 hx hb dX6_goPut_29 rfl rfl ?_
      refine va_iald hx hb hK hP 5 0 MW_5 rfl (vp_in_nI (n := 5) (by decide) (by decide)) dX6_goPut_30 ?_
      refine lv_rw (z := (page 5)) (congrArg page cl_5) ?_
      refine lv_iload_n hx hb dX6_goPut_31 rfl (lv_at hl 0 rfl) ?_
      refine lv_bipush (v := (-9 : Int32)) hx hb dX6_goPut_32 (by decide) ?_
      refine lv_icmp_ne (tgt := 41) hx hb dX6_goPut_34 (by decide) (fun c_34 => ?_) (fun c_34 => ?_)
      · rw [if_neg c_34] at hR
        refine lv_iconst (v := (1 : Int32)) hx hb dX6_goPut_41 (by decide) ?_
        refine lv_iload_n hx hb dX6_goPut_42 rfl (lv_at hl 0 rfl) ?_
        refine lv_ishl hx hb dX6_goPut_43 ?_
        refine lv_rw (z := (shl (1 : Int32) (f_X6_partAt n lies (((4 : Int32) * (page cc)) + (nI cc))))) rfl ?_
        refine lv_ior hx hb dX6_goPut_44 ?_
        refine va_iast hx hb hK hP hD hS 5 0 MW_5 rfl (vp_in_nI (n := 5) (by decide) (by decide)) dX6_goPut_45 (fun H locs hP _ hS => ?_)
        have hP : va_P D vwCl (MW cI cZ q thrown textSize place stock (nI n) readStock readCells readParts acts tried soonMany soonWhich kindMany kindFirst restMany restFirst text lies kind readPart (upd page (5 : Int32).toNatClampNeg ((page 5) ||| (shl (1 : Int32) (f_X6_partAt n lies (((4 : Int32) * (page cc)) + (nI cc)))))) trial book kept isKept triedAbout triedIs gains value seed) H := hP
        rw [cl_5] at hP
        have hD : va_D A (MW cI cZ q thrown textSize place stock (nI n) readStock readCells readParts acts tried soonMany soonWhich kindMany kindFirst restMany restFirst text lies kind readPart (upd page 5 ((page 5) ||| (shl (1 : Int32) (f_X6_partAt n lies (((4 : Int32) * (page cc)) + (nI cc)))))) trial book kept isKept triedAbout triedIs gains value seed) := hD.same (MW_ad.trans MW_ad.symm)
        refine lv_aload_n hx hb dX6_goPut_46 rfl (lv_at hl 2 rfl) ?_
        refine lv_iload_n hx hb dX6_goPut_47 rfl (lv_at hl 3 rfl) ?_
        refine lv_dup2_11 hx hb dX6_goPut_48 rfl rfl ?_
        refine va_iald hx hb hK hP 5 0 MW_5 rfl (vp_in_nI (show cc < 7 by omega) (by omega)) dX6_goPut_49 ?_
        refine lv_rw (z := ((upd page 5 ((page 5) ||| (shl (1 : Int32) (f_X6_partAt n lies (((4 : Int32) * (page cc)) + (nI cc)))))) cc)) (congrArg (upd page 5 ((page 5) ||| (shl (1 : Int32) (f_X6_partAt n lies (((4 : Int32) * (page cc)) + (nI cc)))))) (nI_clamp (show cc < 2 ^ 31 by omega))) ?_
        refine lv_iconst (v := (1 : Int32)) hx hb dX6_goPut_50 (by decide) ?_
        refine lv_iadd hx hb dX6_goPut_51 ?_
        refine va_iast hx hb hK hP hD hS 5 0 MW_5 rfl (vp_in_nI (show cc < 7 by omega) (by omega)) dX6_goPut_52 (fun H locs hP _ hS => ?_)
        have hP : va_P D vwCl (MW cI cZ q thrown textSize place stock (nI n) readStock readCells readParts acts tried soonMany soonWhich kindMany kindFirst restMany restFirst text lies kind readPart (upd (upd page 5 ((page 5) ||| (shl (1 : Int32) (f_X6_partAt n lies (((4 : Int32) * (page cc)) + (nI cc)))))) (nI cc).toNatClampNeg (((upd page 5 ((page 5) ||| (shl (1 : Int32) (f_X6_partAt n lies (((4 : Int32) * (page cc)) + (nI cc)))))) cc) + (1 : Int32))) trial book kept isKept triedAbout triedIs gains value seed) H := hP
        rw [(nI_clamp (show cc < 2 ^ 31 by omega))] at hP
        have hD : va_D A (MW cI cZ q thrown textSize place stock (nI n) readStock readCells readParts acts tried soonMany soonWhich kindMany kindFirst restMany restFirst text lies kind readPart (upd (upd page 5 ((page 5) ||| (shl (1 : Int32) (f_X6_partAt n lies (((4 : Int32) * (page cc)) + (nI cc)))))) cc (((upd page 5 ((page 5) ||| (shl (1 : Int32) (f_X6_partAt n lies (((4 : Int32) * (page cc)) + (nI cc)))))) cc) + (1 : Int32))) trial book kept isKept triedAbout triedIs gains value seed) := hD.same (MW_ad.trans MW_ad.symm)
        refine lv_aload_n hx hb dX6_goPut_53 rfl (lv_at hl 2 rfl) ?_
        refine lv_iconst (v := (4 : Int32)) hx hb dX6_goPut_54 (by decide) ?_
        refine lv_dup2_11 hx hb dX6_goPut_55 rfl rfl ?_
        refine va_iald hx hb hK hP 5 0 MW_5 rfl (vp_in_nI (n := 4) (by decide) (by decide)) dX6_goPut_56 ?_
        refine lv_rw (z := ((upd (upd page 5 ((page 5) ||| (shl (1 : Int32) (f_X6_partAt n lies (((4 : Int32) * (page cc)) + (nI cc)))))) cc (((upd page 5 ((page 5) ||| (shl (1 : Int32) (f_X6_partAt n lies (((4 : Int32) * (page cc)) + (nI cc)))))) cc) + (1 : Int32))) 4)) (congrArg (upd (upd page 5 ((page 5) ||| (shl (1 : Int32) (f_X6_partAt n lies (((4 : Int32) * (page cc)) + (nI cc)))))) cc (((upd page 5 ((page 5) ||| (shl (1 : Int32) (f_X6_partAt n lies (((4 : Int32) * (page cc)) + (nI cc)))))) cc) + (1 : Int32))) cl_4) ?_
        refine lv_iconst (v := (1 : Int32)) hx hb dX6_goPut_57 (by decide) ?_
        refine lv_isub hx hb dX6_goPut_58 ?_
        refine va_iast hx hb hK hP hD hS 5 0 MW_5 rfl (vp_in_nI (n := 4) (by decide) (by decide)) dX6_goPut_59 (fun H locs hP _ hS => ?_)
        have hP : va_P D vwCl (MW cI cZ q thrown textSize place stock (nI n) readStock readCells readParts acts tried soonMany soonWhich kindMany kindFirst restMany restFirst text lies kind readPart (upd (upd (upd page 5 ((page 5) ||| (shl (1 : Int32) (f_X6_partAt n lies (((4 : Int32) * (page cc)) + (nI cc)))))) cc (((upd page 5 ((page 5) ||| (shl (1 : Int32) (f_X6_partAt n lies (((4 : Int32) * (page cc)) + (nI cc)))))) cc) + (1 : Int32))) (4 : Int32).toNatClampNeg (((upd (upd page 5 ((page 5) ||| (shl (1 : Int32) (f_X6_partAt n lies (((4 : Int32) * (page cc)) + (nI cc)))))) cc (((upd page 5 ((page 5) ||| (shl (1 : Int32) (f_X6_partAt n lies (((4 : Int32) * (page cc)) + (nI cc)))))) cc) + (1 : Int32))) 4) - (1 : Int32))) trial book kept isKept triedAbout triedIs gains value seed) H := hP
        rw [cl_4] at hP
        have hD : va_D A (MW cI cZ q thrown textSize place stock (nI n) readStock readCells readParts acts tried soonMany soonWhich kindMany kindFirst restMany restFirst text lies kind readPart (upd (upd (upd page 5 ((page 5) ||| (shl (1 : Int32) (f_X6_partAt n lies (((4 : Int32) * (page cc)) + (nI cc)))))) cc (((upd page 5 ((page 5) ||| (shl (1 : Int32) (f_X6_partAt n lies (((4 : Int32) * (page cc)) + (nI cc)))))) cc) + (1 : Int32))) 4 (((upd (upd page 5 ((page 5) ||| (shl (1 : Int32) (f_X6_partAt n lies (((4 : Int32) * (page cc)) + (nI cc)))))) cc (((upd page 5 ((page 5) ||| (shl (1 : Int32) (f_X6_partAt n lies (((4 : Int32) * (page cc)) + (nI cc)))))) cc) + (1 : Int32))) 4) - (1 : Int32))) trial book kept isKept triedAbout triedIs gains value seed) := hD.same (MW_ad.trans MW_ad.symm)
        refine lv_aload_n hx hb dX6_goPut_60 rfl (lv_at hl 1 rfl) ?_
        refine lv_aload_n hx hb dX6_goPut_61 rfl (lv_at hl 2 rfl) ?_
        refine vWrI (b := (q 0)) (As := [.ref (q 5)]) (rest := []) hF (c_X6_settle_page l D cI cZ q thrown textSize place stock n readStock readCells readParts acts tried soonMany soonWhich kindMany kindFirst restMany restFirst text lies kind readPart (upd (upd (upd page 5 ((page 5) ||| (shl (1 : Int32) (f_X6_partAt n lies (((4 : Int32) * (page cc)) + (nI cc)))))) cc (((upd page 5 ((page 5) ||| (shl (1 : Int32) (f_X6_partAt n lies (((4 : Int32) * (page cc)) + (nI cc)))))) cc) + (1 : Int32))) 4 (((upd (upd page 5 ((page 5) ||| (shl (1 : Int32) (f_X6_partAt n lies (((4 : Int32) * (page cc)) + (nI cc)))))) cc (((upd page 5 ((page 5) ||| (shl (1 : Int32) (f_X6_partAt n lies (((4 : Int32) * (page cc)) + (nI cc)))))) cc) + (1 : Int32))) 4) - (1 : Int32))) trial book kept isKept triedAbout triedIs gains value seed hn7 cl hcl) (gdV tm_3_141 tm_3_143 tp_14 tm_1_6 tm_3_144) de_X6_settle ⟨Nat.le_of_ble_eq_true rfl, Nat.le_of_ble_eq_true rfl⟩ hP hK (va_recv hK hP (ci := 5) (q0 := 0) rfl MW_0) hl.1 rfl (Nat.le_of_ble_eq_true rfl) dX6_goPut_62 ⟨Nat.zero_le _, Nat.zero_le _⟩ hD hS (fun H locs hP hS => ?_)
        have hP : va_P D vwCl (MW cI cZ q thrown textSize place stock (nI n) readStock readCells readParts acts tried soonMany soonWhich kindMany kindFirst restMany restFirst text lies kind readPart (f_X6_settle cl n lies kind (upd (upd (upd page 5 ((page 5) ||| (shl (1 : Int32) (f_X6_partAt n lies (((4 : Int32) * (page cc)) + (nI cc)))))) cc (((upd page 5 ((page 5) ||| (shl (1 : Int32) (f_X6_partAt n lies (((4 : Int32) * (page cc)) + (nI cc)))))) cc) + (1 : Int32))) 4 (((upd (upd page 5 ((page 5) ||| (shl (1 : Int32) (f_X6_partAt n lies (((4 : Int32) * (page cc)) + (nI cc)))))) cc (((upd page 5 ((page 5) ||| (shl (1 : Int32) (f_X6_partAt n lies (((4 : Int32) * (page cc)) + (nI cc)))))) cc) + (1 : Int32))) 4) - (1 : Int32)))).2 trial book kept isKept triedAbout triedIs gains value seed) H := hP
        have hD : va_D A (MW cI cZ q thrown textSize place stock (nI n) readStock readCells readParts acts tried soonMany soonWhich kindMany kindFirst restMany restFirst text lies kind readPart (f_X6_settle cl n lies kind (upd (upd (upd page 5 ((page 5) ||| (shl (1 : Int32) (f_X6_partAt n lies (((4 : Int32) * (page cc)) + (nI cc)))))) cc (((upd page 5 ((page 5) ||| (shl (1 : Int32) (f_X6_partAt n lies (((4 : Int32) * (page cc)) + (nI cc)))))) cc) + (1 : Int32))) 4 (((upd (upd page 5 ((page 5) ||| (shl (1 : Int32) (f_X6_partAt n lies (((4 : Int32) * (page cc)) + (nI cc)))))) cc (((upd page 5 ((page 5) ||| (shl (1 : Int32) (f_X6_partAt n lies (((4 : Int32) * (page cc)) + (nI cc)))))) cc) + (1 : Int32))) 4) - (1 : Int32)))).2 trial book kept isKept triedAbout triedIs gains value seed) := hD.same (MW_ad.trans MW_ad.symm)
        refine lv_pop hx hb dX6_goPut_65 rfl ?_
        refine lv_iconst (v := (1 : Int32)) hx hb dX6_goPut_66 (by decide) ?_
        subst hR
        exact fin _ _ _ _ dX6_goPut_67 (nar_b (Or.inr rfl)) hP hS
      · rw [if_pos c_34] at hR
        refine lv_iconst (v := (0 : Int32)) hx hb dX6_goPut_37 (by decide) ?_
        refine lv_goto (tgt := 44) hx hb dX6_goPut_38 (by decide) ?_
        refine lv_ior hx hb dX6_goPut_44 ?_
        refine va_iast hx hb hK hP hD hS 5 0 MW_5 rfl (vp_in_nI (n := 5) (by decide) (by decide)) dX6_goPut_45 (fun H locs hP _ hS => ?_)
        have hP : va_P D vwCl (MW cI cZ q thrown textSize place stock (nI n) readStock readCells readParts acts tried soonMany soonWhich kindMany kindFirst restMany restFirst text lies kind readPart (upd page (5 : Int32).toNatClampNeg ((page 5) ||| (0 : Int32))) trial book kept isKept triedAbout triedIs gains value seed) H := hP
        rw [cl_5] at hP
        have hD : va_D A (MW cI cZ q thrown textSize place stock (nI n) readStock readCells readParts acts tried soonMany soonWhich kindMany kindFirst restMany restFirst text lies kind readPart (upd page 5 ((page 5) ||| (0 : Int32))) trial book kept isKept triedAbout triedIs gains value seed) := hD.same (MW_ad.trans MW_ad.symm)
        refine lv_aload_n hx hb dX6_goPut_46 rfl (lv_at hl 2 rfl) ?_
        refine lv_iload_n hx hb dX6_goPut_47 rfl (lv_at hl 3 rfl) ?_
        refine lv_dup2_11 hx hb dX6_goPut_48 rfl rfl ?_
        refine va_iald hx hb hK hP 5 0 MW_5 rfl (vp_in_nI (show cc < 7 by omega) (by omega)) dX6_goPut_49 ?_
        refine lv_rw (z := ((upd page 5 ((page 5) ||| (0 : Int32))) cc)) (congrArg (upd page 5 ((page 5) ||| (0 : Int32))) (nI_clamp (show cc < 2 ^ 31 by omega))) ?_
        refine lv_iconst (v := (1 : Int32)) hx hb dX6_goPut_50 (by decide) ?_
        refine lv_iadd hx hb dX6_goPut_51 ?_
        refine va_iast hx hb hK hP hD hS 5 0 MW_5 rfl (vp_in_nI (show cc < 7 by omega) (by omega)) dX6_goPut_52 (fun H locs hP _ hS => ?_)
        have hP : va_P D vwCl (MW cI cZ q thrown textSize place stock (nI n) readStock readCells readParts acts tried soonMany soonWhich kindMany kindFirst restMany restFirst text lies kind readPart (upd (upd page 5 ((page 5) ||| (0 : Int32))) (nI cc).toNatClampNeg (((upd page 5 ((page 5) ||| (0 : Int32))) cc) + (1 : Int32))) trial book kept isKept triedAbout triedIs gains value seed) H := hP
        rw [(nI_clamp (show cc < 2 ^ 31 by omega))] at hP
        have hD : va_D A (MW cI cZ q thrown textSize place stock (nI n) readStock readCells readParts acts tried soonMany soonWhich kindMany kindFirst restMany restFirst text lies kind readPart (upd (upd page 5 ((page 5) ||| (0 : Int32))) cc (((upd page 5 ((page 5) ||| (0 : Int32))) cc) + (1 : Int32))) trial book kept isKept triedAbout triedIs gains value seed) := hD.same (MW_ad.trans MW_ad.symm)
        refine lv_aload_n hx hb dX6_goPut_53 rfl (lv_at hl 2 rfl) ?_
        refine lv_iconst (v := (4 : Int32)) hx hb dX6_goPut_54 (by decide) ?_
        refine lv_dup2_11 hx hb dX6_goPut_55 rfl rfl ?_
        refine va_iald hx hb hK hP 5 0 MW_5 rfl (vp_in_nI (n := 4) (by decide) (by decide)) dX6_goPut_56 ?_
        refine lv_rw (z := ((upd (upd page 5 ((page 5) ||| (0 : Int32))) cc (((upd page 5 ((page 5) ||| (0 : Int32))) cc) + (1 : Int32))) 4)) (congrArg (upd (upd page 5 ((page 5) ||| (0 : Int32))) cc (((upd page 5 ((page 5) ||| (0 : Int32))) cc) + (1 : Int32))) cl_4) ?_
        refine lv_iconst (v := (1 : Int32)) hx hb dX6_goPut_57 (by decide) ?_
        refine lv_isub hx hb dX6_goPut_58 ?_
        refine va_iast hx hb hK hP hD hS 5 0 MW_5 rfl (vp_in_nI (n := 4) (by decide) (by decide)) dX6_goPut_59 (fun H locs hP _ hS => ?_)
        have hP : va_P D vwCl (MW cI cZ q thrown textSize place stock (nI n) readStock readCells readParts acts tried soonMany soonWhich kindMany kindFirst restMany restFirst text lies kind readPart (upd (upd (upd page 5 ((page 5) ||| (0 : Int32))) cc (((upd page 5 ((page 5) ||| (0 : Int32))) cc) + (1 : Int32))) (4 : Int32).toNatClampNeg (((upd (upd page 5 ((page 5) ||| (0 : Int32))) cc (((upd page 5 ((page 5) ||| (0 : Int32))) cc) + (1 : Int32))) 4) - (1 : Int32))) trial book kept isKept triedAbout triedIs gains value seed) H := hP
        rw [cl_4] at hP
        have hD : va_D A (MW cI cZ q thrown textSize place stock (nI n) readStock readCells readParts acts tried soonMany soonWhich kindMany kindFirst restMany restFirst text lies kind readPart (upd (upd (upd page 5 ((page 5) ||| (0 : Int32))) cc (((upd page 5 ((page 5) ||| (0 : Int32))) cc) + (1 : Int32))) 4 (((upd (upd page 5 ((page 5) ||| (0 : Int32))) cc (((upd page 5 ((page 5) ||| (0 : Int32))) cc) + (1 : Int32))) 4) - (1 : Int32))) trial book kept isKept triedAbout triedIs gains value seed) := hD.same (MW_ad.trans MW_ad.symm)
        refine lv_aload_n hx hb dX6_goPut_60 rfl (lv_at hl 1 rfl) ?_
        refine lv_aload_n hx hb dX6_goPut_61 rfl (lv_at hl 2 rfl) ?_
        refine vWrI (b := (q 0)) (As := [.ref (q 5)]) (rest := []) hF (c_X6_settle_page l D cI cZ q thrown textSize place stock n readStock readCells readParts acts tried soonMany soonWhich kindMany kindFirst restMany restFirst text lies kind readPart (upd (upd (upd page 5 ((page 5) ||| (0 : Int32))) cc (((upd page 5 ((page 5) ||| (0 : Int32))) cc) + (1 : Int32))) 4 (((upd (upd page 5 ((page 5) ||| (0 : Int32))) cc (((upd page 5 ((page 5) ||| (0 : Int32))) cc) + (1 : Int32))) 4) - (1 : Int32))) trial book kept isKept triedAbout triedIs gains value seed hn7 cl hcl) (gdV tm_3_141 tm_3_143 tp_14 tm_1_6 tm_3_144) de_X6_settle ⟨Nat.le_of_ble_eq_true rfl, Nat.le_of_ble_eq_true rfl⟩ hP hK (va_recv hK hP (ci := 5) (q0 := 0) rfl MW_0) hl.1 rfl (Nat.le_of_ble_eq_true rfl) dX6_goPut_62 ⟨Nat.zero_le _, Nat.zero_le _⟩ hD hS (fun H locs hP hS => ?_)
        have hP : va_P D vwCl (MW cI cZ q thrown textSize place stock (nI n) readStock readCells readParts acts tried soonMany soonWhich kindMany kindFirst restMany restFirst text lies kind readPart (f_X6_settle cl n lies kind (upd (upd (upd page 5 ((page 5) ||| (0 : Int32))) cc (((upd page 5 ((page 5) ||| (0 : Int32))) cc) + (1 : Int32))) 4 (((upd (upd page 5 ((page 5) ||| (0 : Int32))) cc (((upd page 5 ((page 5) ||| (0 : Int32))) cc) + (1 : Int32))) 4) - (1 : Int32)))).2 trial book kept isKept triedAbout triedIs gains value seed) H := hP
        have hD : va_D A (MW cI cZ q thrown textSize place stock (nI n) readStock readCells readParts acts tried soonMany soonWhich kindMany kindFirst restMany restFirst text lies kind readPart (f_X6_settle cl n lies kind (upd (upd (upd page 5 ((page 5) ||| (0 : Int32))) cc (((upd page 5 ((page 5) ||| (0 : Int32))) cc) + (1 : Int32))) 4 (((upd (upd page 5 ((page 5) ||| (0 : Int32))) cc (((upd page 5 ((page 5) ||| (0 : Int32))) cc) + (1 : Int32))) 4) - (1 : Int32)))).2 trial book kept isKept triedAbout triedIs gains value seed) := hD.same (MW_ad.trans MW_ad.symm)
        refine lv_pop hx hb dX6_goPut_65 rfl ?_
        refine lv_iconst (v := (1 : Int32)) hx hb dX6_goPut_66 (by decide) ?_
        subst hR
        exact fin _ _ _ _ dX6_goPut_67 (nar_b (Or.inr rfl)) hP hS
    · rw [if_pos c_10] at hR
      refine lv_iconst (v := (0 : Int32)) hx hb dX6_goPut_13 (by decide) ?_
      subst hR
      exact fin _ _ _ _ dX6_goPut_14 (nar_b (Or.inl rfl)) hP hS
def f_X6_goStrike (cl : Nat → Nat) (n : Nat) (cc : Nat) (lies : Nat → Int32) (kind : Nat → Int32) (trial : Nat → Int32) : (Int32) × (Nat → Int32) := ((f_X6_settle cl n lies kind (upd (upd trial cc ((trial cc) - (1 : Int32))) 4 (((upd trial cc ((trial cc) - (1 : Int32))) 4) + (1 : Int32)))).1, (f_X6_settle cl n lies kind (upd (upd trial cc ((trial cc) - (1 : Int32))) 4 (((upd trial cc ((trial cc) - (1 : Int32))) 4) + (1 : Int32)))).2)
set_option maxHeartbeats 4000000 in
set_option maxRecDepth 100000 in
theorem c_X6_goStrike_trial (l : Launch) (D : va_G) (cI cZ : ClassId) (q : Nat → Nat) (thrown : Int32) (textSize : Int32) (place : Int32) (stock : Int32) (n : Nat) (readStock : Int32) (readCells : Int32) (readParts : Int32) (acts : Int32) (tried : Int32) (soonMany : Int32) (soonWhich : Int32) (kindMany : Int32) (kindFirst : Int32) (restMany : Int32) (restFirst : Int32) (text lies kind readPart page trial book kept isKept triedAbout triedIs gains value : Nat → Int32) (seed : Int64) (cc : Nat) (hn7 : n ≤ 7) (hcc : cc < 4) (cl : Nat → Nat) (hcl : ∀ j, j < 7 → lies j = nI (cl j) ∧ cl j < 16) : WrI l yX6_goStrike cX6_goStrike 3 .int 6 142 D (tyL cI cZ) (MW cI cZ q thrown textSize place stock (nI n) readStock readCells readParts acts tried soonMany soonWhich kindMany kindFirst restMany restFirst text lies kind readPart page trial book kept isKept triedAbout triedIs gains value seed) [.ref (q 0), .ref (q 6), .int (nI cc)] (f_X6_goStrike cl n cc lies kind trial).1 (MW cI cZ q thrown textSize place stock (nI n) readStock readCells readParts acts tried soonMany soonWhich kindMany kindFirst restMany restFirst text lies kind readPart page (f_X6_goStrike cl n cc lies kind trial).2 book kept isKept triedAbout triedIs gains value seed) := by
  refine WrI.of (by decide) (Nat.le_of_ble_eq_true rfl) ?_
  intro p e s m args below meth c Q A hx hb hml hown hts hP hK hD hS fin ls hl
  have hown : s.vm.findClass RX6 = some m.cls := hown
  have hF : CallFix p m c cX6_goStrike 3 s args tb RX6 := ⟨hx, hb, hml, hown, hts⟩
  have hl : lv_has ls 3 [(0, .ref (q 0)), (1, .ref (q 6)), (2, .int (nI cc))] := hl
  generalize hR : (f_X6_goStrike cl n cc lies kind trial) = R at fin
  unfold f_X6_goStrike at hR
  refine lv_aload_n hx hb dX6_goStrike_0 rfl (lv_at hl 1 rfl) ?_
  refine lv_iload_n hx hb dX6_goStrike_1 rfl (lv_at hl 2 rfl) ?_
  refine lv_dup2_11 hx hb dX6_goStrike_2 rfl rfl ?_
  refine va_iald hx hb hK hP 6 0 MW_6 rfl (vp_in_nI (show cc < 7 by omega) (by omega)) dX6_goStrike_3 ?_
  refine lv_rw (z := (trial cc)) (congrArg trial (nI_clamp (show cc < 2 ^ 31 by omega))) ?_
  refine lv_iconst (v := (1 : Int32)) hx hb dX6_goStrike_4 (by decide) ?_
  refine lv_isub hx hb dX6_goStrike_5 ?_
  refine va_iast hx hb hK hP hD hS 6 0 MW_6 rfl (vp_in_nI (show cc < 7 by omega) (by omega)) dX6_goStrike_6 (fun H locs hP _ hS => ?_)
  have hP : va_P D vwCl (MW cI cZ q thrown textSize place stock (nI n) readStock readCells readParts acts tried soonMany soonWhich kindMany kindFirst restMany restFirst text lies kind readPart page (upd trial (nI cc).toNatClampNeg ((trial cc) - (1 : Int32))) book kept isKept triedAbout triedIs gains value seed) H := hP
  rw [(nI_clamp (show cc < 2 ^ 31 by omega))] at hP
  have hD : va_D A (MW cI cZ q thrown textSize place stock (nI n) readStock readCells readParts acts tried soonMany soonWhich kindMany kindFirst restMany restFirst text lies kind readPart page (upd trial cc ((trial cc) - (1 : Int32))) book kept isKept triedAbout triedIs gains value seed) := hD.same (MW_ad.trans MW_ad.symm)
  refine lv_aload_n hx hb dX6_goStrike_7 rfl (lv_at hl 1 rfl) ?_
  refine lv_iconst (v := (4 : Int32)) hx hb dX6_goStrike_8 (by decide) ?_
  refine lv_dup2_11 hx hb dX6_goStrike_9 rfl rfl ?_
  refine va_iald hx hb hK hP 6 0 MW_6 rfl (vp_in_nI (n := 4) (by decide) (by decide)) dX6_goStrike_10 ?_
  refine lv_rw (z := ((upd trial cc ((trial cc) - (1 : Int32))) 4)) (congrArg (upd trial cc ((trial cc) - (1 : Int32))) cl_4) ?_
  refine lv_iconst (v := (1 : Int32)) hx hb dX6_goStrike_11 (by decide) ?_
  refine lv_iadd hx hb dX6_goStrike_12 ?_
  refine va_iast hx hb hK hP hD hS 6 0 MW_6 rfl (vp_in_nI (n := 4) (by decide) (by decide)) dX6_goStrike_13 (fun H locs hP _ hS => ?_)
  have hP : va_P D vwCl (MW cI cZ q thrown textSize place stock (nI n) readStock readCells readParts acts tried soonMany soonWhich kindMany kindFirst restMany restFirst text lies kind readPart page (upd (upd trial cc ((trial cc) - (1 : Int32))) (4 : Int32).toNatClampNeg (((upd trial cc ((trial cc) - (1 : Int32))) 4) + (1 : Int32))) book kept isKept triedAbout triedIs gains value seed) H := hP
  rw [cl_4] at hP
  have hD : va_D A (MW cI cZ q thrown textSize place stock (nI n) readStock readCells readParts acts tried soonMany soonWhich kindMany kindFirst restMany restFirst text lies kind readPart page (upd (upd trial cc ((trial cc) - (1 : Int32))) 4 (((upd trial cc ((trial cc) - (1 : Int32))) 4) + (1 : Int32))) book kept isKept triedAbout triedIs gains value seed) := hD.same (MW_ad.trans MW_ad.symm)
  refine lv_aload_n hx hb dX6_goStrike_14 rfl (lv_at hl 0 rfl) ?_
  refine lv_aload_n hx hb dX6_goStrike_15 rfl (lv_at hl 1 rfl) ?_
  refine vWrI (b := (q 0)) (As := [.ref (q 6)]) (rest := []) hF (c_X6_settle_trial l D cI cZ q thrown textSize place stock n readStock readCells readParts acts tried soonMany soonWhich kindMany kindFirst restMany restFirst text lies kind readPart page (upd (upd trial cc ((trial cc) - (1 : Int32))) 4 (((upd trial cc ((trial cc) - (1 : Int32))) 4) + (1 : Int32))) book kept isKept triedAbout triedIs gains value seed hn7 cl hcl) (gdV tm_3_141 tm_3_143 tp_14 tm_1_6 tm_3_144) de_X6_settle ⟨Nat.le_of_ble_eq_true rfl, Nat.le_of_ble_eq_true rfl⟩ hP hK (va_recv hK hP (ci := 5) (q0 := 0) rfl MW_0) hl.1 rfl (Nat.le_of_ble_eq_true rfl) dX6_goStrike_16 ⟨Nat.zero_le _, Nat.zero_le _⟩ hD hS (fun H locs hP hS => ?_)
  have hP : va_P D vwCl (MW cI cZ q thrown textSize place stock (nI n) readStock readCells readParts acts tried soonMany soonWhich kindMany kindFirst restMany restFirst text lies kind readPart page (f_X6_settle cl n lies kind (upd (upd trial cc ((trial cc) - (1 : Int32))) 4 (((upd trial cc ((trial cc) - (1 : Int32))) 4) + (1 : Int32)))).2 book kept isKept triedAbout triedIs gains value seed) H := hP
  have hD : va_D A (MW cI cZ q thrown textSize place stock (nI n) readStock readCells readParts acts tried soonMany soonWhich kindMany kindFirst restMany restFirst text lies kind readPart page (f_X6_settle cl n lies kind (upd (upd trial cc ((trial cc) - (1 : Int32))) 4 (((upd trial cc ((trial cc) - (1 : Int32))) 4) + (1 : Int32)))).2 book kept isKept triedAbout triedIs gains value seed) := hD.same (MW_ad.trans MW_ad.symm)
  subst hR
  exact fin _ _ _ _ dX6_goStrike_19 (nar_i _) hP hS
set_option maxHeartbeats 4000000 in
set_option maxRecDepth 100000 in
theorem c_X6_goStrike_page (l : Launch) (D : va_G) (cI cZ : ClassId) (q : Nat → Nat) (thrown : Int32) (textSize : Int32) (place : Int32) (stock : Int32) (n : Nat) (readStock : Int32) (readCells : Int32) (readParts : Int32) (acts : Int32) (tried : Int32) (soonMany : Int32) (soonWhich : Int32) (kindMany : Int32) (kindFirst : Int32) (restMany : Int32) (restFirst : Int32) (text lies kind readPart page trial book kept isKept triedAbout triedIs gains value : Nat → Int32) (seed : Int64) (cc : Nat) (hn7 : n ≤ 7) (hcc : cc < 4) (cl : Nat → Nat) (hcl : ∀ j, j < 7 → lies j = nI (cl j) ∧ cl j < 16) : WrI l yX6_goStrike cX6_goStrike 3 .int 6 142 D (tyL cI cZ) (MW cI cZ q thrown textSize place stock (nI n) readStock readCells readParts acts tried soonMany soonWhich kindMany kindFirst restMany restFirst text lies kind readPart page trial book kept isKept triedAbout triedIs gains value seed) [.ref (q 0), .ref (q 5), .int (nI cc)] (f_X6_goStrike cl n cc lies kind page).1 (MW cI cZ q thrown textSize place stock (nI n) readStock readCells readParts acts tried soonMany soonWhich kindMany kindFirst restMany restFirst text lies kind readPart (f_X6_goStrike cl n cc lies kind page).2 trial book kept isKept triedAbout triedIs gains value seed) := by
  refine WrI.of (by decide) (Nat.le_of_ble_eq_true rfl) ?_
  intro p e s m args below meth c Q A hx hb hml hown hts hP hK hD hS fin ls hl
  have hown : s.vm.findClass RX6 = some m.cls := hown
  have hF : CallFix p m c cX6_goStrike 3 s args tb RX6 := ⟨hx, hb, hml, hown, hts⟩
  have hl : lv_has ls 3 [(0, .ref (q 0)), (1, .ref (q 5)), (2, .int (nI cc))] := hl
  generalize hR : (f_X6_goStrike cl n cc lies kind page) = R at fin
  unfold f_X6_goStrike at hR
  refine lv_aload_n hx hb dX6_goStrike_0 rfl (lv_at hl 1 rfl) ?_
  refine lv_iload_n hx hb dX6_goStrike_1 rfl (lv_at hl 2 rfl) ?_
  refine lv_dup2_11 hx hb dX6_goStrike_2 rfl rfl ?_
  refine va_iald hx hb hK hP 5 0 MW_5 rfl (vp_in_nI (show cc < 7 by omega) (by omega)) dX6_goStrike_3 ?_
  refine lv_rw (z := (page cc)) (congrArg page (nI_clamp (show cc < 2 ^ 31 by omega))) ?_
  refine lv_iconst (v := (1 : Int32)) hx hb dX6_goStrike_4 (by decide) ?_
  refine lv_isub hx hb dX6_goStrike_5 ?_
  refine va_iast hx hb hK hP hD hS 5 0 MW_5 rfl (vp_in_nI (show cc < 7 by omega) (by omega)) dX6_goStrike_6 (fun H locs hP _ hS => ?_)
  have hP : va_P D vwCl (MW cI cZ q thrown textSize place stock (nI n) readStock readCells readParts acts tried soonMany soonWhich kindMany kindFirst restMany restFirst text lies kind readPart (upd page (nI cc).toNatClampNeg ((page cc) - (1 : Int32))) trial book kept isKept triedAbout triedIs gains value seed) H := hP
  rw [(nI_clamp (show cc < 2 ^ 31 by omega))] at hP
  have hD : va_D A (MW cI cZ q thrown textSize place stock (nI n) readStock readCells readParts acts tried soonMany soonWhich kindMany kindFirst restMany restFirst text lies kind readPart (upd page cc ((page cc) - (1 : Int32))) trial book kept isKept triedAbout triedIs gains value seed) := hD.same (MW_ad.trans MW_ad.symm)
  refine lv_aload_n hx hb dX6_goStrike_7 rfl (lv_at hl 1 rfl) ?_
  refine lv_iconst (v := (4 : Int32)) hx hb dX6_goStrike_8 (by decide) ?_
  refine lv_dup2_11 hx hb dX6_goStrike_9 rfl rfl ?_
  refine va_iald hx hb hK hP 5 0 MW_5 rfl (vp_in_nI (n := 4) (by decide) (by decide)) dX6_goStrike_10 ?_
  refine lv_rw (z := ((upd page cc ((page cc) - (1 : Int32))) 4)) (congrArg (upd page cc ((page cc) - (1 : Int32))) cl_4) ?_
  refine lv_iconst (v := (1 : Int32)) hx hb dX6_goStrike_11 (by decide) ?_
  refine lv_iadd hx hb dX6_goStrike_12 ?_
  refine va_iast hx hb hK hP hD hS 5 0 MW_5 rfl (vp_in_nI (n := 4) (by decide) (by decide)) dX6_goStrike_13 (fun H locs hP _ hS => ?_)
  have hP : va_P D vwCl (MW cI cZ q thrown textSize place stock (nI n) readStock readCells readParts acts tried soonMany soonWhich kindMany kindFirst restMany restFirst text lies kind readPart (upd (upd page cc ((page cc) - (1 : Int32))) (4 : Int32).toNatClampNeg (((upd page cc ((page cc) - (1 : Int32))) 4) + (1 : Int32))) trial book kept isKept triedAbout triedIs gains value seed) H := hP
  rw [cl_4] at hP
  have hD : va_D A (MW cI cZ q thrown textSize place stock (nI n) readStock readCells readParts acts tried soonMany soonWhich kindMany kindFirst restMany restFirst text lies kind readPart (upd (upd page cc ((page cc) - (1 : Int32))) 4 (((upd page cc ((page cc) - (1 : Int32))) 4) + (1 : Int32))) trial book kept isKept triedAbout triedIs gains value seed) := hD.same (MW_ad.trans MW_ad.symm)
  refine lv_aload_n hx hb dX6_goStrike_14 rfl (lv_at hl 0 rfl) ?_
  refine lv_aload_n hx hb dX6_goStrike_15 rfl (lv_at hl 1 rfl) ?_
  refine vWrI (b := (q 0)) (As := [.ref (q 5)]) (rest := []) hF (c_X6_settle_page l D cI cZ q thrown textSize place stock n readStock readCells readParts acts tried soonMany soonWhich kindMany kindFirst restMany restFirst text lies kind readPart (upd (upd page cc ((page cc) - (1 : Int32))) 4 (((upd page cc ((page cc) - (1 : Int32))) 4) + (1 : Int32))) trial book kept isKept triedAbout triedIs gains value seed hn7 cl hcl) (gdV tm_3_141 tm_3_143 tp_14 tm_1_6 tm_3_144) de_X6_settle ⟨Nat.le_of_ble_eq_true rfl, Nat.le_of_ble_eq_true rfl⟩ hP hK (va_recv hK hP (ci := 5) (q0 := 0) rfl MW_0) hl.1 rfl (Nat.le_of_ble_eq_true rfl) dX6_goStrike_16 ⟨Nat.zero_le _, Nat.zero_le _⟩ hD hS (fun H locs hP hS => ?_)
  have hP : va_P D vwCl (MW cI cZ q thrown textSize place stock (nI n) readStock readCells readParts acts tried soonMany soonWhich kindMany kindFirst restMany restFirst text lies kind readPart (f_X6_settle cl n lies kind (upd (upd page cc ((page cc) - (1 : Int32))) 4 (((upd page cc ((page cc) - (1 : Int32))) 4) + (1 : Int32)))).2 trial book kept isKept triedAbout triedIs gains value seed) H := hP
  have hD : va_D A (MW cI cZ q thrown textSize place stock (nI n) readStock readCells readParts acts tried soonMany soonWhich kindMany kindFirst restMany restFirst text lies kind readPart (f_X6_settle cl n lies kind (upd (upd page cc ((page cc) - (1 : Int32))) 4 (((upd page cc ((page cc) - (1 : Int32))) 4) + (1 : Int32)))).2 trial book kept isKept triedAbout triedIs gains value seed) := hD.same (MW_ad.trans MW_ad.symm)
  subst hR
  exact fin _ _ _ _ dX6_goStrike_19 (nar_i _) hP hS
def f_X6_goRain_l6 (cl : Nat → Nat) (kind : Nat → Int32) : Nat → Nat → (Nat → Int32) → Nat → Int32
  | 0, i_6, g6 => g6
  | d_6 + 1, i_6, g6 => (if (kind i_6) = (3 : Int32) then (if (f_X6_hasPole cl i_6 g6) = (0 : Int32) then (f_X6_goRain_l6 cl kind d_6 (i_6 + 1) (upd g6 5 ((g6 5) &&& ((shl (1 : Int32) (nI i_6)) ^^^ (-1 : Int32))))) else (f_X6_goRain_l6 cl kind d_6 (i_6 + 1) (upd g6 5 ((g6 5) &&& (-1 : Int32))))) else (f_X6_goRain_l6 cl kind d_6 (i_6 + 1) (upd g6 5 ((g6 5) &&& (-1 : Int32)))))
theorem f_X6_goRain_l6_z {cl : Nat → Nat} {kind : Nat → Int32} {i_6 : Nat} {g6 : Nat → Int32} : f_X6_goRain_l6 cl kind 0 i_6 g6 = g6 := by rw [f_X6_goRain_l6]
theorem f_X6_goRain_l6_s {cl : Nat → Nat} {kind : Nat → Int32} {d_6 : Nat} {i_6 : Nat} {g6 : Nat → Int32} : f_X6_goRain_l6 cl kind (d_6 + 1) i_6 g6 = (if (kind i_6) = (3 : Int32) then (if (f_X6_hasPole cl i_6 g6) = (0 : Int32) then (f_X6_goRain_l6 cl kind d_6 (i_6 + 1) (upd g6 5 ((g6 5) &&& ((shl (1 : Int32) (nI i_6)) ^^^ (-1 : Int32))))) else (f_X6_goRain_l6 cl kind d_6 (i_6 + 1) (upd g6 5 ((g6 5) &&& (-1 : Int32))))) else (f_X6_goRain_l6 cl kind d_6 (i_6 + 1) (upd g6 5 ((g6 5) &&& (-1 : Int32))))) := by rw [f_X6_goRain_l6]
def f_X6_goRain (cl : Nat → Nat) (n : Nat) (lies : Nat → Int32) (kind : Nat → Int32) (trial : Nat → Int32) : (Int32) × (Nat → Int32) := (((f_X6_many (trial 5)) - (f_X6_many ((upd (f_X6_settle cl n lies kind (f_X6_goRain_l6 cl kind n 0 trial)).2 6 (((f_X6_settle cl n lies kind (f_X6_goRain_l6 cl kind n 0 trial)).2 6) + (1 : Int32))) 5))), (upd (f_X6_settle cl n lies kind (f_X6_goRain_l6 cl kind n 0 trial)).2 6 (((f_X6_settle cl n lies kind (f_X6_goRain_l6 cl kind n 0 trial)).2 6) + (1 : Int32))))
set_option maxHeartbeats 4000000 in
set_option maxRecDepth 100000 in
theorem c_X6_goRain_trial (l : Launch) (D : va_G) (cI cZ : ClassId) (q : Nat → Nat) (thrown : Int32) (textSize : Int32) (place : Int32) (stock : Int32) (n : Nat) (readStock : Int32) (readCells : Int32) (readParts : Int32) (acts : Int32) (tried : Int32) (soonMany : Int32) (soonWhich : Int32) (kindMany : Int32) (kindFirst : Int32) (restMany : Int32) (restFirst : Int32) (text lies kind readPart page trial book kept isKept triedAbout triedIs gains value : Nat → Int32) (seed : Int64) (hn7 : n ≤ 7) (cl : Nat → Nat) (hcl : ∀ j, j < 7 → lies j = nI (cl j) ∧ cl j < 16) : WrI l yX6_goRain cX6_goRain 4 .int 6 142 D (tyL cI cZ) (MW cI cZ q thrown textSize place stock (nI n) readStock readCells readParts acts tried soonMany soonWhich kindMany kindFirst restMany restFirst text lies kind readPart page trial book kept isKept triedAbout triedIs gains value seed) [.ref (q 0), .ref (q 6)] (f_X6_goRain cl n lies kind trial).1 (MW cI cZ q thrown textSize place stock (nI n) readStock readCells readParts acts tried soonMany soonWhich kindMany kindFirst restMany restFirst text lies kind readPart page (f_X6_goRain cl n lies kind trial).2 book kept isKept triedAbout triedIs gains value seed) := by
  refine WrI.of (by decide) (Nat.le_of_ble_eq_true rfl) ?_
  intro p e s m args below meth c Q A hx hb hml hown hts hP hK hD hS fin ls hl
  have hown : s.vm.findClass RX6 = some m.cls := hown
  have hF : CallFix p m c cX6_goRain 4 s args tb RX6 := ⟨hx, hb, hml, hown, hts⟩
  have hl : lv_has ls 4 [(0, .ref (q 0)), (1, .ref (q 6))] := hl
  generalize hR : (f_X6_goRain cl n lies kind trial) = R at fin
  unfold f_X6_goRain at hR
  refine lv_aload_n hx hb dX6_goRain_0 rfl (lv_at hl 1 rfl) ?_
  refine lv_iconst (v := (5 : Int32)) hx hb dX6_goRain_1 (by decide) ?_
  refine va_iald hx hb hK hP 6 0 MW_6 rfl (vp_in_nI (n := 5) (by decide) (by decide)) dX6_goRain_2 ?_
  refine lv_rw (z := (trial 5)) (congrArg trial cl_5) ?_
  refine lv_istore_n (lv' := [(2, .int (trial 5)), (0, .ref (q 0)), (1, .ref (q 6))]) hx hb dX6_goRain_3 rfl hl (by decide) rfl (fun ls hl => ?_)
  refine lv_iconst (v := (0 : Int32)) hx hb dX6_goRain_4 (by decide) ?_
  refine lv_istore_n (lv' := [(3, .int (0 : Int32)), (2, .int (trial 5)), (0, .ref (q 0)), (1, .ref (q 6))]) hx hb dX6_goRain_5 rfl hl (by decide) rfl (fun ls hl => ?_)
  obtain ⟨T_6, hT_6⟩ : ∃ z, f_X6_goRain_l6 cl kind n 0 trial = z := ⟨_, rfl⟩
  rw [hT_6] at hR
  have key_6 : ∀ (d_6 i_6 : Nat) (g6 : Nat → Int32) (ls : Array Slot) (H : Heap) (locs : List Loc), i_6 + d_6 = n → f_X6_goRain_l6 cl kind d_6 i_6 g6 = T_6 → lv_has ls 4 [(3, .int (nI i_6)), (2, .int (trial 5)), (0, .ref (q 0)), (1, .ref (q 6))] → va_P D vwCl (MW cI cZ q thrown textSize place stock (nI n) readStock readCells readParts acts tried soonMany soonWhich kindMany kindFirst restMany restFirst text lies kind readPart page g6 book kept isKept triedAbout triedIs gains value seed) H → va_S A s.heap H locs → W p l e (rmO 6 142) s m args below meth c H locs 0 0 Q (F0 m 6 ls []) := by
    intro d_6
    induction d_6 with
    | zero =>
      intro i_6 g6 ls H locs hi_6 hT_6 hl hP hS
      have hD : va_D A (MW cI cZ q thrown textSize place stock (nI n) readStock readCells readParts acts tried soonMany soonWhich kindMany kindFirst restMany restFirst text lies kind readPart page g6 book kept isKept triedAbout triedIs gains value seed) := hD.same (MW_ad.trans MW_ad.symm)
      rw [f_X6_goRain_l6_z] at hT_6
      refine lv_iload_n hx hb dX6_goRain_6 rfl (lv_at hl 0 rfl) ?_
      refine lv_aload_n hx hb dX6_goRain_7 rfl (lv_at hl 2 rfl) ?_
      refine va_get (D := D) (ci := 5) (v := .int (nI n)) (C := RX6) (T := TX6) (N := 30) hx hb hts tbX6 hown hK hP 0 MW_0 rfl 5 (by decide) (hts _ tm_3_6) (fun _ h9 => h9) rfl dX6_goRain_8 ?_
      refine lv_icmp_ge (tgt := 54) hx hb dX6_goRain_11 (by decide) (fun c_11 => ?_) (fun c_11 => absurd (nI_le  (by omega) (by omega)) c_11)
      subst hT_6
      try dsimp only at hR
      refine lv_aload_n hx hb dX6_goRain_54 rfl (lv_at hl 2 rfl) ?_
      refine lv_aload_n hx hb dX6_goRain_55 rfl (lv_at hl 3 rfl) ?_
      refine vWrI (b := (q 0)) (As := [.ref (q 6)]) (rest := []) hF (c_X6_settle_trial l D cI cZ q thrown textSize place stock n readStock readCells readParts acts tried soonMany soonWhich kindMany kindFirst restMany restFirst text lies kind readPart page g6 book kept isKept triedAbout triedIs gains value seed hn7 cl hcl) (gdV tm_3_141 tm_3_143 tp_14 tm_1_6 tm_3_144) de_X6_settle ⟨Nat.le_of_ble_eq_true rfl, Nat.le_of_ble_eq_true rfl⟩ hP hK (va_recv hK hP (ci := 5) (q0 := 0) rfl MW_0) hl.1 rfl (Nat.le_of_ble_eq_true rfl) dX6_goRain_56 ⟨Nat.zero_le _, Nat.zero_le _⟩ hD hS (fun H locs hP hS => ?_)
      have hP : va_P D vwCl (MW cI cZ q thrown textSize place stock (nI n) readStock readCells readParts acts tried soonMany soonWhich kindMany kindFirst restMany restFirst text lies kind readPart page (f_X6_settle cl n lies kind g6).2 book kept isKept triedAbout triedIs gains value seed) H := hP
      have hD : va_D A (MW cI cZ q thrown textSize place stock (nI n) readStock readCells readParts acts tried soonMany soonWhich kindMany kindFirst restMany restFirst text lies kind readPart page (f_X6_settle cl n lies kind g6).2 book kept isKept triedAbout triedIs gains value seed) := hD.same (MW_ad.trans MW_ad.symm)
      refine lv_pop hx hb dX6_goRain_59 rfl ?_
      refine lv_aload_n hx hb dX6_goRain_60 rfl (lv_at hl 3 rfl) ?_
      refine lv_bipush (v := (6 : Int32)) hx hb dX6_goRain_61 (by decide) ?_
      refine lv_dup2_11 hx hb dX6_goRain_63 rfl rfl ?_
      refine va_iald hx hb hK hP 6 0 MW_6 rfl (vp_in_nI (n := 6) (by decide) (by decide)) dX6_goRain_64 ?_
      refine lv_rw (z := ((f_X6_settle cl n lies kind g6).2 6)) (congrArg (f_X6_settle cl n lies kind g6).2 cl_6) ?_
      refine lv_iconst (v := (1 : Int32)) hx hb dX6_goRain_65 (by decide) ?_
      refine lv_iadd hx hb dX6_goRain_66 ?_
      refine va_iast hx hb hK hP hD hS 6 0 MW_6 rfl (vp_in_nI (n := 6) (by decide) (by decide)) dX6_goRain_67 (fun H locs hP _ hS => ?_)
      have hP : va_P D vwCl (MW cI cZ q thrown textSize place stock (nI n) readStock readCells readParts acts tried soonMany soonWhich kindMany kindFirst restMany restFirst text lies kind readPart page (upd (f_X6_settle cl n lies kind g6).2 (6 : Int32).toNatClampNeg (((f_X6_settle cl n lies kind g6).2 6) + (1 : Int32))) book kept isKept triedAbout triedIs gains value seed) H := hP
      rw [cl_6] at hP
      have hD : va_D A (MW cI cZ q thrown textSize place stock (nI n) readStock readCells readParts acts tried soonMany soonWhich kindMany kindFirst restMany restFirst text lies kind readPart page (upd (f_X6_settle cl n lies kind g6).2 6 (((f_X6_settle cl n lies kind g6).2 6) + (1 : Int32))) book kept isKept triedAbout triedIs gains value seed) := hD.same (MW_ad.trans MW_ad.symm)
      refine lv_iload_n hx hb dX6_goRain_68 rfl (lv_at hl 1 rfl) ?_
      refine sRdI (As := [.int (trial 5)]) (rest := []) hF (c_X6_many l D cI cZ q (trial 5)) (gdS tm_3_171 tm_3_172 tm_1_6 tm_3_173) de_X6_many ⟨Nat.le_of_ble_eq_true rfl, Nat.le_of_ble_eq_true rfl⟩ va_P_nil hK hl.1 rfl (Nat.le_of_ble_eq_true rfl) dX6_goRain_69 ⟨Nat.zero_le _, Nat.zero_le _⟩ ?_
      refine lv_aload_n hx hb dX6_goRain_72 rfl (lv_at hl 3 rfl) ?_
      refine lv_iconst (v := (5 : Int32)) hx hb dX6_goRain_73 (by decide) ?_
      refine va_iald hx hb hK hP 6 0 MW_6 rfl (vp_in_nI (n := 5) (by decide) (by decide)) dX6_goRain_74 ?_
      refine lv_rw (z := ((upd (f_X6_settle cl n lies kind g6).2 6 (((f_X6_settle cl n lies kind g6).2 6) + (1 : Int32))) 5)) (congrArg (upd (f_X6_settle cl n lies kind g6).2 6 (((f_X6_settle cl n lies kind g6).2 6) + (1 : Int32))) cl_5) ?_
      refine sRdI (As := [.int ((upd (f_X6_settle cl n lies kind g6).2 6 (((f_X6_settle cl n lies kind g6).2 6) + (1 : Int32))) 5)]) (rest := [.int (f_X6_many (trial 5))]) hF (c_X6_many l D cI cZ q ((upd (f_X6_settle cl n lies kind g6).2 6 (((f_X6_settle cl n lies kind g6).2 6) + (1 : Int32))) 5)) (gdS tm_3_171 tm_3_172 tm_1_6 tm_3_173) de_X6_many ⟨Nat.le_of_ble_eq_true rfl, Nat.le_of_ble_eq_true rfl⟩ va_P_nil hK hl.1 rfl (Nat.le_of_ble_eq_true rfl) dX6_goRain_75 ⟨Nat.zero_le _, Nat.zero_le _⟩ ?_
      refine lv_isub hx hb dX6_goRain_78 ?_
      subst hR
      exact fin _ _ _ _ dX6_goRain_79 (nar_i _) hP hS
    | succ d_6 ih_6 =>
      intro i_6 g6 ls H locs hi_6 hT_6 hl hP hS
      have hD : va_D A (MW cI cZ q thrown textSize place stock (nI n) readStock readCells readParts acts tried soonMany soonWhich kindMany kindFirst restMany restFirst text lies kind readPart page g6 book kept isKept triedAbout triedIs gains value seed) := hD.same (MW_ad.trans MW_ad.symm)
      rw [f_X6_goRain_l6_s] at hT_6
      refine lv_iload_n hx hb dX6_goRain_6 rfl (lv_at hl 0 rfl) ?_
      refine lv_aload_n hx hb dX6_goRain_7 rfl (lv_at hl 2 rfl) ?_
      refine va_get (D := D) (ci := 5) (v := .int (nI n)) (C := RX6) (T := TX6) (N := 30) hx hb hts tbX6 hown hK hP 0 MW_0 rfl 5 (by decide) (hts _ tm_3_6) (fun _ h9 => h9) rfl dX6_goRain_8 ?_
      refine lv_icmp_ge (tgt := 54) hx hb dX6_goRain_11 (by decide) (fun c_11 => absurd c_11 (nI_ge  (by omega) (by omega))) (fun c_11 => ?_)
      refine lv_aload_n hx hb dX6_goRain_14 rfl (lv_at hl 3 rfl) ?_
      refine lv_iconst (v := (5 : Int32)) hx hb dX6_goRain_15 (by decide) ?_
      refine lv_dup2_11 hx hb dX6_goRain_16 rfl rfl ?_
      refine va_iald hx hb hK hP 6 0 MW_6 rfl (vp_in_nI (n := 5) (by decide) (by decide)) dX6_goRain_17 ?_
      refine lv_rw (z := (g6 5)) (congrArg g6 cl_5) ?_
      refine lv_aload_n hx hb dX6_goRain_18 rfl (lv_at hl 2 rfl) ?_
      refine va_get (D := D) (ci := 5) (v := .ref (q 3)) (C := RX6) (T := TX6) (N := 30) hx hb hts tbX6 hown hK hP 0 MW_0 rfl 7 (by decide) (hts _ tm_3_8) (fun _ h9 => h9) rfl dX6_goRain_19 ?_
      refine lv_iload_n hx hb dX6_goRain_22 rfl (lv_at hl 0 rfl) ?_
      refine va_iald hx hb hK hP 3 0 MW_3 rfl (vp_in_nI (show i_6 < 7 by omega) (by omega)) dX6_goRain_23 ?_
      refine lv_rw (z := (kind i_6)) (congrArg kind (nI_clamp (show i_6 < 2 ^ 31 by omega))) ?_
      refine lv_iconst (v := (3 : Int32)) hx hb dX6_goRain_24 (by decide) ?_
      refine lv_icmp_ne (tgt := 45) hx hb dX6_goRain_25 (by decide) (fun c_25 => ?_) (fun c_25 => ?_)
      · rw [if_neg c_25] at hT_6
        refine lv_iconst (v := (-1 : Int32)) hx hb dX6_goRain_45 (by decide) ?_
        refine lv_iand hx hb dX6_goRain_46 ?_
        refine va_iast hx hb hK hP hD hS 6 0 MW_6 rfl (vp_in_nI (n := 5) (by decide) (by decide)) dX6_goRain_47 (fun H locs hP _ hS => ?_)
        have hP : va_P D vwCl (MW cI cZ q thrown textSize place stock (nI n) readStock readCells readParts acts tried soonMany soonWhich kindMany kindFirst restMany restFirst text lies kind readPart page (upd g6 (5 : Int32).toNatClampNeg ((g6 5) &&& (-1 : Int32))) book kept isKept triedAbout triedIs gains value seed) H := hP
        rw [cl_5] at hP
        have hD : va_D A (MW cI cZ q thrown textSize place stock (nI n) readStock readCells readParts acts tried soonMany soonWhich kindMany kindFirst restMany restFirst text lies kind readPart page (upd g6 5 ((g6 5) &&& (-1 : Int32))) book kept isKept triedAbout triedIs gains value seed) := hD.same (MW_ad.trans MW_ad.symm)
        refine lv_iinc (v := (nI (i_6 + 1))) (lv' := [(3, .int (nI (i_6 + 1))), (2, .int (trial 5)), (0, .ref (q 0)), (1, .ref (q 6))]) hx hb dX6_goRain_48 hl (k := 0) rfl (nI_up i_6) (by decide) rfl (fun ls hl => ?_)
        refine lv_goto (tgt := 6) hx hb dX6_goRain_51 (by decide) ?_
        exact ih_6 (i_6 + 1) (upd g6 5 ((g6 5) &&& (-1 : Int32))) ls _ _ (by omega) hT_6 (lv_sub hl [0, 1, 2, 3] rfl) hP hS
      · rw [if_pos c_25] at hT_6
        refine lv_aload_n hx hb dX6_goRain_28 rfl (lv_at hl 2 rfl) ?_
        refine lv_aload_n hx hb dX6_goRain_29 rfl (lv_at hl 3 rfl) ?_
        refine lv_iload_n hx hb dX6_goRain_30 rfl (lv_at hl 0 rfl) ?_
        refine vRdI (b := (q 0)) (As := [.ref (q 6), .int (nI i_6)]) (rest := [.int (g6 5), .int (5 : Int32), .ref (q 6)]) hF (c_X6_hasPole l D cI cZ q thrown textSize place stock n readStock readCells readParts acts tried soonMany soonWhich kindMany kindFirst restMany restFirst text lies kind readPart page g6 book kept isKept triedAbout triedIs gains value seed 6 (q 6) g6 MW_6 i_6 (by omega) cl hcl) (gdV tm_3_153 tm_3_155 tp_17 tm_1_6 tm_3_156) de_X6_hasPole ⟨Nat.le_of_ble_eq_true rfl, Nat.le_of_ble_eq_true rfl⟩ hP hK (va_recv hK hP (ci := 5) (q0 := 0) rfl MW_0) hl.1 rfl (Nat.le_of_ble_eq_true rfl) dX6_goRain_31 ⟨Nat.zero_le _, Nat.zero_le _⟩ ?_
        refine lv_if_ne (tgt := 45) hx hb dX6_goRain_34 (by decide) (fun c_34 => ?_) (fun c_34 => ?_)
        · rw [if_neg c_34] at hT_6
          refine lv_iconst (v := (-1 : Int32)) hx hb dX6_goRain_45 (by decide) ?_
          refine lv_iand hx hb dX6_goRain_46 ?_
          refine va_iast hx hb hK hP hD hS 6 0 MW_6 rfl (vp_in_nI (n := 5) (by decide) (by decide)) dX6_goRain_47 (fun H locs hP _ hS => ?_)
          have hP : va_P D vwCl (MW cI cZ q thrown textSize place stock (nI n) readStock readCells readParts acts tried soonMany soonWhich kindMany kindFirst restMany restFirst text lies kind readPart page (upd g6 (5 : Int32).toNatClampNeg ((g6 5) &&& (-1 : Int32))) book kept isKept triedAbout triedIs gains value seed) H := hP
          rw [cl_5] at hP
          have hD : va_D A (MW cI cZ q thrown textSize place stock (nI n) readStock readCells readParts acts tried soonMany soonWhich kindMany kindFirst restMany restFirst text lies kind readPart page (upd g6 5 ((g6 5) &&& (-1 : Int32))) book kept isKept triedAbout triedIs gains value seed) := hD.same (MW_ad.trans MW_ad.symm)
          refine lv_iinc (v := (nI (i_6 + 1))) (lv' := [(3, .int (nI (i_6 + 1))), (2, .int (trial 5)), (0, .ref (q 0)), (1, .ref (q 6))]) hx hb dX6_goRain_48 hl (k := 0) rfl (nI_up i_6) (by decide) rfl (fun ls hl => ?_)
          refine lv_goto (tgt := 6) hx hb dX6_goRain_51 (by decide) ?_
          exact ih_6 (i_6 + 1) (upd g6 5 ((g6 5) &&& (-1 : Int32))) ls _ _ (by omega) hT_6 (lv_sub hl [0, 1, 2, 3] rfl) hP hS
        · rw [if_pos c_34] at hT_6
          refine lv_iconst (v := (1 : Int32)) hx hb dX6_goRain_37 (by decide) ?_
          refine lv_iload_n hx hb dX6_goRain_38 rfl (lv_at hl 0 rfl) ?_
          refine lv_ishl hx hb dX6_goRain_39 ?_
          refine lv_rw (z := (shl (1 : Int32) (nI i_6))) rfl ?_
          refine lv_iconst (v := (-1 : Int32)) hx hb dX6_goRain_40 (by decide) ?_
          refine lv_ixor hx hb dX6_goRain_41 ?_
          refine lv_goto (tgt := 46) hx hb dX6_goRain_42 (by decide) ?_
          refine lv_iand hx hb dX6_goRain_46 ?_
          refine va_iast hx hb hK hP hD hS 6 0 MW_6 rfl (vp_in_nI (n := 5) (by decide) (by decide)) dX6_goRain_47 (fun H locs hP _ hS => ?_)
          have hP : va_P D vwCl (MW cI cZ q thrown textSize place stock (nI n) readStock readCells readParts acts tried soonMany soonWhich kindMany kindFirst restMany restFirst text lies kind readPart page (upd g6 (5 : Int32).toNatClampNeg ((g6 5) &&& ((shl (1 : Int32) (nI i_6)) ^^^ (-1 : Int32)))) book kept isKept triedAbout triedIs gains value seed) H := hP
          rw [cl_5] at hP
          have hD : va_D A (MW cI cZ q thrown textSize place stock (nI n) readStock readCells readParts acts tried soonMany soonWhich kindMany kindFirst restMany restFirst text lies kind readPart page (upd g6 5 ((g6 5) &&& ((shl (1 : Int32) (nI i_6)) ^^^ (-1 : Int32)))) book kept isKept triedAbout triedIs gains value seed) := hD.same (MW_ad.trans MW_ad.symm)
          refine lv_iinc (v := (nI (i_6 + 1))) (lv' := [(3, .int (nI (i_6 + 1))), (2, .int (trial 5)), (0, .ref (q 0)), (1, .ref (q 6))]) hx hb dX6_goRain_48 hl (k := 0) rfl (nI_up i_6) (by decide) rfl (fun ls hl => ?_)
          refine lv_goto (tgt := 6) hx hb dX6_goRain_51 (by decide) ?_
          exact ih_6 (i_6 + 1) (upd g6 5 ((g6 5) &&& ((shl (1 : Int32) (nI i_6)) ^^^ (-1 : Int32)))) ls _ _ (by omega) hT_6 (lv_sub hl [0, 1, 2, 3] rfl) hP hS
  exact key_6 n 0 trial ls _ _ (by omega) hT_6 (lv_sub hl [0, 1, 2, 3] rfl) hP hS
set_option maxHeartbeats 4000000 in
set_option maxRecDepth 100000 in
theorem c_X6_goRain_page (l : Launch) (D : va_G) (cI cZ : ClassId) (q : Nat → Nat) (thrown : Int32) (textSize : Int32) (place : Int32) (stock : Int32) (n : Nat) (readStock : Int32) (readCells : Int32) (readParts : Int32) (acts : Int32) (tried : Int32) (soonMany : Int32) (soonWhich : Int32) (kindMany : Int32) (kindFirst : Int32) (restMany : Int32) (restFirst : Int32) (text lies kind readPart page trial book kept isKept triedAbout triedIs gains value : Nat → Int32) (seed : Int64) (hn7 : n ≤ 7) (cl : Nat → Nat) (hcl : ∀ j, j < 7 → lies j = nI (cl j) ∧ cl j < 16) : WrI l yX6_goRain cX6_goRain 4 .int 6 142 D (tyL cI cZ) (MW cI cZ q thrown textSize place stock (nI n) readStock readCells readParts acts tried soonMany soonWhich kindMany kindFirst restMany restFirst text lies kind readPart page trial book kept isKept triedAbout triedIs gains value seed) [.ref (q 0), .ref (q 5)] (f_X6_goRain cl n lies kind page).1 (MW cI cZ q thrown textSize place stock (nI n) readStock readCells readParts acts tried soonMany soonWhich kindMany kindFirst restMany restFirst text lies kind readPart (f_X6_goRain cl n lies kind page).2 trial book kept isKept triedAbout triedIs gains value seed) := by
  refine WrI.of (by decide) (Nat.le_of_ble_eq_true rfl) ?_
  intro p e s m args below meth c Q A hx hb hml hown hts hP hK hD hS fin ls hl
  have hown : s.vm.findClass RX6 = some m.cls := hown
  have hF : CallFix p m c cX6_goRain 4 s args tb RX6 := ⟨hx, hb, hml, hown, hts⟩
  have hl : lv_has ls 4 [(0, .ref (q 0)), (1, .ref (q 5))] := hl
  generalize hR : (f_X6_goRain cl n lies kind page) = R at fin
  unfold f_X6_goRain at hR
  refine lv_aload_n hx hb dX6_goRain_0 rfl (lv_at hl 1 rfl) ?_
  refine lv_iconst (v := (5 : Int32)) hx hb dX6_goRain_1 (by decide) ?_
  refine va_iald hx hb hK hP 5 0 MW_5 rfl (vp_in_nI (n := 5) (by decide) (by decide)) dX6_goRain_2 ?_
  refine lv_rw (z := (page 5)) (congrArg page cl_5) ?_
  refine lv_istore_n (lv' := [(2, .int (page 5)), (0, .ref (q 0)), (1, .ref (q 5))]) hx hb dX6_goRain_3 rfl hl (by decide) rfl (fun ls hl => ?_)
  refine lv_iconst (v := (0 : Int32)) hx hb dX6_goRain_4 (by decide) ?_
  refine lv_istore_n (lv' := [(3, .int (0 : Int32)), (2, .int (page 5)), (0, .ref (q 0)), (1, .ref (q 5))]) hx hb dX6_goRain_5 rfl hl (by decide) rfl (fun ls hl => ?_)
  obtain ⟨T_6, hT_6⟩ : ∃ z, f_X6_goRain_l6 cl kind n 0 page = z := ⟨_, rfl⟩
  rw [hT_6] at hR
  have key_6 : ∀ (d_6 i_6 : Nat) (g6 : Nat → Int32) (ls : Array Slot) (H : Heap) (locs : List Loc), i_6 + d_6 = n → f_X6_goRain_l6 cl kind d_6 i_6 g6 = T_6 → lv_has ls 4 [(3, .int (nI i_6)), (2, .int (page 5)), (0, .ref (q 0)), (1, .ref (q 5))] → va_P D vwCl (MW cI cZ q thrown textSize place stock (nI n) readStock readCells readParts acts tried soonMany soonWhich kindMany kindFirst restMany restFirst text lies kind readPart g6 trial book kept isKept triedAbout triedIs gains value seed) H → va_S A s.heap H locs → W p l e (rmO 6 142) s m args below meth c H locs 0 0 Q (F0 m 6 ls []) := by
    intro d_6
    induction d_6 with
    | zero =>
      intro i_6 g6 ls H locs hi_6 hT_6 hl hP hS
      have hD : va_D A (MW cI cZ q thrown textSize place stock (nI n) readStock readCells readParts acts tried soonMany soonWhich kindMany kindFirst restMany restFirst text lies kind readPart g6 trial book kept isKept triedAbout triedIs gains value seed) := hD.same (MW_ad.trans MW_ad.symm)
      rw [f_X6_goRain_l6_z] at hT_6
      refine lv_iload_n hx hb dX6_goRain_6 rfl (lv_at hl 0 rfl) ?_
      refine lv_aload_n hx hb dX6_goRain_7 rfl (lv_at hl 2 rfl) ?_
      refine va_get (D := D) (ci := 5) (v := .int (nI n)) (C := RX6) (T := TX6) (N := 30) hx hb hts tbX6 hown hK hP 0 MW_0 rfl 5 (by decide) (hts _ tm_3_6) (fun _ h9 => h9) rfl dX6_goRain_8 ?_
      refine lv_icmp_ge (tgt := 54) hx hb dX6_goRain_11 (by decide) (fun c_11 => ?_) (fun c_11 => absurd (nI_le  (by omega) (by omega)) c_11)
      subst hT_6
      try dsimp only at hR
      refine lv_aload_n hx hb dX6_goRain_54 rfl (lv_at hl 2 rfl) ?_
      refine lv_aload_n hx hb dX6_goRain_55 rfl (lv_at hl 3 rfl) ?_
      refine vWrI (b := (q 0)) (As := [.ref (q 5)]) (rest := []) hF (c_X6_settle_page l D cI cZ q thrown textSize place stock n readStock readCells readParts acts tried soonMany soonWhich kindMany kindFirst restMany restFirst text lies kind readPart g6 trial book kept isKept triedAbout triedIs gains value seed hn7 cl hcl) (gdV tm_3_141 tm_3_143 tp_14 tm_1_6 tm_3_144) de_X6_settle ⟨Nat.le_of_ble_eq_true rfl, Nat.le_of_ble_eq_true rfl⟩ hP hK (va_recv hK hP (ci := 5) (q0 := 0) rfl MW_0) hl.1 rfl (Nat.le_of_ble_eq_true rfl) dX6_goRain_56 ⟨Nat.zero_le _, Nat.zero_le _⟩ hD hS (fun H locs hP hS => ?_)
      have hP : va_P D vwCl (MW cI cZ q thrown textSize place stock (nI n) readStock readCells readParts acts tried soonMany soonWhich kindMany kindFirst restMany restFirst text lies kind readPart (f_X6_settle cl n lies kind g6).2 trial book kept isKept triedAbout triedIs gains value seed) H := hP
      have hD : va_D A (MW cI cZ q thrown textSize place stock (nI n) readStock readCells readParts acts tried soonMany soonWhich kindMany kindFirst restMany restFirst text lies kind readPart (f_X6_settle cl n lies kind g6).2 trial book kept isKept triedAbout triedIs gains value seed) := hD.same (MW_ad.trans MW_ad.symm)
      refine lv_pop hx hb dX6_goRain_59 rfl ?_
      refine lv_aload_n hx hb dX6_goRain_60 rfl (lv_at hl 3 rfl) ?_
      refine lv_bipush (v := (6 : Int32)) hx hb dX6_goRain_61 (by decide) ?_
      refine lv_dup2_11 hx hb dX6_goRain_63 rfl rfl ?_
      refine va_iald hx hb hK hP 5 0 MW_5 rfl (vp_in_nI (n := 6) (by decide) (by decide)) dX6_goRain_64 ?_
      refine lv_rw (z := ((f_X6_settle cl n lies kind g6).2 6)) (congrArg (f_X6_settle cl n lies kind g6).2 cl_6) ?_
      refine lv_iconst (v := (1 : Int32)) hx hb dX6_goRain_65 (by decide) ?_
      refine lv_iadd hx hb dX6_goRain_66 ?_
      refine va_iast hx hb hK hP hD hS 5 0 MW_5 rfl (vp_in_nI (n := 6) (by decide) (by decide)) dX6_goRain_67 (fun H locs hP _ hS => ?_)
      have hP : va_P D vwCl (MW cI cZ q thrown textSize place stock (nI n) readStock readCells readParts acts tried soonMany soonWhich kindMany kindFirst restMany restFirst text lies kind readPart (upd (f_X6_settle cl n lies kind g6).2 (6 : Int32).toNatClampNeg (((f_X6_settle cl n lies kind g6).2 6) + (1 : Int32))) trial book kept isKept triedAbout triedIs gains value seed) H := hP
      rw [cl_6] at hP
      have hD : va_D A (MW cI cZ q thrown textSize place stock (nI n) readStock readCells readParts acts tried soonMany soonWhich kindMany kindFirst restMany restFirst text lies kind readPart (upd (f_X6_settle cl n lies kind g6).2 6 (((f_X6_settle cl n lies kind g6).2 6) + (1 : Int32))) trial book kept isKept triedAbout triedIs gains value seed) := hD.same (MW_ad.trans MW_ad.symm)
      refine lv_iload_n hx hb dX6_goRain_68 rfl (lv_at hl 1 rfl) ?_
      refine sRdI (As := [.int (page 5)]) (rest := []) hF (c_X6_many l D cI cZ q (page 5)) (gdS tm_3_171 tm_3_172 tm_1_6 tm_3_173) de_X6_many ⟨Nat.le_of_ble_eq_true rfl, Nat.le_of_ble_eq_true rfl⟩ va_P_nil hK hl.1 rfl (Nat.le_of_ble_eq_true rfl) dX6_goRain_69 ⟨Nat.zero_le _, Nat.zero_le _⟩ ?_
      refine lv_aload_n hx hb dX6_goRain_72 rfl (lv_at hl 3 rfl) ?_
      refine lv_iconst (v := (5 : Int32)) hx hb dX6_goRain_73 (by decide) ?_
      refine va_iald hx hb hK hP 5 0 MW_5 rfl (vp_in_nI (n := 5) (by decide) (by decide)) dX6_goRain_74 ?_
      refine lv_rw (z := ((upd (f_X6_settle cl n lies kind g6).2 6 (((f_X6_settle cl n lies kind g6).2 6) + (1 : Int32))) 5)) (congrArg (upd (f_X6_settle cl n lies kind g6).2 6 (((f_X6_settle cl n lies kind g6).2 6) + (1 : Int32))) cl_5) ?_
      refine sRdI (As := [.int ((upd (f_X6_settle cl n lies kind g6).2 6 (((f_X6_settle cl n lies kind g6).2 6) + (1 : Int32))) 5)]) (rest := [.int (f_X6_many (page 5))]) hF (c_X6_many l D cI cZ q ((upd (f_X6_settle cl n lies kind g6).2 6 (((f_X6_settle cl n lies kind g6).2 6) + (1 : Int32))) 5)) (gdS tm_3_171 tm_3_172 tm_1_6 tm_3_173) de_X6_many ⟨Nat.le_of_ble_eq_true rfl, Nat.le_of_ble_eq_true rfl⟩ va_P_nil hK hl.1 rfl (Nat.le_of_ble_eq_true rfl) dX6_goRain_75 ⟨Nat.zero_le _, Nat.zero_le _⟩ ?_
      refine lv_isub hx hb dX6_goRain_78 ?_
      subst hR
      exact fin _ _ _ _ dX6_goRain_79 (nar_i _) hP hS
    | succ d_6 ih_6 =>
      intro i_6 g6 ls H locs hi_6 hT_6 hl hP hS
      have hD : va_D A (MW cI cZ q thrown textSize place stock (nI n) readStock readCells readParts acts tried soonMany soonWhich kindMany kindFirst restMany restFirst text lies kind readPart g6 trial book kept isKept triedAbout triedIs gains value seed) := hD.same (MW_ad.trans MW_ad.symm)
      rw [f_X6_goRain_l6_s] at hT_6
      refine lv_iload_n hx hb dX6_goRain_6 rfl (lv_at hl 0 rfl) ?_
      refine lv_aload_n hx hb dX6_goRain_7 rfl (lv_at hl 2 rfl) ?_
      refine va_get (D := D) (ci := 5) (v := .int (nI n)) (C := RX6) (T := TX6) (N := 30) hx hb hts tbX6 hown hK hP 0 MW_0 rfl 5 (by decide) (hts _ tm_3_6) (fun _ h9 => h9) rfl dX6_goRain_8 ?_
      refine lv_icmp_ge (tgt := 54) hx hb dX6_goRain_11 (by decide) (fun c_11 => absurd c_11 (nI_ge  (by omega) (by omega))) (fun c_11 => ?_)
      refine lv_aload_n hx hb dX6_goRain_14 rfl (lv_at hl 3 rfl) ?_
      refine lv_iconst (v := (5 : Int32)) hx hb dX6_goRain_15 (by decide) ?_
      refine lv_dup2_11 hx hb dX6_goRain_16 rfl rfl ?_
      refine va_iald hx hb hK hP 5 0 MW_5 rfl (vp_in_nI (n := 5) (by decide) (by decide)) dX6_goRain_17 ?_
      refine lv_rw (z := (g6 5)) (congrArg g6 cl_5) ?_
      refine lv_aload_n hx hb dX6_goRain_18 rfl (lv_at hl 2 rfl) ?_
      refine va_get (D := D) (ci := 5) (v := .ref (q 3)) (C := RX6) (T := TX6) (N := 30) hx hb hts tbX6 hown hK hP 0 MW_0 rfl 7 (by decide) (hts _ tm_3_8) (fun _ h9 => h9) rfl dX6_goRain_19 ?_
      refine lv_iload_n hx hb dX6_goRain_22 rfl (lv_at hl 0 rfl) ?_
      refine va_iald hx hb hK hP 3 0 MW_3 rfl (vp_in_nI (show i_6 < 7 by omega) (by omega)) dX6_goRain_23 ?_
      refine lv_rw (z := (kind i_6)) (congrArg kind (nI_clamp (show i_6 < 2 ^ 31 by omega))) ?_
      refine lv_iconst (v := (3 : Int32)) hx hb dX6_goRain_24 (by decide) ?_
      refine lv_icmp_ne (tgt := 45) hx hb dX6_goRain_25 (by decide) (fun c_25 => ?_) (fun c_25 => ?_)
      · rw [if_neg c_25] at hT_6
        refine lv_iconst (v := (-1 : Int32)) hx hb dX6_goRain_45 (by decide) ?_
        refine lv_iand hx hb dX6_goRain_46 ?_
        refine va_iast hx hb hK hP hD hS 5 0 MW_5 rfl (vp_in_nI (n := 5) (by decide) (by decide)) dX6_goRain_47 (fun H locs hP _ hS => ?_)
        have hP : va_P D vwCl (MW cI cZ q thrown textSize place stock (nI n) readStock readCells readParts acts tried soonMany soonWhich kindMany kindFirst restMany restFirst text lies kind readPart (upd g6 (5 : Int32).toNatClampNeg ((g6 5) &&& (-1 : Int32))) trial book kept isKept triedAbout triedIs gains value seed) H := hP
        rw [cl_5] at hP
        have hD : va_D A (MW cI cZ q thrown textSize place stock (nI n) readStock readCells readParts acts tried soonMany soonWhich kindMany kindFirst restMany restFirst text lies kind readPart (upd g6 5 ((g6 5) &&& (-1 : Int32))) trial book kept isKept triedAbout triedIs gains value seed) := hD.same (MW_ad.trans MW_ad.symm)
        refine lv_iinc (v := (nI (i_6 + 1))) (lv' := [(3, .int (nI (i_6 + 1))), (2, .int (page 5)), (0, .ref (q 0)), (1, .ref (q 5))]) hx hb dX6_goRain_48 hl (k := 0) rfl (nI_up i_6) (by decide) rfl (fun ls hl => ?_)
        refine lv_goto (tgt := 6) hx hb dX6_goRain_51 (by decide) ?_
        exact ih_6 (i_6 + 1) (upd g6 5 ((g6 5) &&& (-1 : Int32))) ls _ _ (by omega) hT_6 (lv_sub hl [0, 1, 2, 3] rfl) hP hS
      · rw [if_pos c_25] at hT_6
        refine lv_aload_n hx hb dX6_goRain_28 rfl (lv_at hl 2 rfl) ?_
        refine lv_aload_n hx hb dX6_goRain_29 rfl (lv_at hl 3 rfl) ?_
        refine lv_iload_n hx hb dX6_goRain_30 rfl (lv_at hl 0 rfl) ?_
        refine vRdI (b := (q 0)) (As := [.ref (q 5), .int (nI i_6)]) (rest := [.int (g6 5), .int (5 : Int32), .ref (q 5)]) hF (c_X6_hasPole l D cI cZ q thrown textSize place stock n readStock readCells readParts acts tried soonMany soonWhich kindMany kindFirst restMany restFirst text lies kind readPart g6 trial book kept isKept triedAbout triedIs gains value seed 5 (q 5) g6 MW_5 i_6 (by omega) cl hcl) (gdV tm_3_153 tm_3_155 tp_17 tm_1_6 tm_3_156) de_X6_hasPole ⟨Nat.le_of_ble_eq_true rfl, Nat.le_of_ble_eq_true rfl⟩ hP hK (va_recv hK hP (ci := 5) (q0 := 0) rfl MW_0) hl.1 rfl (Nat.le_of_ble_eq_true rfl) dX6_goRain_31 ⟨Nat.zero_le _, Nat.zero_le _⟩ ?_
        refine lv_if_ne (tgt := 45) hx hb dX6_goRain_34 (by decide) (fun c_34 => ?_) (fun c_34 => ?_)
        · rw [if_neg c_34] at hT_6
          refine lv_iconst (v := (-1 : Int32)) hx hb dX6_goRain_45 (by decide) ?_
          refine lv_iand hx hb dX6_goRain_46 ?_
          refine va_iast hx hb hK hP hD hS 5 0 MW_5 rfl (vp_in_nI (n := 5) (by decide) (by decide)) dX6_goRain_47 (fun H locs hP _ hS => ?_)
          have hP : va_P D vwCl (MW cI cZ q thrown textSize place stock (nI n) readStock readCells readParts acts tried soonMany soonWhich kindMany kindFirst restMany restFirst text lies kind readPart (upd g6 (5 : Int32).toNatClampNeg ((g6 5) &&& (-1 : Int32))) trial book kept isKept triedAbout triedIs gains value seed) H := hP
          rw [cl_5] at hP
          have hD : va_D A (MW cI cZ q thrown textSize place stock (nI n) readStock readCells readParts acts tried soonMany soonWhich kindMany kindFirst restMany restFirst text lies kind readPart (upd g6 5 ((g6 5) &&& (-1 : Int32))) trial book kept isKept triedAbout triedIs gains value seed) := hD.same (MW_ad.trans MW_ad.symm)
          refine lv_iinc (v := (nI (i_6 + 1))) (lv' := [(3, .int (nI (i_6 + 1))), (2, .int (page 5)), (0, .ref (q 0)), (1, .ref (q 5))]) hx hb dX6_goRain_48 hl (k := 0) rfl (nI_up i_6) (by decide) rfl (fun ls hl => ?_)
          refine lv_goto (tgt := 6) hx hb dX6_goRain_51 (by decide) ?_
          exact ih_6 (i_6 + 1) (upd g6 5 ((g6 5) &&& (-1 : Int32))) ls _ _ (by omega) hT_6 (lv_sub hl [0, 1, 2, 3] rfl) hP hS
        · rw [if_pos c_34] at hT_6
          refine lv_iconst (v := (1 : Int32)) hx hb dX6_goRain_37 (by decide) ?_
          refine lv_iload_n hx hb dX6_goRain_38 rfl (lv_at hl 0 rfl) ?_
          refine lv_ishl hx hb dX6_goRain_39 ?_
          refine lv_rw (z := (shl (1 : Int32) (nI i_6))) rfl ?_
          refine lv_iconst (v := (-1 : Int32)) hx hb dX6_goRain_40 (by decide) ?_
          refine lv_ixor hx hb dX6_goRain_41 ?_
          refine lv_goto (tgt := 46) hx hb dX6_goRain_42 (by decide) ?_
          refine lv_iand hx hb dX6_goRain_46 ?_
          refine va_iast hx hb hK hP hD hS 5 0 MW_5 rfl (vp_in_nI (n := 5) (by decide) (by decide)) dX6_goRain_47 (fun H locs hP _ hS => ?_)
          have hP : va_P D vwCl (MW cI cZ q thrown textSize place stock (nI n) readStock readCells readParts acts tried soonMany soonWhich kindMany kindFirst restMany restFirst text lies kind readPart (upd g6 (5 : Int32).toNatClampNeg ((g6 5) &&& ((shl (1 : Int32) (nI i_6)) ^^^ (-1 : Int32)))) trial book kept isKept triedAbout triedIs gains value seed) H := hP
          rw [cl_5] at hP
          have hD : va_D A (MW cI cZ q thrown textSize place stock (nI n) readStock readCells readParts acts tried soonMany soonWhich kindMany kindFirst restMany restFirst text lies kind readPart (upd g6 5 ((g6 5) &&& ((shl (1 : Int32) (nI i_6)) ^^^ (-1 : Int32)))) trial book kept isKept triedAbout triedIs gains value seed) := hD.same (MW_ad.trans MW_ad.symm)
          refine lv_iinc (v := (nI (i_6 + 1))) (lv' := [(3, .int (nI (i_6 + 1))), (2, .int (page 5)), (0, .ref (q 0)), (1, .ref (q 5))]) hx hb dX6_goRain_48 hl (k := 0) rfl (nI_up i_6) (by decide) rfl (fun ls hl => ?_)
          refine lv_goto (tgt := 6) hx hb dX6_goRain_51 (by decide) ?_
          exact ih_6 (i_6 + 1) (upd g6 5 ((g6 5) &&& ((shl (1 : Int32) (nI i_6)) ^^^ (-1 : Int32)))) ls _ _ (by omega) hT_6 (lv_sub hl [0, 1, 2, 3] rfl) hP hS
  exact key_6 n 0 page ls _ _ (by omega) hT_6 (lv_sub hl [0, 1, 2, 3] rfl) hP hS
