set_option maxHeartbeats 4000000 in
set_option maxRecDepth 100000 in
theorem lc_down {p : Program} {l : Launch} {e : Env} {s : State} {m : MethodId} {below : List Frame} {meth : Method} {c : Code} {D : va_G} {cI cZ : ClassId} {qx qm : Nat → Nat} {b LL : Nat} {xs : Nat → Int32} (hLL : LL ≤ 2048) (C0 : lw_At p s m meth c b LL xs) (hK : va_K D vwCl (tyL cI cZ) s) {i : Nat} (hi : i + 3 < LL) (kk : LK p l e s m below meth c D cI cZ qx qm b i 873) : LK p l e s m below meth c D cI cZ qx qm b i 411 := by
  obtain ⟨hx, hb, hr, hml, hown, hts0, hX, hbl, hlocks, hgv⟩ := C0
  have hts : ∀ w ∈ tb, w.before #[Value.ref b] s = true := fun w h => hts0 w (tb_in w h)
  have hF : CallFix p m c code 4 s #[Value.ref b] tb RL := ⟨hx, hb, hml, hown, hts⟩
  have hown : s.vm.findClass RL = some m.cls := hown
  have hbA : ¬ (fun q : Nat => s.heap.size ≤ q) b := Nat.not_le.mpr hbl
  intro now rains length poles parts plain key stair air acnt tcnt letters cells kinds frames rainsB abouts stoods kept keptF keptR seed thrown textSize place stock partsM readStock readCells readParts acts tried soonMany soonWhich kindMany kindFirst restMany restFirst text lies kind readPart page trial book keptM isKept triedAbout triedIs gains value seedM ls H locs hI hP hD hS hl
  obtain ⟨L, sp, n, na, tr, cl, kd, rfl, rfl, rfl, rfl, rfl, rfl, rfl, rfl, rfl, rfl, rfl, rfl, rfl, rfl, hC⟩ := hI
  refine lv_aload_n hx hb dL_law_411 rfl (lv_at hl 1 rfl) ?_
  refine lv_aload_n hx hb dL_law_412 rfl (lv_at hl 0 rfl) ?_
  refine lv_iload_n hx hb dL_law_413 rfl (lv_at hl 3 rfl) ?_
  refine lv_iconst (v := (1 : Int32)) hx hb dL_law_414 (by decide) ?_
  refine lv_iadd hx hb dL_law_415 ?_
  refine lv_rw (z := nI (i + 1)) (nI_add i 1) ?_
  refine va_sld hx hb hX hbl hbA hS (vp_in_nI (show i + 1 < LL by omega) (by omega)) dL_law_416 ?_
  refine lv_rw (z := xs (i + 1)) (congrArg xs (nI_clamp (by omega))) ?_
  refine vRdI (b := (qx 0)) (As := [.int (xs (i + 1))]) (rest := []) hF (c_X5_down l D cI cZ qx now rains (nI L) (nI sp) (nI n) plain key stair air (nI na) (nI tr) text cells kinds frames rainsB triedAbout triedIs kept keptF keptR seed (xs (i + 1))) (gdV tm_2_89 tm_2_90 tm_2_91 tm_1_1 tm_2_92) de_X5_down ⟨Nat.le_of_ble_eq_true rfl, Nat.le_of_ble_eq_true rfl⟩ hP.lef hK (va_recv hK hP.lef (ci := 4) (q0 := 0) rfl XW_0) hl.1 rfl (Nat.le_of_ble_eq_true rfl) dL_law_417 ⟨Nat.le_of_ble_eq_true rfl, Nat.le_of_ble_eq_true rfl⟩ ?_
  refine lv_aload_n hx hb dL_law_420 rfl (lv_at hl 2 rfl) ?_
  refine lv_aload_n hx hb dL_law_421 rfl (lv_at hl 0 rfl) ?_
  refine lv_iload_n hx hb dL_law_422 rfl (lv_at hl 3 rfl) ?_
  refine lv_iconst (v := (1 : Int32)) hx hb dL_law_423 (by decide) ?_
  refine lv_iadd hx hb dL_law_424 ?_
  refine lv_rw (z := nI (i + 1)) (nI_add i 1) ?_
  refine va_sld hx hb hX hbl hbA hS (vp_in_nI (show i + 1 < LL by omega) (by omega)) dL_law_425 ?_
  refine lv_rw (z := xs (i + 1)) (congrArg xs (nI_clamp (by omega))) ?_
  refine mWrI (b := (qm 0)) (As := [.int (xs (i + 1))]) (rest := [.int (f_X5_down now plain key stair air (xs (i + 1)))]) hF (c_X6_down l D cI cZ qm thrown (nI L) place (nI sp) n readStock readCells readParts (nI na) (nI tr) soonMany soonWhich kindMany kindFirst restMany restFirst text lies kind readPart page trial book keptM isKept triedAbout triedIs gains value seed (xs (i + 1)) hC.hn cl hC.hcl hC.hh.choose hC.hh.choose_spec) (gdV tm_3_226 tm_3_227 tm_3_228 tm_1_6 tm_3_229) de_X6_down ⟨Nat.le_of_ble_eq_true rfl, Nat.le_of_ble_eq_true rfl⟩ hP hK (va_recv hK hP.rig (ci := 5) (q0 := 0) rfl MW_0) hl.1 rfl (Nat.le_of_ble_eq_true rfl) dL_law_426 ⟨Nat.le_of_ble_eq_true rfl, Nat.le_of_ble_eq_true rfl⟩ hD hS (MW_ad.trans MW_ad.symm) (fun H locs hP hD hS => ?_)
  have ho := op_down L sp n na tr cl kd now rains plain key stair air thrown place readStock readCells readParts soonMany soonWhich kindMany kindFirst restMany restFirst text triedAbout triedIs cells kinds frames rainsB kept keptF keptR lies kind readPart page trial book keptM isKept gains value seed (xs (i + 1))  hC
  refine lv_icmp_eq (tgt := 873) hx hb dL_law_429 (by decide) (fun c_429 => ?_) (fun c_429 => absurd ho.1 c_429)
  exact kk now rains (nI L) (nI sp) (nI n) plain key stair air (nI na) (nI tr) text cells kinds frames rainsB triedAbout triedIs kept keptF keptR seed (f_X6_down cl n lies kind page trial (xs (i + 1))).2.1 (nI L) place (nI sp) (nI n) readStock readCells readParts (nI na) (nI tr) soonMany soonWhich kindMany kindFirst restMany restFirst text lies kind readPart page (f_X6_down cl n lies kind page trial (xs (i + 1))).2.2 book keptM isKept triedAbout triedIs gains value seed ls H locs ho.2 hP hD hS hl
set_option maxHeartbeats 4000000 in
set_option maxRecDepth 100000 in
theorem lc_soon {p : Program} {l : Launch} {e : Env} {s : State} {m : MethodId} {below : List Frame} {meth : Method} {c : Code} {D : va_G} {cI cZ : ClassId} {qx qm : Nat → Nat} {b LL : Nat} {xs : Nat → Int32} (hLL : LL ≤ 2048) (C0 : lw_At p s m meth c b LL xs) (hK : va_K D vwCl (tyL cI cZ) s) {i : Nat} (hi : i + 3 < LL) (kk : LK p l e s m below meth c D cI cZ qx qm b i 873) : LK p l e s m below meth c D cI cZ qx qm b i 434 := by
  obtain ⟨hx, hb, hr, hml, hown, hts0, hX, hbl, hlocks, hgv⟩ := C0
  have hts : ∀ w ∈ tb, w.before #[Value.ref b] s = true := fun w h => hts0 w (tb_in w h)
  have hF : CallFix p m c code 4 s #[Value.ref b] tb RL := ⟨hx, hb, hml, hown, hts⟩
  have hown : s.vm.findClass RL = some m.cls := hown
  have hbA : ¬ (fun q : Nat => s.heap.size ≤ q) b := Nat.not_le.mpr hbl
  intro now rains length poles parts plain key stair air acnt tcnt letters cells kinds frames rainsB abouts stoods kept keptF keptR seed thrown textSize place stock partsM readStock readCells readParts acts tried soonMany soonWhich kindMany kindFirst restMany restFirst text lies kind readPart page trial book keptM isKept triedAbout triedIs gains value seedM ls H locs hI hP hD hS hl
  obtain ⟨L, sp, n, na, tr, cl, kd, rfl, rfl, rfl, rfl, rfl, rfl, rfl, rfl, rfl, rfl, rfl, rfl, rfl, rfl, hC⟩ := hI
  refine lv_aload_n hx hb dL_law_434 rfl (lv_at hl 1 rfl) ?_
  refine lv_aload_n hx hb dL_law_435 rfl (lv_at hl 0 rfl) ?_
  refine lv_iload_n hx hb dL_law_436 rfl (lv_at hl 3 rfl) ?_
  refine lv_iconst (v := (1 : Int32)) hx hb dL_law_437 (by decide) ?_
  refine lv_iadd hx hb dL_law_438 ?_
  refine lv_rw (z := nI (i + 1)) (nI_add i 1) ?_
  refine va_sld hx hb hX hbl hbA hS (vp_in_nI (show i + 1 < LL by omega) (by omega)) dL_law_439 ?_
  refine lv_rw (z := xs (i + 1)) (congrArg xs (nI_clamp (by omega))) ?_
  refine lv_aload_n hx hb dL_law_440 rfl (lv_at hl 0 rfl) ?_
  refine lv_iload_n hx hb dL_law_441 rfl (lv_at hl 3 rfl) ?_
  refine lv_iconst (v := (2 : Int32)) hx hb dL_law_442 (by decide) ?_
  refine lv_iadd hx hb dL_law_443 ?_
  refine lv_rw (z := nI (i + 2)) (nI_add i 2) ?_
  refine va_sld hx hb hX hbl hbA hS (vp_in_nI (show i + 2 < LL by omega) (by omega)) dL_law_444 ?_
  refine lv_rw (z := xs (i + 2)) (congrArg xs (nI_clamp (by omega))) ?_
  refine vRdI (b := (qx 0)) (As := [.int (xs (i + 1)), .int (xs (i + 2))]) (rest := []) hF (c_X5_soon l D cI cZ qx now rains (nI L) (nI sp) (nI n) plain key stair air (nI na) (nI tr) text cells kinds frames rainsB triedAbout triedIs kept keptF keptR seed (xs (i + 1)) (xs (i + 2))) (gdV tm_2_93 tm_2_94 tm_2_95 tm_1_1 tm_2_96) de_X5_soon ⟨Nat.le_of_ble_eq_true rfl, Nat.le_of_ble_eq_true rfl⟩ hP.lef hK (va_recv hK hP.lef (ci := 4) (q0 := 0) rfl XW_0) hl.1 rfl (Nat.le_of_ble_eq_true rfl) dL_law_445 ⟨Nat.le_of_ble_eq_true rfl, Nat.le_of_ble_eq_true rfl⟩ ?_
  refine lv_aload_n hx hb dL_law_448 rfl (lv_at hl 2 rfl) ?_
  refine lv_aload_n hx hb dL_law_449 rfl (lv_at hl 0 rfl) ?_
  refine lv_iload_n hx hb dL_law_450 rfl (lv_at hl 3 rfl) ?_
  refine lv_iconst (v := (1 : Int32)) hx hb dL_law_451 (by decide) ?_
  refine lv_iadd hx hb dL_law_452 ?_
  refine lv_rw (z := nI (i + 1)) (nI_add i 1) ?_
  refine va_sld hx hb hX hbl hbA hS (vp_in_nI (show i + 1 < LL by omega) (by omega)) dL_law_453 ?_
  refine lv_rw (z := xs (i + 1)) (congrArg xs (nI_clamp (by omega))) ?_
  refine lv_aload_n hx hb dL_law_454 rfl (lv_at hl 0 rfl) ?_
  refine lv_iload_n hx hb dL_law_455 rfl (lv_at hl 3 rfl) ?_
  refine lv_iconst (v := (2 : Int32)) hx hb dL_law_456 (by decide) ?_
  refine lv_iadd hx hb dL_law_457 ?_
  refine lv_rw (z := nI (i + 2)) (nI_add i 2) ?_
  refine va_sld hx hb hX hbl hbA hS (vp_in_nI (show i + 2 < LL by omega) (by omega)) dL_law_458 ?_
  refine lv_rw (z := xs (i + 2)) (congrArg xs (nI_clamp (by omega))) ?_
  refine mWrI (b := (qm 0)) (As := [.int (xs (i + 1)), .int (xs (i + 2))]) (rest := [.int (f_X5_soon now (nI sp) (nI n) plain key stair air cells (xs (i + 1)) (xs (i + 2)))]) hF (c_X6_soon l D cI cZ qm thrown (nI L) place (nI sp) n readStock readCells readParts (nI na) (nI tr) soonMany soonWhich kindMany kindFirst restMany restFirst text lies kind readPart page trial book keptM isKept triedAbout triedIs gains value seed (xs (i + 1)) (xs (i + 2)) hC.hn cl hC.hcl) (gdV tm_3_230 tm_3_231 tm_3_232 tm_1_6 tm_3_233) de_X6_soon ⟨Nat.le_of_ble_eq_true rfl, Nat.le_of_ble_eq_true rfl⟩ hP hK (va_recv hK hP.rig (ci := 5) (q0 := 0) rfl MW_0) hl.1 rfl (Nat.le_of_ble_eq_true rfl) dL_law_459 ⟨Nat.le_of_ble_eq_true rfl, Nat.le_of_ble_eq_true rfl⟩ hD hS (MW_ad.trans MW_ad.symm) (fun H locs hP hD hS => ?_)
  have ho := op_soon L sp n na tr cl kd now rains plain key stair air thrown place readStock readCells readParts soonMany soonWhich kindMany kindFirst restMany restFirst text triedAbout triedIs cells kinds frames rainsB kept keptF keptR lies kind readPart page trial book keptM isKept gains value seed (xs (i + 1)) (xs (i + 2))  hC
  refine lv_icmp_eq (tgt := 873) hx hb dL_law_462 (by decide) (fun c_462 => ?_) (fun c_462 => absurd ho.1 c_462)
  exact kk now rains (nI L) (nI sp) (nI n) plain key stair air (nI na) (nI tr) text cells kinds frames rainsB triedAbout triedIs kept keptF keptR seed (f_X6_soon cl n soonMany soonWhich lies kind page trial (xs (i + 1)) (xs (i + 2))).2.1 (nI L) place (nI sp) (nI n) readStock readCells readParts (nI na) (nI tr) (f_X6_soon cl n soonMany soonWhich lies kind page trial (xs (i + 1)) (xs (i + 2))).2.2.1 (f_X6_soon cl n soonMany soonWhich lies kind page trial (xs (i + 1)) (xs (i + 2))).2.2.2.1 kindMany kindFirst restMany restFirst text lies kind readPart page (f_X6_soon cl n soonMany soonWhich lies kind page trial (xs (i + 1)) (xs (i + 2))).2.2.2.2 book keptM isKept triedAbout triedIs gains value seed ls H locs ho.2 hP hD hS hl
set_option maxHeartbeats 4000000 in
set_option maxRecDepth 100000 in
theorem lc_judge {p : Program} {l : Launch} {e : Env} {s : State} {m : MethodId} {below : List Frame} {meth : Method} {c : Code} {D : va_G} {cI cZ : ClassId} {qx qm : Nat → Nat} {b LL : Nat} {xs : Nat → Int32} (hLL : LL ≤ 2048) (C0 : lw_At p s m meth c b LL xs) (hK : va_K D vwCl (tyL cI cZ) s) {i : Nat} (hi : i + 3 < LL) (kk : LK p l e s m below meth c D cI cZ qx qm b i 873) : LK p l e s m below meth c D cI cZ qx qm b i 467 := by
  obtain ⟨hx, hb, hr, hml, hown, hts0, hX, hbl, hlocks, hgv⟩ := C0
  have hts : ∀ w ∈ tb, w.before #[Value.ref b] s = true := fun w h => hts0 w (tb_in w h)
  have hF : CallFix p m c code 4 s #[Value.ref b] tb RL := ⟨hx, hb, hml, hown, hts⟩
  have hown : s.vm.findClass RL = some m.cls := hown
  have hbA : ¬ (fun q : Nat => s.heap.size ≤ q) b := Nat.not_le.mpr hbl
  intro now rains length poles parts plain key stair air acnt tcnt letters cells kinds frames rainsB abouts stoods kept keptF keptR seed thrown textSize place stock partsM readStock readCells readParts acts tried soonMany soonWhich kindMany kindFirst restMany restFirst text lies kind readPart page trial book keptM isKept triedAbout triedIs gains value seedM ls H locs hI hP hD hS hl
  obtain ⟨L, sp, n, na, tr, cl, kd, rfl, rfl, rfl, rfl, rfl, rfl, rfl, rfl, rfl, rfl, rfl, rfl, rfl, rfl, hC⟩ := hI
  refine lv_aload_n hx hb dL_law_467 rfl (lv_at hl 1 rfl) ?_
  refine lv_aload_n hx hb dL_law_468 rfl (lv_at hl 0 rfl) ?_
  refine lv_iload_n hx hb dL_law_469 rfl (lv_at hl 3 rfl) ?_
  refine lv_iconst (v := (1 : Int32)) hx hb dL_law_470 (by decide) ?_
  refine lv_iadd hx hb dL_law_471 ?_
  refine lv_rw (z := nI (i + 1)) (nI_add i 1) ?_
  refine va_sld hx hb hX hbl hbA hS (vp_in_nI (show i + 1 < LL by omega) (by omega)) dL_law_472 ?_
  refine lv_rw (z := xs (i + 1)) (congrArg xs (nI_clamp (by omega))) ?_
  refine lv_aload_n hx hb dL_law_473 rfl (lv_at hl 0 rfl) ?_
  refine lv_iload_n hx hb dL_law_474 rfl (lv_at hl 3 rfl) ?_
  refine lv_iconst (v := (2 : Int32)) hx hb dL_law_475 (by decide) ?_
  refine lv_iadd hx hb dL_law_476 ?_
  refine lv_rw (z := nI (i + 2)) (nI_add i 2) ?_
  refine va_sld hx hb hX hbl hbA hS (vp_in_nI (show i + 2 < LL by omega) (by omega)) dL_law_477 ?_
  refine lv_rw (z := xs (i + 2)) (congrArg xs (nI_clamp (by omega))) ?_
  refine lv_i2l (v := (xs (i + 2)).toInt64) hx hb dL_law_478 rfl ?_
  refine lv_bipush (v := (32 : Int32)) hx hb dL_law_479 (by decide) ?_
  refine lv_lshl (v := ((xs (i + 2)).toInt64 <<< ((32 : Int32).toInt64 &&& 63))) hx hb dL_law_481 rfl ?_
  refine lv_aload_n hx hb dL_law_482 rfl (lv_at hl 0 rfl) ?_
  refine lv_iload_n hx hb dL_law_483 rfl (lv_at hl 3 rfl) ?_
  refine lv_iconst (v := (3 : Int32)) hx hb dL_law_484 (by decide) ?_
  refine lv_iadd hx hb dL_law_485 ?_
  refine lv_rw (z := nI (i + 3)) (nI_add i 3) ?_
  refine va_sld hx hb hX hbl hbA hS (vp_in_nI (show i + 3 < LL by omega) (by omega)) dL_law_486 ?_
  refine lv_rw (z := xs (i + 3)) (congrArg xs (nI_clamp (by omega))) ?_
  refine lv_i2l (v := (xs (i + 3)).toInt64) hx hb dL_law_487 rfl ?_
  refine lv_ldc2 (v := (4294967295 : Int64)) hx hb hown (hts _ tm_4_90) dL_law_488 ?_
  refine lv_land hx hb dL_law_491 ?_
  refine lv_lor hx hb dL_law_492 ?_
  refine vRdI (b := (qx 0)) (As := [.int (xs (i + 1)), .long (((xs (i + 2)).toInt64 <<< ((32 : Int32).toInt64 &&& 63)) ||| ((xs (i + 3)).toInt64 &&& (4294967295 : Int64)))]) (rest := []) hF (c_X5_judge l D cI cZ qx now rains (nI L) (nI sp) (nI n) plain key stair air (nI na) (nI tr) text cells kinds frames rainsB triedAbout triedIs kept keptF keptR seed (xs (i + 1)) (((xs (i + 2)).toInt64 <<< ((32 : Int32).toInt64 &&& 63)) ||| ((xs (i + 3)).toInt64 &&& (4294967295 : Int64)))) (gdV tm_2_119 tm_2_120 tm_2_121 tm_1_1 tm_2_122) de_X5_judge ⟨Nat.le_of_ble_eq_true rfl, Nat.le_of_ble_eq_true rfl⟩ hP.lef hK (va_recv hK hP.lef (ci := 4) (q0 := 0) rfl XW_0) hl.1 rfl (Nat.le_of_ble_eq_true rfl) dL_law_493 ⟨Nat.le_of_ble_eq_true rfl, Nat.le_of_ble_eq_true rfl⟩ ?_
  refine lv_aload_n hx hb dL_law_496 rfl (lv_at hl 2 rfl) ?_
  refine lv_aload_n hx hb dL_law_497 rfl (lv_at hl 0 rfl) ?_
  refine lv_iload_n hx hb dL_law_498 rfl (lv_at hl 3 rfl) ?_
  refine lv_iconst (v := (1 : Int32)) hx hb dL_law_499 (by decide) ?_
  refine lv_iadd hx hb dL_law_500 ?_
  refine lv_rw (z := nI (i + 1)) (nI_add i 1) ?_
  refine va_sld hx hb hX hbl hbA hS (vp_in_nI (show i + 1 < LL by omega) (by omega)) dL_law_501 ?_
  refine lv_rw (z := xs (i + 1)) (congrArg xs (nI_clamp (by omega))) ?_
  refine lv_aload_n hx hb dL_law_502 rfl (lv_at hl 0 rfl) ?_
  refine lv_iload_n hx hb dL_law_503 rfl (lv_at hl 3 rfl) ?_
  refine lv_iconst (v := (2 : Int32)) hx hb dL_law_504 (by decide) ?_
  refine lv_iadd hx hb dL_law_505 ?_
  refine lv_rw (z := nI (i + 2)) (nI_add i 2) ?_
  refine va_sld hx hb hX hbl hbA hS (vp_in_nI (show i + 2 < LL by omega) (by omega)) dL_law_506 ?_
  refine lv_rw (z := xs (i + 2)) (congrArg xs (nI_clamp (by omega))) ?_
  refine lv_i2l (v := (xs (i + 2)).toInt64) hx hb dL_law_507 rfl ?_
  refine lv_bipush (v := (32 : Int32)) hx hb dL_law_508 (by decide) ?_
  refine lv_lshl (v := ((xs (i + 2)).toInt64 <<< ((32 : Int32).toInt64 &&& 63))) hx hb dL_law_510 rfl ?_
  refine lv_aload_n hx hb dL_law_511 rfl (lv_at hl 0 rfl) ?_
  refine lv_iload_n hx hb dL_law_512 rfl (lv_at hl 3 rfl) ?_
  refine lv_iconst (v := (3 : Int32)) hx hb dL_law_513 (by decide) ?_
  refine lv_iadd hx hb dL_law_514 ?_
  refine lv_rw (z := nI (i + 3)) (nI_add i 3) ?_
  refine va_sld hx hb hX hbl hbA hS (vp_in_nI (show i + 3 < LL by omega) (by omega)) dL_law_515 ?_
  refine lv_rw (z := xs (i + 3)) (congrArg xs (nI_clamp (by omega))) ?_
  refine lv_i2l (v := (xs (i + 3)).toInt64) hx hb dL_law_516 rfl ?_
  refine lv_ldc2 (v := (4294967295 : Int64)) hx hb hown (hts _ tm_4_90) dL_law_517 ?_
  refine lv_land hx hb dL_law_520 ?_
  refine lv_lor hx hb dL_law_521 ?_
  refine mWrI (b := (qm 0)) (As := [.int (xs (i + 1)), .long (((xs (i + 2)).toInt64 <<< ((32 : Int32).toInt64 &&& 63)) ||| ((xs (i + 3)).toInt64 &&& (4294967295 : Int64)))]) (rest := [.int (f_X5_judge now (nI sp) (nI n) plain key stair air cells (xs (i + 1)) (((xs (i + 2)).toInt64 <<< ((32 : Int32).toInt64 &&& 63)) ||| ((xs (i + 3)).toInt64 &&& (4294967295 : Int64))))]) hF (c_X6_judge l D cI cZ qm thrown (nI L) place (nI sp) n readStock readCells readParts (nI na) (nI tr) soonMany soonWhich kindMany kindFirst restMany restFirst text lies kind readPart page trial book keptM isKept triedAbout triedIs gains value seed (xs (i + 1)) (((xs (i + 2)).toInt64 <<< ((32 : Int32).toInt64 &&& 63)) ||| ((xs (i + 3)).toInt64 &&& (4294967295 : Int64))) hC.hn cl hC.hcl) (gdV tm_4_5 tm_4_6 tm_4_7 tm_1_6 tm_4_8) de_X6_judge ⟨Nat.le_of_ble_eq_true rfl, Nat.le_of_ble_eq_true rfl⟩ hP hK (va_recv hK hP.rig (ci := 5) (q0 := 0) rfl MW_0) hl.1 rfl (Nat.le_of_ble_eq_true rfl) dL_law_522 ⟨Nat.le_of_ble_eq_true rfl, Nat.le_of_ble_eq_true rfl⟩ hD hS (MW_ad.trans MW_ad.symm) (fun H locs hP hD hS => ?_)
  have ho := op_judge L sp n na tr cl kd now rains plain key stair air thrown place readStock readCells readParts soonMany soonWhich kindMany kindFirst restMany restFirst text triedAbout triedIs cells kinds frames rainsB kept keptF keptR lies kind readPart page trial book keptM isKept gains value seed (xs (i + 1)) (((xs (i + 2)).toInt64 <<< ((32 : Int32).toInt64 &&& 63)) ||| ((xs (i + 3)).toInt64 &&& (4294967295 : Int64)))  hC
  refine lv_icmp_eq (tgt := 873) hx hb dL_law_525 (by decide) (fun c_525 => ?_) (fun c_525 => absurd ho.1 c_525)
  exact kk now rains (nI L) (nI sp) (nI n) plain key stair air (nI na) (nI tr) text cells kinds frames rainsB triedAbout triedIs kept keptF keptR seed (f_X6_judge cl n lies kind page trial (xs (i + 1)) (((xs (i + 2)).toInt64 <<< ((32 : Int32).toInt64 &&& 63)) ||| ((xs (i + 3)).toInt64 &&& (4294967295 : Int64)))).2.1 (nI L) place (nI sp) (nI n) readStock readCells readParts (nI na) (nI tr) soonMany soonWhich kindMany kindFirst restMany restFirst text lies kind readPart page (f_X6_judge cl n lies kind page trial (xs (i + 1)) (((xs (i + 2)).toInt64 <<< ((32 : Int32).toInt64 &&& 63)) ||| ((xs (i + 3)).toInt64 &&& (4294967295 : Int64)))).2.2 book keptM isKept triedAbout triedIs gains value seed ls H locs ho.2 hP hD hS hl
set_option maxHeartbeats 4000000 in
set_option maxRecDepth 100000 in
theorem lc_share {p : Program} {l : Launch} {e : Env} {s : State} {m : MethodId} {below : List Frame} {meth : Method} {c : Code} {D : va_G} {cI cZ : ClassId} {qx qm : Nat → Nat} {b LL : Nat} {xs : Nat → Int32} (hLL : LL ≤ 2048) (C0 : lw_At p s m meth c b LL xs) (hK : va_K D vwCl (tyL cI cZ) s) {i : Nat} (hi : i + 3 < LL) (kk : LK p l e s m below meth c D cI cZ qx qm b i 873) : LK p l e s m below meth c D cI cZ qx qm b i 530 := by
  obtain ⟨hx, hb, hr, hml, hown, hts0, hX, hbl, hlocks, hgv⟩ := C0
  have hts : ∀ w ∈ tb, w.before #[Value.ref b] s = true := fun w h => hts0 w (tb_in w h)
  have hF : CallFix p m c code 4 s #[Value.ref b] tb RL := ⟨hx, hb, hml, hown, hts⟩
  have hown : s.vm.findClass RL = some m.cls := hown
  have hbA : ¬ (fun q : Nat => s.heap.size ≤ q) b := Nat.not_le.mpr hbl
  intro now rains length poles parts plain key stair air acnt tcnt letters cells kinds frames rainsB abouts stoods kept keptF keptR seed thrown textSize place stock partsM readStock readCells readParts acts tried soonMany soonWhich kindMany kindFirst restMany restFirst text lies kind readPart page trial book keptM isKept triedAbout triedIs gains value seedM ls H locs hI hP hD hS hl
  obtain ⟨L, sp, n, na, tr, cl, kd, rfl, rfl, rfl, rfl, rfl, rfl, rfl, rfl, rfl, rfl, rfl, rfl, rfl, rfl, hC⟩ := hI
  refine lv_aload_n hx hb dL_law_530 rfl (lv_at hl 1 rfl) ?_
  refine lv_aload_n hx hb dL_law_531 rfl (lv_at hl 0 rfl) ?_
  refine lv_iload_n hx hb dL_law_532 rfl (lv_at hl 3 rfl) ?_
  refine lv_iconst (v := (1 : Int32)) hx hb dL_law_533 (by decide) ?_
  refine lv_iadd hx hb dL_law_534 ?_
  refine lv_rw (z := nI (i + 1)) (nI_add i 1) ?_
  refine va_sld hx hb hX hbl hbA hS (vp_in_nI (show i + 1 < LL by omega) (by omega)) dL_law_535 ?_
  refine lv_rw (z := xs (i + 1)) (congrArg xs (nI_clamp (by omega))) ?_
  refine lv_aload_n hx hb dL_law_536 rfl (lv_at hl 0 rfl) ?_
  refine lv_iload_n hx hb dL_law_537 rfl (lv_at hl 3 rfl) ?_
  refine lv_iconst (v := (2 : Int32)) hx hb dL_law_538 (by decide) ?_
  refine lv_iadd hx hb dL_law_539 ?_
  refine lv_rw (z := nI (i + 2)) (nI_add i 2) ?_
  refine va_sld hx hb hX hbl hbA hS (vp_in_nI (show i + 2 < LL by omega) (by omega)) dL_law_540 ?_
  refine lv_rw (z := xs (i + 2)) (congrArg xs (nI_clamp (by omega))) ?_
  refine lv_if_eq (tgt := 548) hx hb dL_law_541 (by decide) (fun c_541 => ?_) (fun c_541 => ?_)
  · skip
    refine lv_iconst (v := (0 : Int32)) hx hb dL_law_548 (by decide) ?_
    refine vRdI (b := (qx 0)) (As := [.int (xs (i + 1)), .int (0 : Int32)]) (rest := []) hF (c_X5_share l D cI cZ qx now rains (nI L) (nI sp) (nI n) plain key stair air (nI na) (nI tr) text cells kinds frames rainsB triedAbout triedIs kept keptF keptR seed (xs (i + 1)) (0 : Int32) n rfl hC.hn) (gdV tm_2_135 tm_2_136 tm_2_137 tm_1_1 tm_2_138) de_X5_share ⟨Nat.le_of_ble_eq_true rfl, Nat.le_of_ble_eq_true rfl⟩ hP.lef hK (va_recv hK hP.lef (ci := 4) (q0 := 0) rfl XW_0) hl.1 rfl (Nat.le_of_ble_eq_true rfl) dL_law_549 ⟨Nat.le_of_ble_eq_true rfl, Nat.le_of_ble_eq_true rfl⟩ ?_
    refine lv_aload_n hx hb dL_law_552 rfl (lv_at hl 2 rfl) ?_
    refine lv_aload_n hx hb dL_law_553 rfl (lv_at hl 0 rfl) ?_
    refine lv_iload_n hx hb dL_law_554 rfl (lv_at hl 3 rfl) ?_
    refine lv_iconst (v := (1 : Int32)) hx hb dL_law_555 (by decide) ?_
    refine lv_iadd hx hb dL_law_556 ?_
    refine lv_rw (z := nI (i + 1)) (nI_add i 1) ?_
    refine va_sld hx hb hX hbl hbA hS (vp_in_nI (show i + 1 < LL by omega) (by omega)) dL_law_557 ?_
    refine lv_rw (z := xs (i + 1)) (congrArg xs (nI_clamp (by omega))) ?_
    refine lv_aload_n hx hb dL_law_558 rfl (lv_at hl 0 rfl) ?_
    refine lv_iload_n hx hb dL_law_559 rfl (lv_at hl 3 rfl) ?_
    refine lv_iconst (v := (2 : Int32)) hx hb dL_law_560 (by decide) ?_
    refine lv_iadd hx hb dL_law_561 ?_
    refine lv_rw (z := nI (i + 2)) (nI_add i 2) ?_
    refine va_sld hx hb hX hbl hbA hS (vp_in_nI (show i + 2 < LL by omega) (by omega)) dL_law_562 ?_
    refine lv_rw (z := xs (i + 2)) (congrArg xs (nI_clamp (by omega))) ?_
    refine lv_if_eq (tgt := 570) hx hb dL_law_563 (by decide) (fun c_563 => ?_) (fun c_563 => absurd c_541 c_563)
    refine lv_iconst (v := (0 : Int32)) hx hb dL_law_570 (by decide) ?_
    refine mWrI (b := (qm 0)) (As := [.int (xs (i + 1)), .int (0 : Int32)]) (rest := [.int (f_X5_share n (nI n) plain key stair air cells (xs (i + 1)) (0 : Int32))]) hF (c_X6_share l D cI cZ qm thrown (nI L) place (nI sp) n readStock readCells readParts (nI na) (nI tr) soonMany soonWhich kindMany kindFirst restMany restFirst text lies kind readPart page trial book keptM isKept triedAbout triedIs gains value seed (xs (i + 1)) (0 : Int32) hC.hn cl hC.hcl) (gdV tm_4_22 tm_4_23 tm_4_24 tm_1_6 tm_4_25) de_X6_share ⟨Nat.le_of_ble_eq_true rfl, Nat.le_of_ble_eq_true rfl⟩ hP hK (va_recv hK hP.rig (ci := 5) (q0 := 0) rfl MW_0) hl.1 rfl (Nat.le_of_ble_eq_true rfl) dL_law_571 ⟨Nat.le_of_ble_eq_true rfl, Nat.le_of_ble_eq_true rfl⟩ hD hS (MW_ad.trans MW_ad.symm) (fun H locs hP hD hS => ?_)
    have ho := op_share L sp n na tr cl kd now rains plain key stair air thrown place readStock readCells readParts soonMany soonWhich kindMany kindFirst restMany restFirst text triedAbout triedIs cells kinds frames rainsB kept keptF keptR lies kind readPart page trial book keptM isKept gains value seed (xs (i + 1)) (0 : Int32) (by decide) hC
    refine lv_icmp_eq (tgt := 873) hx hb dL_law_574 (by decide) (fun c_574 => ?_) (fun c_574 => absurd ho.1 c_574)
    exact kk now rains (nI L) (nI sp) (nI n) plain key stair air (nI na) (nI tr) text cells kinds frames rainsB triedAbout triedIs kept keptF keptR seed (f_X6_share cl n lies kind page trial value (xs (i + 1)) (0 : Int32)).2.1 (nI L) place (nI sp) (nI n) readStock readCells readParts (nI na) (nI tr) soonMany soonWhich kindMany kindFirst restMany restFirst text lies kind readPart page (f_X6_share cl n lies kind page trial value (xs (i + 1)) (0 : Int32)).2.2.1 book keptM isKept triedAbout triedIs gains (f_X6_share cl n lies kind page trial value (xs (i + 1)) (0 : Int32)).2.2.2 seed ls H locs ho.2 hP hD hS hl
  · skip
    refine lv_iconst (v := (1 : Int32)) hx hb dL_law_544 (by decide) ?_
    refine lv_goto (tgt := 549) hx hb dL_law_545 (by decide) ?_
    refine vRdI (b := (qx 0)) (As := [.int (xs (i + 1)), .int (1 : Int32)]) (rest := []) hF (c_X5_share l D cI cZ qx now rains (nI L) (nI sp) (nI n) plain key stair air (nI na) (nI tr) text cells kinds frames rainsB triedAbout triedIs kept keptF keptR seed (xs (i + 1)) (1 : Int32) n rfl hC.hn) (gdV tm_2_135 tm_2_136 tm_2_137 tm_1_1 tm_2_138) de_X5_share ⟨Nat.le_of_ble_eq_true rfl, Nat.le_of_ble_eq_true rfl⟩ hP.lef hK (va_recv hK hP.lef (ci := 4) (q0 := 0) rfl XW_0) hl.1 rfl (Nat.le_of_ble_eq_true rfl) dL_law_549 ⟨Nat.le_of_ble_eq_true rfl, Nat.le_of_ble_eq_true rfl⟩ ?_
    refine lv_aload_n hx hb dL_law_552 rfl (lv_at hl 2 rfl) ?_
    refine lv_aload_n hx hb dL_law_553 rfl (lv_at hl 0 rfl) ?_
    refine lv_iload_n hx hb dL_law_554 rfl (lv_at hl 3 rfl) ?_
    refine lv_iconst (v := (1 : Int32)) hx hb dL_law_555 (by decide) ?_
    refine lv_iadd hx hb dL_law_556 ?_
    refine lv_rw (z := nI (i + 1)) (nI_add i 1) ?_
    refine va_sld hx hb hX hbl hbA hS (vp_in_nI (show i + 1 < LL by omega) (by omega)) dL_law_557 ?_
    refine lv_rw (z := xs (i + 1)) (congrArg xs (nI_clamp (by omega))) ?_
    refine lv_aload_n hx hb dL_law_558 rfl (lv_at hl 0 rfl) ?_
    refine lv_iload_n hx hb dL_law_559 rfl (lv_at hl 3 rfl) ?_
    refine lv_iconst (v := (2 : Int32)) hx hb dL_law_560 (by decide) ?_
    refine lv_iadd hx hb dL_law_561 ?_
    refine lv_rw (z := nI (i + 2)) (nI_add i 2) ?_
    refine va_sld hx hb hX hbl hbA hS (vp_in_nI (show i + 2 < LL by omega) (by omega)) dL_law_562 ?_
    refine lv_rw (z := xs (i + 2)) (congrArg xs (nI_clamp (by omega))) ?_
    refine lv_if_eq (tgt := 570) hx hb dL_law_563 (by decide) (fun c_563 => absurd c_563 c_541) (fun c_563 => ?_)
    refine lv_iconst (v := (1 : Int32)) hx hb dL_law_566 (by decide) ?_
    refine lv_goto (tgt := 571) hx hb dL_law_567 (by decide) ?_
    refine mWrI (b := (qm 0)) (As := [.int (xs (i + 1)), .int (1 : Int32)]) (rest := [.int (f_X5_share n (nI n) plain key stair air cells (xs (i + 1)) (1 : Int32))]) hF (c_X6_share l D cI cZ qm thrown (nI L) place (nI sp) n readStock readCells readParts (nI na) (nI tr) soonMany soonWhich kindMany kindFirst restMany restFirst text lies kind readPart page trial book keptM isKept triedAbout triedIs gains value seed (xs (i + 1)) (1 : Int32) hC.hn cl hC.hcl) (gdV tm_4_22 tm_4_23 tm_4_24 tm_1_6 tm_4_25) de_X6_share ⟨Nat.le_of_ble_eq_true rfl, Nat.le_of_ble_eq_true rfl⟩ hP hK (va_recv hK hP.rig (ci := 5) (q0 := 0) rfl MW_0) hl.1 rfl (Nat.le_of_ble_eq_true rfl) dL_law_571 ⟨Nat.le_of_ble_eq_true rfl, Nat.le_of_ble_eq_true rfl⟩ hD hS (MW_ad.trans MW_ad.symm) (fun H locs hP hD hS => ?_)
    have ho := op_share L sp n na tr cl kd now rains plain key stair air thrown place readStock readCells readParts soonMany soonWhich kindMany kindFirst restMany restFirst text triedAbout triedIs cells kinds frames rainsB kept keptF keptR lies kind readPart page trial book keptM isKept gains value seed (xs (i + 1)) (1 : Int32) (by decide) hC
    refine lv_icmp_eq (tgt := 873) hx hb dL_law_574 (by decide) (fun c_574 => ?_) (fun c_574 => absurd ho.1 c_574)
    exact kk now rains (nI L) (nI sp) (nI n) plain key stair air (nI na) (nI tr) text cells kinds frames rainsB triedAbout triedIs kept keptF keptR seed (f_X6_share cl n lies kind page trial value (xs (i + 1)) (1 : Int32)).2.1 (nI L) place (nI sp) (nI n) readStock readCells readParts (nI na) (nI tr) soonMany soonWhich kindMany kindFirst restMany restFirst text lies kind readPart page (f_X6_share cl n lies kind page trial value (xs (i + 1)) (1 : Int32)).2.2.1 book keptM isKept triedAbout triedIs gains (f_X6_share cl n lies kind page trial value (xs (i + 1)) (1 : Int32)).2.2.2 seed ls H locs ho.2 hP hD hS hl
set_option maxHeartbeats 4000000 in
set_option maxRecDepth 100000 in
theorem lc_attempt {p : Program} {l : Launch} {e : Env} {s : State} {m : MethodId} {below : List Frame} {meth : Method} {c : Code} {D : va_G} {cI cZ : ClassId} {qx qm : Nat → Nat} {b LL : Nat} {xs : Nat → Int32} (hLL : LL ≤ 2048) (C0 : lw_At p s m meth c b LL xs) (hK : va_K D vwCl (tyL cI cZ) s) {i : Nat} (hi : i + 3 < LL) (kk : LK p l e s m below meth c D cI cZ qx qm b i 873) : LK p l e s m below meth c D cI cZ qx qm b i 579 := by
  obtain ⟨hx, hb, hr, hml, hown, hts0, hX, hbl, hlocks, hgv⟩ := C0
  have hts : ∀ w ∈ tb, w.before #[Value.ref b] s = true := fun w h => hts0 w (tb_in w h)
  have hF : CallFix p m c code 4 s #[Value.ref b] tb RL := ⟨hx, hb, hml, hown, hts⟩
  have hown : s.vm.findClass RL = some m.cls := hown
  have hbA : ¬ (fun q : Nat => s.heap.size ≤ q) b := Nat.not_le.mpr hbl
  intro now rains length poles parts plain key stair air acnt tcnt letters cells kinds frames rainsB abouts stoods kept keptF keptR seed thrown textSize place stock partsM readStock readCells readParts acts tried soonMany soonWhich kindMany kindFirst restMany restFirst text lies kind readPart page trial book keptM isKept triedAbout triedIs gains value seedM ls H locs hI hP hD hS hl
  obtain ⟨L, sp, n, na, tr, cl, kd, rfl, rfl, rfl, rfl, rfl, rfl, rfl, rfl, rfl, rfl, rfl, rfl, rfl, rfl, hC⟩ := hI
  refine lv_aload_n hx hb dL_law_579 rfl (lv_at hl 1 rfl) ?_
  refine lv_aload_n hx hb dL_law_580 rfl (lv_at hl 0 rfl) ?_
  refine lv_iload_n hx hb dL_law_581 rfl (lv_at hl 3 rfl) ?_
  refine lv_iconst (v := (1 : Int32)) hx hb dL_law_582 (by decide) ?_
  refine lv_iadd hx hb dL_law_583 ?_
  refine lv_rw (z := nI (i + 1)) (nI_add i 1) ?_
  refine va_sld hx hb hX hbl hbA hS (vp_in_nI (show i + 1 < LL by omega) (by omega)) dL_law_584 ?_
  refine lv_rw (z := xs (i + 1)) (congrArg xs (nI_clamp (by omega))) ?_
  refine lv_aload_n hx hb dL_law_585 rfl (lv_at hl 0 rfl) ?_
  refine lv_iload_n hx hb dL_law_586 rfl (lv_at hl 3 rfl) ?_
  refine lv_iconst (v := (2 : Int32)) hx hb dL_law_587 (by decide) ?_
  refine lv_iadd hx hb dL_law_588 ?_
  refine lv_rw (z := nI (i + 2)) (nI_add i 2) ?_
  refine va_sld hx hb hX hbl hbA hS (vp_in_nI (show i + 2 < LL by omega) (by omega)) dL_law_589 ?_
  refine lv_rw (z := xs (i + 2)) (congrArg xs (nI_clamp (by omega))) ?_
  refine xWrI (b := (qx 0)) (As := [.int (xs (i + 1)), .int (xs (i + 2))]) (rest := []) hF (c_X5_attempt l D cI cZ qx now rains (nI L) (nI sp) (nI n) plain key stair air (nI na) (nI tr) text cells kinds frames rainsB triedAbout triedIs kept keptF keptR seed (xs (i + 1)) (xs (i + 2))) (gdV tm_2_157 tm_2_158 tm_2_159 tm_1_1 tm_2_160) de_X5_attempt ⟨Nat.le_of_ble_eq_true rfl, Nat.le_of_ble_eq_true rfl⟩ hP hK (va_recv hK hP.lef (ci := 4) (q0 := 0) rfl XW_0) hl.1 rfl (Nat.le_of_ble_eq_true rfl) dL_law_590 ⟨Nat.le_of_ble_eq_true rfl, Nat.le_of_ble_eq_true rfl⟩ hD hS (XW_ad.trans XW_ad.symm) (fun H locs hP hD hS => ?_)
  refine lv_aload_n hx hb dL_law_593 rfl (lv_at hl 2 rfl) ?_
  refine lv_aload_n hx hb dL_law_594 rfl (lv_at hl 0 rfl) ?_
  refine lv_iload_n hx hb dL_law_595 rfl (lv_at hl 3 rfl) ?_
  refine lv_iconst (v := (1 : Int32)) hx hb dL_law_596 (by decide) ?_
  refine lv_iadd hx hb dL_law_597 ?_
  refine lv_rw (z := nI (i + 1)) (nI_add i 1) ?_
  refine va_sld hx hb hX hbl hbA hS (vp_in_nI (show i + 1 < LL by omega) (by omega)) dL_law_598 ?_
  refine lv_rw (z := xs (i + 1)) (congrArg xs (nI_clamp (by omega))) ?_
  refine lv_aload_n hx hb dL_law_599 rfl (lv_at hl 0 rfl) ?_
  refine lv_iload_n hx hb dL_law_600 rfl (lv_at hl 3 rfl) ?_
  refine lv_iconst (v := (2 : Int32)) hx hb dL_law_601 (by decide) ?_
  refine lv_iadd hx hb dL_law_602 ?_
  refine lv_rw (z := nI (i + 2)) (nI_add i 2) ?_
  refine va_sld hx hb hX hbl hbA hS (vp_in_nI (show i + 2 < LL by omega) (by omega)) dL_law_603 ?_
  refine lv_rw (z := xs (i + 2)) (congrArg xs (nI_clamp (by omega))) ?_
  refine mWrI (b := (qm 0)) (As := [.int (xs (i + 1)), .int (xs (i + 2))]) (rest := [.int (f_X5_attempt (nI tr) triedAbout triedIs (xs (i + 1)) (xs (i + 2))).1]) hF (c_X6_attempt l D cI cZ qm thrown (nI L) place (nI sp) (nI n) readStock readCells readParts (nI na) tr soonMany soonWhich kindMany kindFirst restMany restFirst text lies kind readPart page trial book keptM isKept triedAbout triedIs gains value seed (xs (i + 1)) (xs (i + 2)) hC.htr) (gdV tm_4_35 tm_4_36 tm_4_37 tm_1_6 tm_4_38) de_X6_attempt ⟨Nat.le_of_ble_eq_true rfl, Nat.le_of_ble_eq_true rfl⟩ hP hK (va_recv hK hP.rig (ci := 5) (q0 := 0) rfl MW_0) hl.1 rfl (Nat.le_of_ble_eq_true rfl) dL_law_604 ⟨Nat.le_of_ble_eq_true rfl, Nat.le_of_ble_eq_true rfl⟩ hD hS (MW_ad.trans MW_ad.symm) (fun H locs hP hD hS => ?_)
  have ho := op_attempt L sp n na tr cl kd now rains plain key stair air thrown place readStock readCells readParts soonMany soonWhich kindMany kindFirst restMany restFirst text triedAbout triedIs cells kinds frames rainsB kept keptF keptR lies kind readPart page trial book keptM isKept gains value seed (xs (i + 1)) (xs (i + 2))  hC
  refine lv_icmp_eq (tgt := 873) hx hb dL_law_607 (by decide) (fun c_607 => ?_) (fun c_607 => absurd ho.1 c_607)
  exact kk now rains (nI L) (nI sp) (nI n) plain key stair air (nI na) (f_X5_attempt (nI tr) triedAbout triedIs (xs (i + 1)) (xs (i + 2))).2.1 text cells kinds frames rainsB (f_X5_attempt (nI tr) triedAbout triedIs (xs (i + 1)) (xs (i + 2))).2.2.1 (f_X5_attempt (nI tr) triedAbout triedIs (xs (i + 1)) (xs (i + 2))).2.2.2 kept keptF keptR seed (f_X6_attempt tr triedAbout triedIs (xs (i + 1)) (xs (i + 2))).2.1 (nI L) place (nI sp) (nI n) readStock readCells readParts (nI na) (f_X6_attempt tr triedAbout triedIs (xs (i + 1)) (xs (i + 2))).2.2.1 soonMany soonWhich kindMany kindFirst restMany restFirst text lies kind readPart page trial book keptM isKept (f_X6_attempt tr triedAbout triedIs (xs (i + 1)) (xs (i + 2))).2.2.2.1 (f_X6_attempt tr triedAbout triedIs (xs (i + 1)) (xs (i + 2))).2.2.2.2 gains value seed ls H locs ho.2 hP hD hS hl
set_option maxHeartbeats 4000000 in
set_option maxRecDepth 100000 in
theorem lc_unattempt {p : Program} {l : Launch} {e : Env} {s : State} {m : MethodId} {below : List Frame} {meth : Method} {c : Code} {D : va_G} {cI cZ : ClassId} {qx qm : Nat → Nat} {b LL : Nat} {xs : Nat → Int32} (hLL : LL ≤ 2048) (C0 : lw_At p s m meth c b LL xs) (hK : va_K D vwCl (tyL cI cZ) s) {i : Nat} (hi : i + 3 < LL) (kk : LK p l e s m below meth c D cI cZ qx qm b i 873) : LK p l e s m below meth c D cI cZ qx qm b i 612 := by
  obtain ⟨hx, hb, hr, hml, hown, hts0, hX, hbl, hlocks, hgv⟩ := C0
  have hts : ∀ w ∈ tb, w.before #[Value.ref b] s = true := fun w h => hts0 w (tb_in w h)
  have hF : CallFix p m c code 4 s #[Value.ref b] tb RL := ⟨hx, hb, hml, hown, hts⟩
  have hown : s.vm.findClass RL = some m.cls := hown
  have hbA : ¬ (fun q : Nat => s.heap.size ≤ q) b := Nat.not_le.mpr hbl
  intro now rains length poles parts plain key stair air acnt tcnt letters cells kinds frames rainsB abouts stoods kept keptF keptR seed thrown textSize place stock partsM readStock readCells readParts acts tried soonMany soonWhich kindMany kindFirst restMany restFirst text lies kind readPart page trial book keptM isKept triedAbout triedIs gains value seedM ls H locs hI hP hD hS hl
  obtain ⟨L, sp, n, na, tr, cl, kd, rfl, rfl, rfl, rfl, rfl, rfl, rfl, rfl, rfl, rfl, rfl, rfl, rfl, rfl, hC⟩ := hI
  refine lv_aload_n hx hb dL_law_612 rfl (lv_at hl 1 rfl) ?_
  refine xWrI (b := (qx 0)) (As := []) (rest := []) hF (c_X5_unattempt l D cI cZ qx now rains (nI L) (nI sp) (nI n) plain key stair air (nI na) (nI tr) text cells kinds frames rainsB triedAbout triedIs kept keptF keptR seed) (gdV tm_2_165 tm_2_166 tm_2_167 tm_1_1 tm_2_168) de_X5_unattempt ⟨Nat.le_of_ble_eq_true rfl, Nat.le_of_ble_eq_true rfl⟩ hP hK (va_recv hK hP.lef (ci := 4) (q0 := 0) rfl XW_0) hl.1 rfl (Nat.le_of_ble_eq_true rfl) dL_law_613 ⟨Nat.le_of_ble_eq_true rfl, Nat.le_of_ble_eq_true rfl⟩ hD hS (XW_ad.trans XW_ad.symm) (fun H locs hP hD hS => ?_)
  refine lv_aload_n hx hb dL_law_616 rfl (lv_at hl 2 rfl) ?_
  refine mWrI (b := (qm 0)) (As := []) (rest := [.int (f_X5_unattempt (nI tr)).1]) hF (c_X6_unattempt l D cI cZ qm thrown (nI L) place (nI sp) (nI n) readStock readCells readParts (nI na) (nI tr) soonMany soonWhich kindMany kindFirst restMany restFirst text lies kind readPart page trial book keptM isKept triedAbout triedIs gains value seed) (gdV tm_4_40 tm_4_41 tm_4_42 tm_1_6 tm_4_43) de_X6_unattempt ⟨Nat.le_of_ble_eq_true rfl, Nat.le_of_ble_eq_true rfl⟩ hP hK (va_recv hK hP.rig (ci := 5) (q0 := 0) rfl MW_0) hl.1 rfl (Nat.le_of_ble_eq_true rfl) dL_law_617 ⟨Nat.le_of_ble_eq_true rfl, Nat.le_of_ble_eq_true rfl⟩ hD hS (MW_ad.trans MW_ad.symm) (fun H locs hP hD hS => ?_)
  have ho := op_unattempt L sp n na tr cl kd now rains plain key stair air thrown place readStock readCells readParts soonMany soonWhich kindMany kindFirst restMany restFirst text triedAbout triedIs cells kinds frames rainsB kept keptF keptR lies kind readPart page trial book keptM isKept gains value seed   hC
  refine lv_icmp_eq (tgt := 873) hx hb dL_law_620 (by decide) (fun c_620 => ?_) (fun c_620 => absurd ho.1 c_620)
  exact kk now rains (nI L) (nI sp) (nI n) plain key stair air (nI na) (f_X5_unattempt (nI tr)).2 text cells kinds frames rainsB triedAbout triedIs kept keptF keptR seed (f_X6_unattempt (nI tr)).2.1 (nI L) place (nI sp) (nI n) readStock readCells readParts (nI na) (f_X6_unattempt (nI tr)).2.2 soonMany soonWhich kindMany kindFirst restMany restFirst text lies kind readPart page trial book keptM isKept triedAbout triedIs gains value seed ls H locs ho.2 hP hD hS hl
set_option maxHeartbeats 4000000 in
set_option maxRecDepth 100000 in
theorem lc_kinds {p : Program} {l : Launch} {e : Env} {s : State} {m : MethodId} {below : List Frame} {meth : Method} {c : Code} {D : va_G} {cI cZ : ClassId} {qx qm : Nat → Nat} {b LL : Nat} {xs : Nat → Int32} (hLL : LL ≤ 2048) (C0 : lw_At p s m meth c b LL xs) (hK : va_K D vwCl (tyL cI cZ) s) {i : Nat} (hi : i + 3 < LL) (kk : LK p l e s m below meth c D cI cZ qx qm b i 873) : LK p l e s m below meth c D cI cZ qx qm b i 625 := by
  obtain ⟨hx, hb, hr, hml, hown, hts0, hX, hbl, hlocks, hgv⟩ := C0
  have hts : ∀ w ∈ tb, w.before #[Value.ref b] s = true := fun w h => hts0 w (tb_in w h)
  have hF : CallFix p m c code 4 s #[Value.ref b] tb RL := ⟨hx, hb, hml, hown, hts⟩
  have hown : s.vm.findClass RL = some m.cls := hown
  have hbA : ¬ (fun q : Nat => s.heap.size ≤ q) b := Nat.not_le.mpr hbl
  intro now rains length poles parts plain key stair air acnt tcnt letters cells kinds frames rainsB abouts stoods kept keptF keptR seed thrown textSize place stock partsM readStock readCells readParts acts tried soonMany soonWhich kindMany kindFirst restMany restFirst text lies kind readPart page trial book keptM isKept triedAbout triedIs gains value seedM ls H locs hI hP hD hS hl
  obtain ⟨L, sp, n, na, tr, cl, kd, rfl, rfl, rfl, rfl, rfl, rfl, rfl, rfl, rfl, rfl, rfl, rfl, rfl, rfl, hC⟩ := hI
  refine lv_aload_n hx hb dL_law_625 rfl (lv_at hl 1 rfl) ?_
  refine lv_aload_n hx hb dL_law_626 rfl (lv_at hl 0 rfl) ?_
  refine lv_iload_n hx hb dL_law_627 rfl (lv_at hl 3 rfl) ?_
  refine lv_iconst (v := (1 : Int32)) hx hb dL_law_628 (by decide) ?_
  refine lv_iadd hx hb dL_law_629 ?_
  refine lv_rw (z := nI (i + 1)) (nI_add i 1) ?_
  refine va_sld hx hb hX hbl hbA hS (vp_in_nI (show i + 1 < LL by omega) (by omega)) dL_law_630 ?_
  refine lv_rw (z := xs (i + 1)) (congrArg xs (nI_clamp (by omega))) ?_
  refine vRdI (b := (qx 0)) (As := [.int (xs (i + 1))]) (rest := []) hF (c_X5_kinds l D cI cZ qx now rains (nI L) (nI sp) (nI n) plain key stair air (nI na) (nI tr) text cells kinds frames rainsB triedAbout triedIs kept keptF keptR seed (xs (i + 1)) tr rfl hC.htr) (gdV tm_2_169 tm_2_170 tm_2_171 tm_1_1 tm_2_172) de_X5_kinds ⟨Nat.le_of_ble_eq_true rfl, Nat.le_of_ble_eq_true rfl⟩ hP.lef hK (va_recv hK hP.lef (ci := 4) (q0 := 0) rfl XW_0) hl.1 rfl (Nat.le_of_ble_eq_true rfl) dL_law_631 ⟨Nat.le_of_ble_eq_true rfl, Nat.le_of_ble_eq_true rfl⟩ ?_
  refine lv_aload_n hx hb dL_law_634 rfl (lv_at hl 2 rfl) ?_
  refine lv_aload_n hx hb dL_law_635 rfl (lv_at hl 0 rfl) ?_
  refine lv_iload_n hx hb dL_law_636 rfl (lv_at hl 3 rfl) ?_
  refine lv_iconst (v := (1 : Int32)) hx hb dL_law_637 (by decide) ?_
  refine lv_iadd hx hb dL_law_638 ?_
  refine lv_rw (z := nI (i + 1)) (nI_add i 1) ?_
  refine va_sld hx hb hX hbl hbA hS (vp_in_nI (show i + 1 < LL by omega) (by omega)) dL_law_639 ?_
  refine lv_rw (z := xs (i + 1)) (congrArg xs (nI_clamp (by omega))) ?_
  refine mWrI (b := (qm 0)) (As := [.int (xs (i + 1))]) (rest := [.int (f_X5_kinds tr triedAbout triedIs (xs (i + 1)))]) hF (c_X6_kinds l D cI cZ qm thrown (nI L) place (nI sp) (nI n) readStock readCells readParts (nI na) tr soonMany soonWhich kindMany kindFirst restMany restFirst text lies kind readPart page trial book keptM isKept triedAbout triedIs gains value seed (xs (i + 1)) hC.htr) (gdV tm_4_44 tm_4_45 tm_4_46 tm_1_6 tm_4_47) de_X6_kinds ⟨Nat.le_of_ble_eq_true rfl, Nat.le_of_ble_eq_true rfl⟩ hP hK (va_recv hK hP.rig (ci := 5) (q0 := 0) rfl MW_0) hl.1 rfl (Nat.le_of_ble_eq_true rfl) dL_law_640 ⟨Nat.le_of_ble_eq_true rfl, Nat.le_of_ble_eq_true rfl⟩ hD hS (MW_ad.trans MW_ad.symm) (fun H locs hP hD hS => ?_)
  have ho := op_kinds L sp n na tr cl kd now rains plain key stair air thrown place readStock readCells readParts soonMany soonWhich kindMany kindFirst restMany restFirst text triedAbout triedIs cells kinds frames rainsB kept keptF keptR lies kind readPart page trial book keptM isKept gains value seed (xs (i + 1))  hC
  refine lv_icmp_eq (tgt := 873) hx hb dL_law_643 (by decide) (fun c_643 => ?_) (fun c_643 => absurd ho.1 c_643)
  exact kk now rains (nI L) (nI sp) (nI n) plain key stair air (nI na) (nI tr) text cells kinds frames rainsB triedAbout triedIs kept keptF keptR seed (f_X6_kinds tr kindMany kindFirst triedAbout triedIs (xs (i + 1))).2.1 (nI L) place (nI sp) (nI n) readStock readCells readParts (nI na) (nI tr) soonMany soonWhich (f_X6_kinds tr kindMany kindFirst triedAbout triedIs (xs (i + 1))).2.2.1 (f_X6_kinds tr kindMany kindFirst triedAbout triedIs (xs (i + 1))).2.2.2 restMany restFirst text lies kind readPart page trial book keptM isKept triedAbout triedIs gains value seed ls H locs ho.2 hP hD hS hl
set_option maxHeartbeats 4000000 in
set_option maxRecDepth 100000 in
theorem lc_rests {p : Program} {l : Launch} {e : Env} {s : State} {m : MethodId} {below : List Frame} {meth : Method} {c : Code} {D : va_G} {cI cZ : ClassId} {qx qm : Nat → Nat} {b LL : Nat} {xs : Nat → Int32} (hLL : LL ≤ 2048) (C0 : lw_At p s m meth c b LL xs) (hK : va_K D vwCl (tyL cI cZ) s) {i : Nat} (hi : i + 3 < LL) (kk : LK p l e s m below meth c D cI cZ qx qm b i 873) : LK p l e s m below meth c D cI cZ qx qm b i 648 := by
  obtain ⟨hx, hb, hr, hml, hown, hts0, hX, hbl, hlocks, hgv⟩ := C0
  have hts : ∀ w ∈ tb, w.before #[Value.ref b] s = true := fun w h => hts0 w (tb_in w h)
  have hF : CallFix p m c code 4 s #[Value.ref b] tb RL := ⟨hx, hb, hml, hown, hts⟩
  have hown : s.vm.findClass RL = some m.cls := hown
  have hbA : ¬ (fun q : Nat => s.heap.size ≤ q) b := Nat.not_le.mpr hbl
  intro now rains length poles parts plain key stair air acnt tcnt letters cells kinds frames rainsB abouts stoods kept keptF keptR seed thrown textSize place stock partsM readStock readCells readParts acts tried soonMany soonWhich kindMany kindFirst restMany restFirst text lies kind readPart page trial book keptM isKept triedAbout triedIs gains value seedM ls H locs hI hP hD hS hl
  obtain ⟨L, sp, n, na, tr, cl, kd, rfl, rfl, rfl, rfl, rfl, rfl, rfl, rfl, rfl, rfl, rfl, rfl, rfl, rfl, hC⟩ := hI
  refine lv_aload_n hx hb dL_law_648 rfl (lv_at hl 1 rfl) ?_
  refine lv_aload_n hx hb dL_law_649 rfl (lv_at hl 0 rfl) ?_
  refine lv_iload_n hx hb dL_law_650 rfl (lv_at hl 3 rfl) ?_
  refine lv_iconst (v := (1 : Int32)) hx hb dL_law_651 (by decide) ?_
  refine lv_iadd hx hb dL_law_652 ?_
  refine lv_rw (z := nI (i + 1)) (nI_add i 1) ?_
  refine va_sld hx hb hX hbl hbA hS (vp_in_nI (show i + 1 < LL by omega) (by omega)) dL_law_653 ?_
  refine lv_rw (z := xs (i + 1)) (congrArg xs (nI_clamp (by omega))) ?_
  refine lv_aload_n hx hb dL_law_654 rfl (lv_at hl 0 rfl) ?_
  refine lv_iload_n hx hb dL_law_655 rfl (lv_at hl 3 rfl) ?_
  refine lv_iconst (v := (2 : Int32)) hx hb dL_law_656 (by decide) ?_
  refine lv_iadd hx hb dL_law_657 ?_
  refine lv_rw (z := nI (i + 2)) (nI_add i 2) ?_
  refine va_sld hx hb hX hbl hbA hS (vp_in_nI (show i + 2 < LL by omega) (by omega)) dL_law_658 ?_
  refine lv_rw (z := xs (i + 2)) (congrArg xs (nI_clamp (by omega))) ?_
  refine lv_aload_n hx hb dL_law_659 rfl (lv_at hl 0 rfl) ?_
  refine lv_iload_n hx hb dL_law_660 rfl (lv_at hl 3 rfl) ?_
  refine lv_iconst (v := (3 : Int32)) hx hb dL_law_661 (by decide) ?_
  refine lv_iadd hx hb dL_law_662 ?_
  refine lv_rw (z := nI (i + 3)) (nI_add i 3) ?_
  refine va_sld hx hb hX hbl hbA hS (vp_in_nI (show i + 3 < LL by omega) (by omega)) dL_law_663 ?_
  refine lv_rw (z := xs (i + 3)) (congrArg xs (nI_clamp (by omega))) ?_
  refine vRdI (b := (qx 0)) (As := [.int (xs (i + 1)), .int (xs (i + 2)), .int (xs (i + 3))]) (rest := []) hF (c_X5_rests l D cI cZ qx now rains (nI L) (nI sp) (nI n) plain key stair air (nI na) (nI tr) text cells kinds frames rainsB triedAbout triedIs kept keptF keptR seed (xs (i + 1)) (xs (i + 2)) (xs (i + 3))) (gdV tm_2_180 tm_2_181 tm_2_182 tm_1_1 tm_2_183) de_X5_rests ⟨Nat.le_of_ble_eq_true rfl, Nat.le_of_ble_eq_true rfl⟩ hP.lef hK (va_recv hK hP.lef (ci := 4) (q0 := 0) rfl XW_0) hl.1 rfl (Nat.le_of_ble_eq_true rfl) dL_law_664 ⟨Nat.le_of_ble_eq_true rfl, Nat.le_of_ble_eq_true rfl⟩ ?_
  refine lv_aload_n hx hb dL_law_667 rfl (lv_at hl 2 rfl) ?_
  refine lv_aload_n hx hb dL_law_668 rfl (lv_at hl 0 rfl) ?_
  refine lv_iload_n hx hb dL_law_669 rfl (lv_at hl 3 rfl) ?_
  refine lv_iconst (v := (1 : Int32)) hx hb dL_law_670 (by decide) ?_
  refine lv_iadd hx hb dL_law_671 ?_
  refine lv_rw (z := nI (i + 1)) (nI_add i 1) ?_
  refine va_sld hx hb hX hbl hbA hS (vp_in_nI (show i + 1 < LL by omega) (by omega)) dL_law_672 ?_
  refine lv_rw (z := xs (i + 1)) (congrArg xs (nI_clamp (by omega))) ?_
  refine lv_aload_n hx hb dL_law_673 rfl (lv_at hl 0 rfl) ?_
  refine lv_iload_n hx hb dL_law_674 rfl (lv_at hl 3 rfl) ?_
  refine lv_iconst (v := (2 : Int32)) hx hb dL_law_675 (by decide) ?_
  refine lv_iadd hx hb dL_law_676 ?_
  refine lv_rw (z := nI (i + 2)) (nI_add i 2) ?_
  refine va_sld hx hb hX hbl hbA hS (vp_in_nI (show i + 2 < LL by omega) (by omega)) dL_law_677 ?_
  refine lv_rw (z := xs (i + 2)) (congrArg xs (nI_clamp (by omega))) ?_
  refine lv_aload_n hx hb dL_law_678 rfl (lv_at hl 0 rfl) ?_
  refine lv_iload_n hx hb dL_law_679 rfl (lv_at hl 3 rfl) ?_
  refine lv_iconst (v := (3 : Int32)) hx hb dL_law_680 (by decide) ?_
  refine lv_iadd hx hb dL_law_681 ?_
  refine lv_rw (z := nI (i + 3)) (nI_add i 3) ?_
  refine va_sld hx hb hX hbl hbA hS (vp_in_nI (show i + 3 < LL by omega) (by omega)) dL_law_682 ?_
  refine lv_rw (z := xs (i + 3)) (congrArg xs (nI_clamp (by omega))) ?_
  refine mWrI (b := (qm 0)) (As := [.int (xs (i + 1)), .int (xs (i + 2)), .int (xs (i + 3))]) (rest := [.int (f_X5_rests now (nI sp) plain key stair air (xs (i + 1)) (xs (i + 2)) (xs (i + 3)))]) hF (c_X6_rests l D cI cZ qm thrown (nI L) place (nI sp) n readStock readCells readParts (nI na) (nI tr) soonMany soonWhich kindMany kindFirst restMany restFirst text lies kind readPart page trial book keptM isKept triedAbout triedIs gains value seed (xs (i + 1)) (xs (i + 2)) (xs (i + 3)) hC.hn cl hC.hcl) (gdV tm_4_48 tm_4_49 tm_4_50 tm_1_6 tm_4_51) de_X6_rests ⟨Nat.le_of_ble_eq_true rfl, Nat.le_of_ble_eq_true rfl⟩ hP hK (va_recv hK hP.rig (ci := 5) (q0 := 0) rfl MW_0) hl.1 rfl (Nat.le_of_ble_eq_true rfl) dL_law_683 ⟨Nat.le_of_ble_eq_true rfl, Nat.le_of_ble_eq_true rfl⟩ hD hS (MW_ad.trans MW_ad.symm) (fun H locs hP hD hS => ?_)
  have ho := op_rests L sp n na tr cl kd now rains plain key stair air thrown place readStock readCells readParts soonMany soonWhich kindMany kindFirst restMany restFirst text triedAbout triedIs cells kinds frames rainsB kept keptF keptR lies kind readPart page trial book keptM isKept gains value seed (xs (i + 1)) (xs (i + 2)) (xs (i + 3))  hC
  refine lv_icmp_eq (tgt := 873) hx hb dL_law_686 (by decide) (fun c_686 => ?_) (fun c_686 => absurd ho.1 c_686)
  exact kk now rains (nI L) (nI sp) (nI n) plain key stair air (nI na) (nI tr) text cells kinds frames rainsB triedAbout triedIs kept keptF keptR seed (f_X6_rests cl n restMany restFirst lies kind page trial gains (xs (i + 1)) (xs (i + 2)) (xs (i + 3))).2.1 (nI L) place (nI sp) (nI n) readStock readCells readParts (nI na) (nI tr) soonMany soonWhich kindMany kindFirst (f_X6_rests cl n restMany restFirst lies kind page trial gains (xs (i + 1)) (xs (i + 2)) (xs (i + 3))).2.2.2.2.1 (f_X6_rests cl n restMany restFirst lies kind page trial gains (xs (i + 1)) (xs (i + 2)) (xs (i + 3))).2.2.2.2.2 text lies kind readPart page (f_X6_rests cl n restMany restFirst lies kind page trial gains (xs (i + 1)) (xs (i + 2)) (xs (i + 3))).2.2.1 book keptM isKept triedAbout triedIs (f_X6_rests cl n restMany restFirst lies kind page trial gains (xs (i + 1)) (xs (i + 2)) (xs (i + 3))).2.2.2.1 value seed ls H locs ho.2 hP hD hS hl
set_option maxHeartbeats 4000000 in
set_option maxRecDepth 100000 in
theorem lc_wet {p : Program} {l : Launch} {e : Env} {s : State} {m : MethodId} {below : List Frame} {meth : Method} {c : Code} {D : va_G} {cI cZ : ClassId} {qx qm : Nat → Nat} {b LL : Nat} {xs : Nat → Int32} (hLL : LL ≤ 2048) (C0 : lw_At p s m meth c b LL xs) (hK : va_K D vwCl (tyL cI cZ) s) {i : Nat} (hi : i + 3 < LL) (kk : LK p l e s m below meth c D cI cZ qx qm b i 873) : LK p l e s m below meth c D cI cZ qx qm b i 691 := by
  obtain ⟨hx, hb, hr, hml, hown, hts0, hX, hbl, hlocks, hgv⟩ := C0
  have hts : ∀ w ∈ tb, w.before #[Value.ref b] s = true := fun w h => hts0 w (tb_in w h)
  have hF : CallFix p m c code 4 s #[Value.ref b] tb RL := ⟨hx, hb, hml, hown, hts⟩
  have hown : s.vm.findClass RL = some m.cls := hown
  have hbA : ¬ (fun q : Nat => s.heap.size ≤ q) b := Nat.not_le.mpr hbl
  intro now rains length poles parts plain key stair air acnt tcnt letters cells kinds frames rainsB abouts stoods kept keptF keptR seed thrown textSize place stock partsM readStock readCells readParts acts tried soonMany soonWhich kindMany kindFirst restMany restFirst text lies kind readPart page trial book keptM isKept triedAbout triedIs gains value seedM ls H locs hI hP hD hS hl
  obtain ⟨L, sp, n, na, tr, cl, kd, rfl, rfl, rfl, rfl, rfl, rfl, rfl, rfl, rfl, rfl, rfl, rfl, rfl, rfl, hC⟩ := hI
  refine lv_aload_n hx hb dL_law_691 rfl (lv_at hl 1 rfl) ?_
  refine lv_aload_n hx hb dL_law_692 rfl (lv_at hl 0 rfl) ?_
  refine lv_iload_n hx hb dL_law_693 rfl (lv_at hl 3 rfl) ?_
  refine lv_iconst (v := (1 : Int32)) hx hb dL_law_694 (by decide) ?_
  refine lv_iadd hx hb dL_law_695 ?_
  refine lv_rw (z := nI (i + 1)) (nI_add i 1) ?_
  refine va_sld hx hb hX hbl hbA hS (vp_in_nI (show i + 1 < LL by omega) (by omega)) dL_law_696 ?_
  refine lv_rw (z := xs (i + 1)) (congrArg xs (nI_clamp (by omega))) ?_
  refine lv_aload_n hx hb dL_law_697 rfl (lv_at hl 0 rfl) ?_
  refine lv_iload_n hx hb dL_law_698 rfl (lv_at hl 3 rfl) ?_
  refine lv_iconst (v := (2 : Int32)) hx hb dL_law_699 (by decide) ?_
  refine lv_iadd hx hb dL_law_700 ?_
  refine lv_rw (z := nI (i + 2)) (nI_add i 2) ?_
  refine va_sld hx hb hX hbl hbA hS (vp_in_nI (show i + 2 < LL by omega) (by omega)) dL_law_701 ?_
  refine lv_rw (z := xs (i + 2)) (congrArg xs (nI_clamp (by omega))) ?_
  refine lv_aload_n hx hb dL_law_702 rfl (lv_at hl 0 rfl) ?_
  refine lv_iload_n hx hb dL_law_703 rfl (lv_at hl 3 rfl) ?_
  refine lv_iconst (v := (3 : Int32)) hx hb dL_law_704 (by decide) ?_
  refine lv_iadd hx hb dL_law_705 ?_
  refine lv_rw (z := nI (i + 3)) (nI_add i 3) ?_
  refine va_sld hx hb hX hbl hbA hS (vp_in_nI (show i + 3 < LL by omega) (by omega)) dL_law_706 ?_
  refine lv_rw (z := xs (i + 3)) (congrArg xs (nI_clamp (by omega))) ?_
  refine lv_if_eq (tgt := 714) hx hb dL_law_707 (by decide) (fun c_707 => ?_) (fun c_707 => ?_)
  · skip
    refine lv_iconst (v := (0 : Int32)) hx hb dL_law_714 (by decide) ?_
    refine vRdI (b := (qx 0)) (As := [.int (xs (i + 1)), .int (xs (i + 2)), .int (0 : Int32)]) (rest := []) hF (c_X5_wet l D cI cZ qx now rains (nI L) (nI sp) (nI n) plain key stair air (nI na) (nI tr) text cells kinds frames rainsB triedAbout triedIs kept keptF keptR seed (xs (i + 1)) (xs (i + 2)) (0 : Int32)) (gdV tm_2_199 tm_2_200 tm_2_201 tm_1_1 tm_2_202) de_X5_wet ⟨Nat.le_of_ble_eq_true rfl, Nat.le_of_ble_eq_true rfl⟩ hP.lef hK (va_recv hK hP.lef (ci := 4) (q0 := 0) rfl XW_0) hl.1 rfl (Nat.le_of_ble_eq_true rfl) dL_law_715 ⟨Nat.le_of_ble_eq_true rfl, Nat.le_of_ble_eq_true rfl⟩ ?_
    refine lv_aload_n hx hb dL_law_718 rfl (lv_at hl 2 rfl) ?_
    refine lv_aload_n hx hb dL_law_719 rfl (lv_at hl 0 rfl) ?_
    refine lv_iload_n hx hb dL_law_720 rfl (lv_at hl 3 rfl) ?_
    refine lv_iconst (v := (1 : Int32)) hx hb dL_law_721 (by decide) ?_
    refine lv_iadd hx hb dL_law_722 ?_
    refine lv_rw (z := nI (i + 1)) (nI_add i 1) ?_
    refine va_sld hx hb hX hbl hbA hS (vp_in_nI (show i + 1 < LL by omega) (by omega)) dL_law_723 ?_
    refine lv_rw (z := xs (i + 1)) (congrArg xs (nI_clamp (by omega))) ?_
    refine lv_aload_n hx hb dL_law_724 rfl (lv_at hl 0 rfl) ?_
    refine lv_iload_n hx hb dL_law_725 rfl (lv_at hl 3 rfl) ?_
    refine lv_iconst (v := (2 : Int32)) hx hb dL_law_726 (by decide) ?_
    refine lv_iadd hx hb dL_law_727 ?_
    refine lv_rw (z := nI (i + 2)) (nI_add i 2) ?_
    refine va_sld hx hb hX hbl hbA hS (vp_in_nI (show i + 2 < LL by omega) (by omega)) dL_law_728 ?_
    refine lv_rw (z := xs (i + 2)) (congrArg xs (nI_clamp (by omega))) ?_
    refine lv_aload_n hx hb dL_law_729 rfl (lv_at hl 0 rfl) ?_
    refine lv_iload_n hx hb dL_law_730 rfl (lv_at hl 3 rfl) ?_
    refine lv_iconst (v := (3 : Int32)) hx hb dL_law_731 (by decide) ?_
    refine lv_iadd hx hb dL_law_732 ?_
    refine lv_rw (z := nI (i + 3)) (nI_add i 3) ?_
    refine va_sld hx hb hX hbl hbA hS (vp_in_nI (show i + 3 < LL by omega) (by omega)) dL_law_733 ?_
    refine lv_rw (z := xs (i + 3)) (congrArg xs (nI_clamp (by omega))) ?_
    refine lv_if_eq (tgt := 741) hx hb dL_law_734 (by decide) (fun c_734 => ?_) (fun c_734 => absurd c_707 c_734)
    refine lv_iconst (v := (0 : Int32)) hx hb dL_law_741 (by decide) ?_
    refine mWrI (b := (qm 0)) (As := [.int (xs (i + 1)), .int (xs (i + 2)), .int (0 : Int32)]) (rest := [.int (f_X5_wet now plain key stair air (xs (i + 1)) (xs (i + 2)) (0 : Int32))]) hF (c_X6_wet l D cI cZ qm thrown (nI L) place (nI sp) n readStock readCells readParts (nI na) (nI tr) soonMany soonWhich kindMany kindFirst restMany restFirst text lies kind readPart page trial book keptM isKept triedAbout triedIs gains value seed (xs (i + 1)) (xs (i + 2)) (0 : Int32) hC.hn cl hC.hcl) (gdV tm_4_60 tm_4_61 tm_4_62 tm_1_6 tm_4_63) de_X6_wet ⟨Nat.le_of_ble_eq_true rfl, Nat.le_of_ble_eq_true rfl⟩ hP hK (va_recv hK hP.rig (ci := 5) (q0 := 0) rfl MW_0) hl.1 rfl (Nat.le_of_ble_eq_true rfl) dL_law_742 ⟨Nat.le_of_ble_eq_true rfl, Nat.le_of_ble_eq_true rfl⟩ hD hS (MW_ad.trans MW_ad.symm) (fun H locs hP hD hS => ?_)
    have ho := op_wet L sp n na tr cl kd now rains plain key stair air thrown place readStock readCells readParts soonMany soonWhich kindMany kindFirst restMany restFirst text triedAbout triedIs cells kinds frames rainsB kept keptF keptR lies kind readPart page trial book keptM isKept gains value seed (xs (i + 1)) (xs (i + 2)) (0 : Int32) (by decide) hC
    refine lv_icmp_eq (tgt := 873) hx hb dL_law_745 (by decide) (fun c_745 => ?_) (fun c_745 => absurd ho.1 c_745)
    exact kk now rains (nI L) (nI sp) (nI n) plain key stair air (nI na) (nI tr) text cells kinds frames rainsB triedAbout triedIs kept keptF keptR seed (f_X6_wet cl n lies kind page trial (xs (i + 1)) (xs (i + 2)) (0 : Int32)).2.1 (nI L) place (nI sp) (nI n) readStock readCells readParts (nI na) (nI tr) soonMany soonWhich kindMany kindFirst restMany restFirst text lies kind readPart page (f_X6_wet cl n lies kind page trial (xs (i + 1)) (xs (i + 2)) (0 : Int32)).2.2 book keptM isKept triedAbout triedIs gains value seed ls H locs ho.2 hP hD hS hl
  · skip
    refine lv_iconst (v := (1 : Int32)) hx hb dL_law_710 (by decide) ?_
    refine lv_goto (tgt := 715) hx hb dL_law_711 (by decide) ?_
    refine vRdI (b := (qx 0)) (As := [.int (xs (i + 1)), .int (xs (i + 2)), .int (1 : Int32)]) (rest := []) hF (c_X5_wet l D cI cZ qx now rains (nI L) (nI sp) (nI n) plain key stair air (nI na) (nI tr) text cells kinds frames rainsB triedAbout triedIs kept keptF keptR seed (xs (i + 1)) (xs (i + 2)) (1 : Int32)) (gdV tm_2_199 tm_2_200 tm_2_201 tm_1_1 tm_2_202) de_X5_wet ⟨Nat.le_of_ble_eq_true rfl, Nat.le_of_ble_eq_true rfl⟩ hP.lef hK (va_recv hK hP.lef (ci := 4) (q0 := 0) rfl XW_0) hl.1 rfl (Nat.le_of_ble_eq_true rfl) dL_law_715 ⟨Nat.le_of_ble_eq_true rfl, Nat.le_of_ble_eq_true rfl⟩ ?_
    refine lv_aload_n hx hb dL_law_718 rfl (lv_at hl 2 rfl) ?_
    refine lv_aload_n hx hb dL_law_719 rfl (lv_at hl 0 rfl) ?_
    refine lv_iload_n hx hb dL_law_720 rfl (lv_at hl 3 rfl) ?_
    refine lv_iconst (v := (1 : Int32)) hx hb dL_law_721 (by decide) ?_
    refine lv_iadd hx hb dL_law_722 ?_
    refine lv_rw (z := nI (i + 1)) (nI_add i 1) ?_
    refine va_sld hx hb hX hbl hbA hS (vp_in_nI (show i + 1 < LL by omega) (by omega)) dL_law_723 ?_
    refine lv_rw (z := xs (i + 1)) (congrArg xs (nI_clamp (by omega))) ?_
    refine lv_aload_n hx hb dL_law_724 rfl (lv_at hl 0 rfl) ?_
    refine lv_iload_n hx hb dL_law_725 rfl (lv_at hl 3 rfl) ?_
    refine lv_iconst (v := (2 : Int32)) hx hb dL_law_726 (by decide) ?_
    refine lv_iadd hx hb dL_law_727 ?_
    refine lv_rw (z := nI (i + 2)) (nI_add i 2) ?_
    refine va_sld hx hb hX hbl hbA hS (vp_in_nI (show i + 2 < LL by omega) (by omega)) dL_law_728 ?_
    refine lv_rw (z := xs (i + 2)) (congrArg xs (nI_clamp (by omega))) ?_
    refine lv_aload_n hx hb dL_law_729 rfl (lv_at hl 0 rfl) ?_
    refine lv_iload_n hx hb dL_law_730 rfl (lv_at hl 3 rfl) ?_
    refine lv_iconst (v := (3 : Int32)) hx hb dL_law_731 (by decide) ?_
    refine lv_iadd hx hb dL_law_732 ?_
    refine lv_rw (z := nI (i + 3)) (nI_add i 3) ?_
    refine va_sld hx hb hX hbl hbA hS (vp_in_nI (show i + 3 < LL by omega) (by omega)) dL_law_733 ?_
    refine lv_rw (z := xs (i + 3)) (congrArg xs (nI_clamp (by omega))) ?_
    refine lv_if_eq (tgt := 741) hx hb dL_law_734 (by decide) (fun c_734 => absurd c_734 c_707) (fun c_734 => ?_)
    refine lv_iconst (v := (1 : Int32)) hx hb dL_law_737 (by decide) ?_
    refine lv_goto (tgt := 742) hx hb dL_law_738 (by decide) ?_
    refine mWrI (b := (qm 0)) (As := [.int (xs (i + 1)), .int (xs (i + 2)), .int (1 : Int32)]) (rest := [.int (f_X5_wet now plain key stair air (xs (i + 1)) (xs (i + 2)) (1 : Int32))]) hF (c_X6_wet l D cI cZ qm thrown (nI L) place (nI sp) n readStock readCells readParts (nI na) (nI tr) soonMany soonWhich kindMany kindFirst restMany restFirst text lies kind readPart page trial book keptM isKept triedAbout triedIs gains value seed (xs (i + 1)) (xs (i + 2)) (1 : Int32) hC.hn cl hC.hcl) (gdV tm_4_60 tm_4_61 tm_4_62 tm_1_6 tm_4_63) de_X6_wet ⟨Nat.le_of_ble_eq_true rfl, Nat.le_of_ble_eq_true rfl⟩ hP hK (va_recv hK hP.rig (ci := 5) (q0 := 0) rfl MW_0) hl.1 rfl (Nat.le_of_ble_eq_true rfl) dL_law_742 ⟨Nat.le_of_ble_eq_true rfl, Nat.le_of_ble_eq_true rfl⟩ hD hS (MW_ad.trans MW_ad.symm) (fun H locs hP hD hS => ?_)
    have ho := op_wet L sp n na tr cl kd now rains plain key stair air thrown place readStock readCells readParts soonMany soonWhich kindMany kindFirst restMany restFirst text triedAbout triedIs cells kinds frames rainsB kept keptF keptR lies kind readPart page trial book keptM isKept gains value seed (xs (i + 1)) (xs (i + 2)) (1 : Int32) (by decide) hC
    refine lv_icmp_eq (tgt := 873) hx hb dL_law_745 (by decide) (fun c_745 => ?_) (fun c_745 => absurd ho.1 c_745)
    exact kk now rains (nI L) (nI sp) (nI n) plain key stair air (nI na) (nI tr) text cells kinds frames rainsB triedAbout triedIs kept keptF keptR seed (f_X6_wet cl n lies kind page trial (xs (i + 1)) (xs (i + 2)) (1 : Int32)).2.1 (nI L) place (nI sp) (nI n) readStock readCells readParts (nI na) (nI tr) soonMany soonWhich kindMany kindFirst restMany restFirst text lies kind readPart page (f_X6_wet cl n lies kind page trial (xs (i + 1)) (xs (i + 2)) (1 : Int32)).2.2 book keptM isKept triedAbout triedIs gains value seed ls H locs ho.2 hP hD hS hl
set_option maxHeartbeats 4000000 in
set_option maxRecDepth 100000 in
theorem lc_seed {p : Program} {l : Launch} {e : Env} {s : State} {m : MethodId} {below : List Frame} {meth : Method} {c : Code} {D : va_G} {cI cZ : ClassId} {qx qm : Nat → Nat} {b LL : Nat} {xs : Nat → Int32} (hLL : LL ≤ 2048) (C0 : lw_At p s m meth c b LL xs) (hK : va_K D vwCl (tyL cI cZ) s) {i : Nat} (hi : i + 3 < LL) (kk : LK p l e s m below meth c D cI cZ qx qm b i 873) : LK p l e s m below meth c D cI cZ qx qm b i 750 := by
  obtain ⟨hx, hb, hr, hml, hown, hts0, hX, hbl, hlocks, hgv⟩ := C0
  have hts : ∀ w ∈ tb, w.before #[Value.ref b] s = true := fun w h => hts0 w (tb_in w h)
  have hF : CallFix p m c code 4 s #[Value.ref b] tb RL := ⟨hx, hb, hml, hown, hts⟩
  have hown : s.vm.findClass RL = some m.cls := hown
  have hbA : ¬ (fun q : Nat => s.heap.size ≤ q) b := Nat.not_le.mpr hbl
  intro now rains length poles parts plain key stair air acnt tcnt letters cells kinds frames rainsB abouts stoods kept keptF keptR seed thrown textSize place stock partsM readStock readCells readParts acts tried soonMany soonWhich kindMany kindFirst restMany restFirst text lies kind readPart page trial book keptM isKept triedAbout triedIs gains value seedM ls H locs hI hP hD hS hl
  obtain ⟨L, sp, n, na, tr, cl, kd, rfl, rfl, rfl, rfl, rfl, rfl, rfl, rfl, rfl, rfl, rfl, rfl, rfl, rfl, hC⟩ := hI
  refine lv_aload_n hx hb dL_law_750 rfl (lv_at hl 1 rfl) ?_
  refine lv_aload_n hx hb dL_law_751 rfl (lv_at hl 0 rfl) ?_
  refine lv_iload_n hx hb dL_law_752 rfl (lv_at hl 3 rfl) ?_
  refine lv_iconst (v := (1 : Int32)) hx hb dL_law_753 (by decide) ?_
  refine lv_iadd hx hb dL_law_754 ?_
  refine lv_rw (z := nI (i + 1)) (nI_add i 1) ?_
  refine va_sld hx hb hX hbl hbA hS (vp_in_nI (show i + 1 < LL by omega) (by omega)) dL_law_755 ?_
  refine lv_rw (z := xs (i + 1)) (congrArg xs (nI_clamp (by omega))) ?_
  refine lv_i2l (v := (xs (i + 1)).toInt64) hx hb dL_law_756 rfl ?_
  refine lv_bipush (v := (32 : Int32)) hx hb dL_law_757 (by decide) ?_
  refine lv_lshl (v := ((xs (i + 1)).toInt64 <<< ((32 : Int32).toInt64 &&& 63))) hx hb dL_law_759 rfl ?_
  refine lv_aload_n hx hb dL_law_760 rfl (lv_at hl 0 rfl) ?_
  refine lv_iload_n hx hb dL_law_761 rfl (lv_at hl 3 rfl) ?_
  refine lv_iconst (v := (2 : Int32)) hx hb dL_law_762 (by decide) ?_
  refine lv_iadd hx hb dL_law_763 ?_
  refine lv_rw (z := nI (i + 2)) (nI_add i 2) ?_
  refine va_sld hx hb hX hbl hbA hS (vp_in_nI (show i + 2 < LL by omega) (by omega)) dL_law_764 ?_
  refine lv_rw (z := xs (i + 2)) (congrArg xs (nI_clamp (by omega))) ?_
  refine lv_i2l (v := (xs (i + 2)).toInt64) hx hb dL_law_765 rfl ?_
  refine lv_ldc2 (v := (4294967295 : Int64)) hx hb hown (hts _ tm_4_90) dL_law_766 ?_
  refine lv_land hx hb dL_law_769 ?_
  refine lv_lor hx hb dL_law_770 ?_
  refine xWrL (b := (qx 0)) (As := [.long (((xs (i + 1)).toInt64 <<< ((32 : Int32).toInt64 &&& 63)) ||| ((xs (i + 2)).toInt64 &&& (4294967295 : Int64)))]) (rest := []) hF (c_X5_seed l D cI cZ qx now rains (nI L) (nI sp) (nI n) plain key stair air (nI na) (nI tr) text cells kinds frames rainsB triedAbout triedIs kept keptF keptR seed (((xs (i + 1)).toInt64 <<< ((32 : Int32).toInt64 &&& 63)) ||| ((xs (i + 2)).toInt64 &&& (4294967295 : Int64)))) (gdV tm_2_212 tm_2_213 tm_2_214 tm_1_1 tm_2_215) de_X5_seed ⟨Nat.le_of_ble_eq_true rfl, Nat.le_of_ble_eq_true rfl⟩ hP hK (va_recv hK hP.lef (ci := 4) (q0 := 0) rfl XW_0) hl.1 rfl (Nat.le_of_ble_eq_true rfl) dL_law_771 ⟨Nat.le_of_ble_eq_true rfl, Nat.le_of_ble_eq_true rfl⟩ hD hS (XW_ad.trans XW_ad.symm) (fun H locs hP hD hS => ?_)
  refine lv_aload_n hx hb dL_law_774 rfl (lv_at hl 2 rfl) ?_
  refine lv_aload_n hx hb dL_law_775 rfl (lv_at hl 0 rfl) ?_
  refine lv_iload_n hx hb dL_law_776 rfl (lv_at hl 3 rfl) ?_
  refine lv_iconst (v := (1 : Int32)) hx hb dL_law_777 (by decide) ?_
  refine lv_iadd hx hb dL_law_778 ?_
  refine lv_rw (z := nI (i + 1)) (nI_add i 1) ?_
  refine va_sld hx hb hX hbl hbA hS (vp_in_nI (show i + 1 < LL by omega) (by omega)) dL_law_779 ?_
  refine lv_rw (z := xs (i + 1)) (congrArg xs (nI_clamp (by omega))) ?_
  refine lv_i2l (v := (xs (i + 1)).toInt64) hx hb dL_law_780 rfl ?_
  refine lv_bipush (v := (32 : Int32)) hx hb dL_law_781 (by decide) ?_
  refine lv_lshl (v := ((xs (i + 1)).toInt64 <<< ((32 : Int32).toInt64 &&& 63))) hx hb dL_law_783 rfl ?_
  refine lv_aload_n hx hb dL_law_784 rfl (lv_at hl 0 rfl) ?_
  refine lv_iload_n hx hb dL_law_785 rfl (lv_at hl 3 rfl) ?_
  refine lv_iconst (v := (2 : Int32)) hx hb dL_law_786 (by decide) ?_
  refine lv_iadd hx hb dL_law_787 ?_
  refine lv_rw (z := nI (i + 2)) (nI_add i 2) ?_
  refine va_sld hx hb hX hbl hbA hS (vp_in_nI (show i + 2 < LL by omega) (by omega)) dL_law_788 ?_
  refine lv_rw (z := xs (i + 2)) (congrArg xs (nI_clamp (by omega))) ?_
  refine lv_i2l (v := (xs (i + 2)).toInt64) hx hb dL_law_789 rfl ?_
  refine lv_ldc2 (v := (4294967295 : Int64)) hx hb hown (hts _ tm_4_90) dL_law_790 ?_
  refine lv_land hx hb dL_law_793 ?_
  refine lv_lor hx hb dL_law_794 ?_
  refine mWrL (b := (qm 0)) (As := [.long (((xs (i + 1)).toInt64 <<< ((32 : Int32).toInt64 &&& 63)) ||| ((xs (i + 2)).toInt64 &&& (4294967295 : Int64)))]) (rest := [.long (f_X5_seed seed (((xs (i + 1)).toInt64 <<< ((32 : Int32).toInt64 &&& 63)) ||| ((xs (i + 2)).toInt64 &&& (4294967295 : Int64)))).1]) hF (c_X6_seed l D cI cZ qm thrown (nI L) place (nI sp) (nI n) readStock readCells readParts (nI na) (nI tr) soonMany soonWhich kindMany kindFirst restMany restFirst text lies kind readPart page trial book keptM isKept triedAbout triedIs gains value seed (((xs (i + 1)).toInt64 <<< ((32 : Int32).toInt64 &&& 63)) ||| ((xs (i + 2)).toInt64 &&& (4294967295 : Int64)))) (gdV tm_4_70 tm_4_71 tm_4_72 tm_1_6 tm_4_73) de_X6_seed ⟨Nat.le_of_ble_eq_true rfl, Nat.le_of_ble_eq_true rfl⟩ hP hK (va_recv hK hP.rig (ci := 5) (q0 := 0) rfl MW_0) hl.1 rfl (Nat.le_of_ble_eq_true rfl) dL_law_795 ⟨Nat.le_of_ble_eq_true rfl, Nat.le_of_ble_eq_true rfl⟩ hD hS (MW_ad.trans MW_ad.symm) (fun H locs hP hD hS => ?_)
  refine W.lcmp hx hb dL_law_798 ?_
  have ho := op_seed L sp n na tr cl kd now rains plain key stair air thrown place readStock readCells readParts soonMany soonWhich kindMany kindFirst restMany restFirst text triedAbout triedIs cells kinds frames rainsB kept keptF keptR lies kind readPart page trial book keptM isKept gains value seed (((xs (i + 1)).toInt64 <<< ((32 : Int32).toInt64 &&& 63)) ||| ((xs (i + 2)).toInt64 &&& (4294967295 : Int64)))  hC
  refine lv_if_eq (tgt := 873) hx hb dL_law_799 (by decide) (fun c_799 => ?_) (fun c_799 => absurd (lgc_eq ho.1) c_799)
  exact kk now rains (nI L) (nI sp) (nI n) plain key stair air (nI na) (nI tr) text cells kinds frames rainsB triedAbout triedIs kept keptF keptR (f_X5_seed seed (((xs (i + 1)).toInt64 <<< ((32 : Int32).toInt64 &&& 63)) ||| ((xs (i + 2)).toInt64 &&& (4294967295 : Int64)))).2 (f_X6_seed seed (((xs (i + 1)).toInt64 <<< ((32 : Int32).toInt64 &&& 63)) ||| ((xs (i + 2)).toInt64 &&& (4294967295 : Int64)))).2.1 (nI L) place (nI sp) (nI n) readStock readCells readParts (nI na) (nI tr) soonMany soonWhich kindMany kindFirst restMany restFirst text lies kind readPart page trial book keptM isKept triedAbout triedIs gains value (f_X6_seed seed (((xs (i + 1)).toInt64 <<< ((32 : Int32).toInt64 &&& 63)) ||| ((xs (i + 2)).toInt64 &&& (4294967295 : Int64)))).2.2 ls H locs ho.2 hP hD hS hl
set_option maxHeartbeats 4000000 in
set_option maxRecDepth 100000 in
theorem lc_terms {p : Program} {l : Launch} {e : Env} {s : State} {m : MethodId} {below : List Frame} {meth : Method} {c : Code} {D : va_G} {cI cZ : ClassId} {qx qm : Nat → Nat} {b LL : Nat} {xs : Nat → Int32} (hLL : LL ≤ 2048) (C0 : lw_At p s m meth c b LL xs) (hK : va_K D vwCl (tyL cI cZ) s) {i : Nat} (hi : i + 3 < LL) (kk : LK p l e s m below meth c D cI cZ qx qm b i 873) : LK p l e s m below meth c D cI cZ qx qm b i 804 := by
  obtain ⟨hx, hb, hr, hml, hown, hts0, hX, hbl, hlocks, hgv⟩ := C0
  have hts : ∀ w ∈ tb, w.before #[Value.ref b] s = true := fun w h => hts0 w (tb_in w h)
  have hF : CallFix p m c code 4 s #[Value.ref b] tb RL := ⟨hx, hb, hml, hown, hts⟩
  have hown : s.vm.findClass RL = some m.cls := hown
  have hbA : ¬ (fun q : Nat => s.heap.size ≤ q) b := Nat.not_le.mpr hbl
  intro now rains length poles parts plain key stair air acnt tcnt letters cells kinds frames rainsB abouts stoods kept keptF keptR seed thrown textSize place stock partsM readStock readCells readParts acts tried soonMany soonWhich kindMany kindFirst restMany restFirst text lies kind readPart page trial book keptM isKept triedAbout triedIs gains value seedM ls H locs hI hP hD hS hl
  obtain ⟨L, sp, n, na, tr, cl, kd, rfl, rfl, rfl, rfl, rfl, rfl, rfl, rfl, rfl, rfl, rfl, rfl, rfl, rfl, hC⟩ := hI
  refine lv_aload_n hx hb dL_law_804 rfl (lv_at hl 1 rfl) ?_
  refine lv_aload_n hx hb dL_law_805 rfl (lv_at hl 0 rfl) ?_
  refine lv_iload_n hx hb dL_law_806 rfl (lv_at hl 3 rfl) ?_
  refine lv_iconst (v := (1 : Int32)) hx hb dL_law_807 (by decide) ?_
  refine lv_iadd hx hb dL_law_808 ?_
  refine lv_rw (z := nI (i + 1)) (nI_add i 1) ?_
  refine va_sld hx hb hX hbl hbA hS (vp_in_nI (show i + 1 < LL by omega) (by omega)) dL_law_809 ?_
  refine lv_rw (z := xs (i + 1)) (congrArg xs (nI_clamp (by omega))) ?_
  refine xWrI (b := (qx 0)) (As := [.int (xs (i + 1))]) (rest := []) hF (c_X5_terms l D cI cZ qx now rains (nI L) (nI sp) (nI n) plain key stair air (nI na) (nI tr) text cells kinds frames rainsB triedAbout triedIs kept keptF keptR seed (xs (i + 1))) (gdV tm_2_216 tm_2_217 tm_2_218 tm_1_1 tm_2_219) de_X5_terms ⟨Nat.le_of_ble_eq_true rfl, Nat.le_of_ble_eq_true rfl⟩ hP hK (va_recv hK hP.lef (ci := 4) (q0 := 0) rfl XW_0) hl.1 rfl (Nat.le_of_ble_eq_true rfl) dL_law_810 ⟨Nat.le_of_ble_eq_true rfl, Nat.le_of_ble_eq_true rfl⟩ hD hS (XW_ad.trans XW_ad.symm) (fun H locs hP hD hS => ?_)
  refine lv_aload_n hx hb dL_law_813 rfl (lv_at hl 2 rfl) ?_
  refine lv_aload_n hx hb dL_law_814 rfl (lv_at hl 0 rfl) ?_
  refine lv_iload_n hx hb dL_law_815 rfl (lv_at hl 3 rfl) ?_
  refine lv_iconst (v := (1 : Int32)) hx hb dL_law_816 (by decide) ?_
  refine lv_iadd hx hb dL_law_817 ?_
  refine lv_rw (z := nI (i + 1)) (nI_add i 1) ?_
  refine va_sld hx hb hX hbl hbA hS (vp_in_nI (show i + 1 < LL by omega) (by omega)) dL_law_818 ?_
  refine lv_rw (z := xs (i + 1)) (congrArg xs (nI_clamp (by omega))) ?_
  refine mWrI (b := (qm 0)) (As := [.int (xs (i + 1))]) (rest := [.int (f_X5_terms now (nI sp) plain key stair air seed (xs (i + 1))).1]) hF (c_X6_terms l D cI cZ qm thrown (nI L) place (nI sp) n readStock readCells readParts (nI na) (nI tr) soonMany soonWhich kindMany kindFirst restMany restFirst text lies kind readPart page trial book keptM isKept triedAbout triedIs gains value seed (xs (i + 1)) hC.hn cl hC.hcl) (gdV tm_4_74 tm_4_75 tm_4_76 tm_1_6 tm_4_77) de_X6_terms ⟨Nat.le_of_ble_eq_true rfl, Nat.le_of_ble_eq_true rfl⟩ hP hK (va_recv hK hP.rig (ci := 5) (q0 := 0) rfl MW_0) hl.1 rfl (Nat.le_of_ble_eq_true rfl) dL_law_819 ⟨Nat.le_of_ble_eq_true rfl, Nat.le_of_ble_eq_true rfl⟩ hD hS (MW_ad.trans MW_ad.symm) (fun H locs hP hD hS => ?_)
  have ho := op_terms L sp n na tr cl kd now rains plain key stair air thrown place readStock readCells readParts soonMany soonWhich kindMany kindFirst restMany restFirst text triedAbout triedIs cells kinds frames rainsB kept keptF keptR lies kind readPart page trial book keptM isKept gains value seed (xs (i + 1))  hC
  refine lv_icmp_eq (tgt := 873) hx hb dL_law_822 (by decide) (fun c_822 => ?_) (fun c_822 => absurd ho.1 c_822)
  exact kk now rains (nI L) (nI sp) (nI n) plain key stair air (nI na) (nI tr) text cells kinds frames rainsB triedAbout triedIs kept keptF keptR (f_X5_terms now (nI sp) plain key stair air seed (xs (i + 1))).2 (f_X6_terms cl n lies kind page trial seed (xs (i + 1))).2.1 (nI L) place (nI sp) (nI n) readStock readCells readParts (nI na) (nI tr) soonMany soonWhich kindMany kindFirst restMany restFirst text lies kind readPart page (f_X6_terms cl n lies kind page trial seed (xs (i + 1))).2.2.1 book keptM isKept triedAbout triedIs gains value (f_X6_terms cl n lies kind page trial seed (xs (i + 1))).2.2.2 ls H locs ho.2 hP hD hS hl
set_option maxHeartbeats 4000000 in
set_option maxRecDepth 100000 in
theorem lc_keep {p : Program} {l : Launch} {e : Env} {s : State} {m : MethodId} {below : List Frame} {meth : Method} {c : Code} {D : va_G} {cI cZ : ClassId} {qx qm : Nat → Nat} {b LL : Nat} {xs : Nat → Int32} (hLL : LL ≤ 2048) (C0 : lw_At p s m meth c b LL xs) (hK : va_K D vwCl (tyL cI cZ) s) {i : Nat} (hi : i + 3 < LL) (kk : LK p l e s m below meth c D cI cZ qx qm b i 873) : LK p l e s m below meth c D cI cZ qx qm b i 827 := by
  obtain ⟨hx, hb, hr, hml, hown, hts0, hX, hbl, hlocks, hgv⟩ := C0
  have hts : ∀ w ∈ tb, w.before #[Value.ref b] s = true := fun w h => hts0 w (tb_in w h)
  have hF : CallFix p m c code 4 s #[Value.ref b] tb RL := ⟨hx, hb, hml, hown, hts⟩
  have hown : s.vm.findClass RL = some m.cls := hown
  have hbA : ¬ (fun q : Nat => s.heap.size ≤ q) b := Nat.not_le.mpr hbl
  intro now rains length poles parts plain key stair air acnt tcnt letters cells kinds frames rainsB abouts stoods kept keptF keptR seed thrown textSize place stock partsM readStock readCells readParts acts tried soonMany soonWhich kindMany kindFirst restMany restFirst text lies kind readPart page trial book keptM isKept triedAbout triedIs gains value seedM ls H locs hI hP hD hS hl
  obtain ⟨L, sp, n, na, tr, cl, kd, rfl, rfl, rfl, rfl, rfl, rfl, rfl, rfl, rfl, rfl, rfl, rfl, rfl, rfl, hC⟩ := hI
  refine lv_aload_n hx hb dL_law_827 rfl (lv_at hl 1 rfl) ?_
  refine lv_aload_n hx hb dL_law_828 rfl (lv_at hl 0 rfl) ?_
  refine lv_iload_n hx hb dL_law_829 rfl (lv_at hl 3 rfl) ?_
  refine lv_iconst (v := (1 : Int32)) hx hb dL_law_830 (by decide) ?_
  refine lv_iadd hx hb dL_law_831 ?_
  refine lv_rw (z := nI (i + 1)) (nI_add i 1) ?_
  refine va_sld hx hb hX hbl hbA hS (vp_in_nI (show i + 1 < LL by omega) (by omega)) dL_law_832 ?_
  refine lv_rw (z := xs (i + 1)) (congrArg xs (nI_clamp (by omega))) ?_
  refine xWrI (b := (qx 0)) (As := [.int (xs (i + 1))]) (rest := []) hF (c_X5_keep l D cI cZ qx now rains (nI L) (nI sp) (nI n) plain key stair air (nI na) (nI tr) text cells kinds frames rainsB triedAbout triedIs kept keptF keptR seed (xs (i + 1))) (gdV tm_2_227 tm_2_228 tm_2_229 tm_1_1 tm_2_230) de_X5_keep ⟨Nat.le_of_ble_eq_true rfl, Nat.le_of_ble_eq_true rfl⟩ hP hK (va_recv hK hP.lef (ci := 4) (q0 := 0) rfl XW_0) hl.1 rfl (Nat.le_of_ble_eq_true rfl) dL_law_833 ⟨Nat.le_of_ble_eq_true rfl, Nat.le_of_ble_eq_true rfl⟩ hD hS (XW_ad.trans XW_ad.symm) (fun H locs hP hD hS => ?_)
  refine lv_aload_n hx hb dL_law_836 rfl (lv_at hl 2 rfl) ?_
  refine lv_aload_n hx hb dL_law_837 rfl (lv_at hl 0 rfl) ?_
  refine lv_iload_n hx hb dL_law_838 rfl (lv_at hl 3 rfl) ?_
  refine lv_iconst (v := (1 : Int32)) hx hb dL_law_839 (by decide) ?_
  refine lv_iadd hx hb dL_law_840 ?_
  refine lv_rw (z := nI (i + 1)) (nI_add i 1) ?_
  refine va_sld hx hb hX hbl hbA hS (vp_in_nI (show i + 1 < LL by omega) (by omega)) dL_law_841 ?_
  refine lv_rw (z := xs (i + 1)) (congrArg xs (nI_clamp (by omega))) ?_
  refine mWrI (b := (qm 0)) (As := [.int (xs (i + 1))]) (rest := [.int (f_X5_keep now rains kept keptF keptR (xs (i + 1))).1]) hF (c_X6_keep l D cI cZ qm thrown (nI L) place (nI sp) (nI n) readStock readCells readParts (nI na) (nI tr) soonMany soonWhich kindMany kindFirst restMany restFirst text lies kind readPart page trial book keptM isKept triedAbout triedIs gains value seed (xs (i + 1))) (gdV tm_4_82 tm_4_83 tm_4_84 tm_1_6 tm_4_85) de_X6_keep ⟨Nat.le_of_ble_eq_true rfl, Nat.le_of_ble_eq_true rfl⟩ hP hK (va_recv hK hP.rig (ci := 5) (q0 := 0) rfl MW_0) hl.1 rfl (Nat.le_of_ble_eq_true rfl) dL_law_842 ⟨Nat.le_of_ble_eq_true rfl, Nat.le_of_ble_eq_true rfl⟩ hD hS (MW_ad.trans MW_ad.symm) (fun H locs hP hD hS => ?_)
  have ho := op_keep L sp n na tr cl kd now rains plain key stair air thrown place readStock readCells readParts soonMany soonWhich kindMany kindFirst restMany restFirst text triedAbout triedIs cells kinds frames rainsB kept keptF keptR lies kind readPart page trial book keptM isKept gains value seed (xs (i + 1))  hC
  refine lv_icmp_eq (tgt := 873) hx hb dL_law_845 (by decide) (fun c_845 => ?_) (fun c_845 => absurd ho.1 c_845)
  exact kk now rains (nI L) (nI sp) (nI n) plain key stair air (nI na) (nI tr) text cells kinds frames rainsB triedAbout triedIs (f_X5_keep now rains kept keptF keptR (xs (i + 1))).2.1 (f_X5_keep now rains kept keptF keptR (xs (i + 1))).2.2.1 (f_X5_keep now rains kept keptF keptR (xs (i + 1))).2.2.2 seed (f_X6_keep page keptM isKept (xs (i + 1))).2.1 (nI L) place (nI sp) (nI n) readStock readCells readParts (nI na) (nI tr) soonMany soonWhich kindMany kindFirst restMany restFirst text lies kind readPart page trial book (f_X6_keep page keptM isKept (xs (i + 1))).2.2.1 (f_X6_keep page keptM isKept (xs (i + 1))).2.2.2 triedAbout triedIs gains value seed ls H locs ho.2 hP hD hS hl
set_option maxHeartbeats 4000000 in
set_option maxRecDepth 100000 in
theorem lc_again {p : Program} {l : Launch} {e : Env} {s : State} {m : MethodId} {below : List Frame} {meth : Method} {c : Code} {D : va_G} {cI cZ : ClassId} {qx qm : Nat → Nat} {b LL : Nat} {xs : Nat → Int32} (hLL : LL ≤ 2048) (C0 : lw_At p s m meth c b LL xs) (hK : va_K D vwCl (tyL cI cZ) s) {i : Nat} (hi : i + 3 < LL) (kk : LK p l e s m below meth c D cI cZ qx qm b i 873) : LK p l e s m below meth c D cI cZ qx qm b i 850 := by
  obtain ⟨hx, hb, hr, hml, hown, hts0, hX, hbl, hlocks, hgv⟩ := C0
  have hts : ∀ w ∈ tb, w.before #[Value.ref b] s = true := fun w h => hts0 w (tb_in w h)
  have hF : CallFix p m c code 4 s #[Value.ref b] tb RL := ⟨hx, hb, hml, hown, hts⟩
  have hown : s.vm.findClass RL = some m.cls := hown
  have hbA : ¬ (fun q : Nat => s.heap.size ≤ q) b := Nat.not_le.mpr hbl
  intro now rains length poles parts plain key stair air acnt tcnt letters cells kinds frames rainsB abouts stoods kept keptF keptR seed thrown textSize place stock partsM readStock readCells readParts acts tried soonMany soonWhich kindMany kindFirst restMany restFirst text lies kind readPart page trial book keptM isKept triedAbout triedIs gains value seedM ls H locs hI hP hD hS hl
  obtain ⟨L, sp, n, na, tr, cl, kd, rfl, rfl, rfl, rfl, rfl, rfl, rfl, rfl, rfl, rfl, rfl, rfl, rfl, rfl, hC⟩ := hI
  refine lv_aload_n hx hb dL_law_850 rfl (lv_at hl 1 rfl) ?_
  refine lv_aload_n hx hb dL_law_851 rfl (lv_at hl 0 rfl) ?_
  refine lv_iload_n hx hb dL_law_852 rfl (lv_at hl 3 rfl) ?_
  refine lv_iconst (v := (1 : Int32)) hx hb dL_law_853 (by decide) ?_
  refine lv_iadd hx hb dL_law_854 ?_
  refine lv_rw (z := nI (i + 1)) (nI_add i 1) ?_
  refine va_sld hx hb hX hbl hbA hS (vp_in_nI (show i + 1 < LL by omega) (by omega)) dL_law_855 ?_
  refine lv_rw (z := xs (i + 1)) (congrArg xs (nI_clamp (by omega))) ?_
  refine xWrI (b := (qx 0)) (As := [.int (xs (i + 1))]) (rest := []) hF (c_X5_again l D cI cZ qx now rains (nI L) (nI sp) (nI n) plain key stair air (nI na) (nI tr) text cells kinds frames rainsB triedAbout triedIs kept keptF keptR seed (xs (i + 1))) (gdV tm_2_231 tm_2_232 tm_2_233 tm_1_1 tm_2_234) de_X5_again ⟨Nat.le_of_ble_eq_true rfl, Nat.le_of_ble_eq_true rfl⟩ hP hK (va_recv hK hP.lef (ci := 4) (q0 := 0) rfl XW_0) hl.1 rfl (Nat.le_of_ble_eq_true rfl) dL_law_856 ⟨Nat.le_of_ble_eq_true rfl, Nat.le_of_ble_eq_true rfl⟩ hD hS (XW_ad.trans XW_ad.symm) (fun H locs hP hD hS => ?_)
  refine lv_aload_n hx hb dL_law_859 rfl (lv_at hl 2 rfl) ?_
  refine lv_aload_n hx hb dL_law_860 rfl (lv_at hl 0 rfl) ?_
  refine lv_iload_n hx hb dL_law_861 rfl (lv_at hl 3 rfl) ?_
  refine lv_iconst (v := (1 : Int32)) hx hb dL_law_862 (by decide) ?_
  refine lv_iadd hx hb dL_law_863 ?_
  refine lv_rw (z := nI (i + 1)) (nI_add i 1) ?_
  refine va_sld hx hb hX hbl hbA hS (vp_in_nI (show i + 1 < LL by omega) (by omega)) dL_law_864 ?_
  refine lv_rw (z := xs (i + 1)) (congrArg xs (nI_clamp (by omega))) ?_
  refine mWrI (b := (qm 0)) (As := [.int (xs (i + 1))]) (rest := [.int (f_X5_again now rains (nI na) kept keptF keptR (xs (i + 1))).1]) hF (c_X6_again l D cI cZ qm thrown (nI L) place (nI sp) (nI n) readStock readCells readParts (nI na) (nI tr) soonMany soonWhich kindMany kindFirst restMany restFirst text lies kind readPart page trial book keptM isKept triedAbout triedIs gains value seed (xs (i + 1))) (gdV tm_4_86 tm_4_87 tm_4_88 tm_1_6 tm_4_89) de_X6_again ⟨Nat.le_of_ble_eq_true rfl, Nat.le_of_ble_eq_true rfl⟩ hP hK (va_recv hK hP.rig (ci := 5) (q0 := 0) rfl MW_0) hl.1 rfl (Nat.le_of_ble_eq_true rfl) dL_law_865 ⟨Nat.le_of_ble_eq_true rfl, Nat.le_of_ble_eq_true rfl⟩ hD hS (MW_ad.trans MW_ad.symm) (fun H locs hP hD hS => ?_)
  have ho := op_again L sp n na tr cl kd now rains plain key stair air thrown place readStock readCells readParts soonMany soonWhich kindMany kindFirst restMany restFirst text triedAbout triedIs cells kinds frames rainsB kept keptF keptR lies kind readPart page trial book keptM isKept gains value seed (xs (i + 1))  hC
  refine lv_icmp_eq (tgt := 873) hx hb dL_law_868 (by decide) (fun c_868 => ?_) (fun c_868 => absurd ho.1 c_868)
  exact kk (f_X5_again now rains (nI na) kept keptF keptR (xs (i + 1))).2.1 (f_X5_again now rains (nI na) kept keptF keptR (xs (i + 1))).2.2.1 (nI L) (nI sp) (nI n) plain key stair air (f_X5_again now rains (nI na) kept keptF keptR (xs (i + 1))).2.2.2 (nI tr) text cells kinds frames rainsB triedAbout triedIs kept keptF keptR seed (f_X6_again (nI na) page keptM isKept (xs (i + 1))).2.1 (nI L) place (nI sp) (nI n) readStock readCells readParts (f_X6_again (nI na) page keptM isKept (xs (i + 1))).2.2.2 (nI tr) soonMany soonWhich kindMany kindFirst restMany restFirst text lies kind readPart (f_X6_again (nI na) page keptM isKept (xs (i + 1))).2.2.1 trial book keptM isKept triedAbout triedIs gains value seed ls H locs ho.2 hP hD hS hl
