theorem XW_ad {cI cZ : ClassId} {q : Nat → Nat} {now rains length poles parts plain key stair air acnt tcnt : Int32} {letters cells kinds frames rainsB abouts stoods kept keptF keptR : Nat → Int32} {seed : Int64} : (XW cI cZ q now rains length poles parts plain key stair air acnt tcnt letters cells kinds frames rainsB abouts stoods kept keptF keptR seed).map Prod.fst = [q 0, q 1, q 2, q 3, q 4, q 5, q 6, q 7, q 8, q 9, q 10, q 11, q 12, q 13, q 14] := rfl
theorem lgc_eq {x y : Int64} (h : x = y) : lg_cmp x y = 0 := by
  subst h; unfold lg_cmp
  rw [if_neg (Int64.lt_irrefl : ¬ x < x), if_pos rfl]
/-! THE CLAIM OUT OF ONE WALK OF THE LAW'S BODY. Your part is whole_start (and what it stands on); all else here is the same for every law, but numbers. -/
def R_law : String := "IdeaCageLaw"
def lw_P (b : Addr) (xs : List Int32) (args : Array Value) (s : State) : Prop := args = #[.ref b] ∧ s.IntsAt b xs ∧ xs.length ≤ 2048 ∧ (Jvm.Cond.and given_1 narrow_1).before args s = true
def lw_Q (_ : Array Value) (s : State) (o : Outcome) (t : State) : Prop := o = .returned (some (.int 1)) ∧ Framed s o t [] 600000 7302250
def lw_Z (below : List Frame) (a : Array Value) (s : State) : State → Prop := fun t => ∃ o, t.status = .running ∧ Ended t below o ∧ lw_Q a s o t
/-- the law's own end, with 1 on the stack, nothing written that was there before, its room as the claim has it -/
theorem lw_ret {p : Program} {l : Launch} {e : Env} {s : State} {m : MethodId} {below : List Frame} {meth : Method} {c : Code} {b : Nat} (hx : p.tables.exec = Jvm.exec) (hb : c.code = code) (hr : meth.sig.returnType = ret) (hlocks : meth.locks = false) {pc : Nat} {H : Heap} {ls : Array Slot} (hdg : decode code pc = .ok (.ireturn, 1)) : W p l e room_1 s m #[Value.ref b] below meth c H [] 600000 7302250 (lw_Z below #[Value.ref b] s) (F0 m pc ls [.int 1]) := by
  intro T hT X
  obtain ⟨fs, hret, hrun, hended, hW, hframe⟩ := X.leave (v := some (.int 1)) (hlocks := hlocks) (fun h => by rw [hr] at h; cases h)
  have hmeth' : T.vm.method? m = some meth := X.method'
  refine ⟨T.setFrames fs, ?_, .returned (some (.int 1)), hrun, hended, rfl, ⟨_, rfl⟩, hW, hframe⟩
  jvm_step X.here [X.here.top, hx, hb, hdg, hmeth', hr, ret, narrow_b1]
  (try refine ⟨rfl, ?_⟩); (try refine ⟨rfl, ?_⟩)
  first | (intro acts; rw [hret _ acts rfl rfl rfl]) | rw [hret _ _ rfl rfl rfl]
  exact Steps.refl _
/-- what holds at the law's entry: the machine, the code, the tables' words (any of lw_tbl by 'hts w (by decide +kernel)'), the script of L ints xs at the cell b, what the Statement gives of the start (any of its parts by flat_of_before) -/
def lw_At (p : Program) (s : State) (m : MethodId) (meth : Method) (c : Code) (b L : Nat) (xs : Nat → Int32) : Prop :=
  p.tables.exec = Jvm.exec ∧ c.code = code ∧ meth.sig.returnType = ret ∧ c.maxLocals = 4 ∧ s.vm.findClass R_law = some m.cls ∧ (∀ w ∈ lw_tbl, w.before #[Value.ref b] s = true) ∧ va_X b L xs s s.heap ∧ b < s.heap.size ∧ meth.locks = false ∧ (Jvm.Cond.and given_1 narrow_1).before #[Value.ref b] s = true
def LK (p : Program) (l : Launch) (e : Env) (s : State) (m : MethodId) (below : List Frame) (meth : Method) (c : Code) (D : va_G) (cI cZ : ClassId) (qx qm : Nat → Nat) (b i pc : Nat) : Prop := ∀ (now rains length poles parts plain key stair air acnt tcnt : Int32) (letters cells kinds frames rainsB abouts stoods kept keptF keptR : Nat → Int32) (seed : Int64) (thrown textSize place stock partsM readStock readCells readParts acts tried soonMany soonWhich kindMany kindFirst restMany restFirst : Int32) (text lies kind readPart page trial book keptM isKept triedAbout triedIs gains value : Nat → Int32) (seedM : Int64) (ls : Array Slot) (H : Heap) (locs : List Loc), LInv now rains length poles parts plain key stair air acnt tcnt letters cells kinds frames rainsB abouts stoods kept keptF keptR seed thrown textSize place stock partsM readStock readCells readParts acts tried soonMany soonWhich kindMany kindFirst restMany restFirst text lies kind readPart page trial book keptM isKept triedAbout triedIs gains value seedM → va_P D vwCl (XW cI cZ qx now rains length poles parts plain key stair air acnt tcnt letters cells kinds frames rainsB abouts stoods kept keptF keptR seed ++ MW cI cZ qm thrown textSize place stock partsM readStock readCells readParts acts tried soonMany soonWhich kindMany kindFirst restMany restFirst text lies kind readPart page trial book keptM isKept triedAbout triedIs gains value seedM) H → va_D (fun q : Nat => s.heap.size ≤ q) (XW cI cZ qx now rains length poles parts plain key stair air acnt tcnt letters cells kinds frames rainsB abouts stoods kept keptF keptR seed ++ MW cI cZ qm thrown textSize place stock partsM readStock readCells readParts acts tried soonMany soonWhich kindMany kindFirst restMany restFirst text lies kind readPart page trial book keptM isKept triedAbout triedIs gains value seedM) → va_S (fun q : Nat => s.heap.size ≤ q) s.heap H locs → lv_has ls 4 [(0, .ref b), (1, .ref (qx 0)), (2, .ref (qm 0)), (3, .int (nI i))] → W p l e room_1 s m #[Value.ref b] below meth c H locs 29 494 (lw_Z below #[Value.ref b] s) (F0 m pc ls [])
set_option maxHeartbeats 4000000 in
set_option maxRecDepth 100000 in
theorem lc_write {p : Program} {l : Launch} {e : Env} {s : State} {m : MethodId} {below : List Frame} {meth : Method} {c : Code} {D : va_G} {cI cZ : ClassId} {qx qm : Nat → Nat} {b LL : Nat} {xs : Nat → Int32} (hLL : LL ≤ 2048) (C0 : lw_At p s m meth c b LL xs) (hK : va_K D vwCl (tyL cI cZ) s) {i : Nat} (hi : i + 3 < LL) (kk : LK p l e s m below meth c D cI cZ qx qm b i 873) : LK p l e s m below meth c D cI cZ qx qm b i 152 := by
  obtain ⟨hx, hb, hr, hml, hown, hts0, hX, hbl, hlocks, hgv⟩ := C0
  have hts : ∀ w ∈ tb, w.before #[Value.ref b] s = true := fun w h => hts0 w (tb_in w h)
  have hF : CallFix p m c code 4 s #[Value.ref b] tb RL := ⟨hx, hb, hml, hown, hts⟩
  have hown : s.vm.findClass RL = some m.cls := hown
  have hbA : ¬ (fun q : Nat => s.heap.size ≤ q) b := Nat.not_le.mpr hbl
  intro now rains length poles parts plain key stair air acnt tcnt letters cells kinds frames rainsB abouts stoods kept keptF keptR seed thrown textSize place stock partsM readStock readCells readParts acts tried soonMany soonWhich kindMany kindFirst restMany restFirst text lies kind readPart page trial book keptM isKept triedAbout triedIs gains value seedM ls H locs hI hP hD hS hl
  obtain ⟨L, sp, n, na, tr, cl, kd, rfl, rfl, rfl, rfl, rfl, rfl, rfl, rfl, rfl, rfl, rfl, rfl, rfl, rfl, hC⟩ := hI
  refine lv_aload_n hx hb dL_law_152 rfl (lv_at hl 1 rfl) ?_
  refine lv_aload_n hx hb dL_law_153 rfl (lv_at hl 0 rfl) ?_
  refine lv_iload_n hx hb dL_law_154 rfl (lv_at hl 3 rfl) ?_
  refine lv_iconst (v := (1 : Int32)) hx hb dL_law_155 (by decide) ?_
  refine lv_iadd hx hb dL_law_156 ?_
  refine lv_rw (z := nI (i + 1)) (nI_add i 1) ?_
  refine va_sld hx hb hX hbl hbA hS (vp_in_nI (show i + 1 < LL by omega) (by omega)) dL_law_157 ?_
  refine lv_rw (z := xs (i + 1)) (congrArg xs (nI_clamp (by omega))) ?_
  refine xWrI (b := (qx 0)) (As := [.int (xs (i + 1))]) (rest := []) hF (c_X5_write l D cI cZ qx now rains (nI L) (nI sp) (nI n) plain key stair air (nI na) (nI tr) text cells kinds frames rainsB triedAbout triedIs kept keptF keptR seed (xs (i + 1))) (gdV tm_1_132 tm_1_133 tm_1_134 tm_1_1 tm_1_135) de_X5_write ⟨Nat.le_of_ble_eq_true rfl, Nat.le_of_ble_eq_true rfl⟩ hP hK (va_recv hK hP.lef (ci := 4) (q0 := 0) rfl XW_0) hl.1 rfl (Nat.le_of_ble_eq_true rfl) dL_law_158 ⟨Nat.le_of_ble_eq_true rfl, Nat.le_of_ble_eq_true rfl⟩ hD hS (XW_ad.trans XW_ad.symm) (fun H locs hP hD hS => ?_)
  refine lv_aload_n hx hb dL_law_161 rfl (lv_at hl 2 rfl) ?_
  refine lv_aload_n hx hb dL_law_162 rfl (lv_at hl 0 rfl) ?_
  refine lv_iload_n hx hb dL_law_163 rfl (lv_at hl 3 rfl) ?_
  refine lv_iconst (v := (1 : Int32)) hx hb dL_law_164 (by decide) ?_
  refine lv_iadd hx hb dL_law_165 ?_
  refine lv_rw (z := nI (i + 1)) (nI_add i 1) ?_
  refine va_sld hx hb hX hbl hbA hS (vp_in_nI (show i + 1 < LL by omega) (by omega)) dL_law_166 ?_
  refine lv_rw (z := xs (i + 1)) (congrArg xs (nI_clamp (by omega))) ?_
  refine mWrI (b := (qm 0)) (As := [.int (xs (i + 1))]) (rest := [.int (f_X5_write (nI L) text (xs (i + 1))).1]) hF (c_X6_write l D cI cZ qm thrown L place (nI sp) (nI n) readStock readCells readParts (nI na) (nI tr) soonMany soonWhich kindMany kindFirst restMany restFirst text lies kind readPart page trial book keptM isKept triedAbout triedIs gains value seed (xs (i + 1)) hC.hL) (gdV tm_3_92 tm_3_93 tm_3_94 tm_1_6 tm_3_95) de_X6_write ⟨Nat.le_of_ble_eq_true rfl, Nat.le_of_ble_eq_true rfl⟩ hP hK (va_recv hK hP.rig (ci := 5) (q0 := 0) rfl MW_0) hl.1 rfl (Nat.le_of_ble_eq_true rfl) dL_law_167 ⟨Nat.le_of_ble_eq_true rfl, Nat.le_of_ble_eq_true rfl⟩ hD hS (MW_ad.trans MW_ad.symm) (fun H locs hP hD hS => ?_)
  have ho := op_write L sp n na tr cl kd now rains plain key stair air thrown place readStock readCells readParts soonMany soonWhich kindMany kindFirst restMany restFirst text triedAbout triedIs cells kinds frames rainsB kept keptF keptR lies kind readPart page trial book keptM isKept gains value seed (xs (i + 1))  hC
  refine lv_icmp_eq (tgt := 873) hx hb dL_law_170 (by decide) (fun c_170 => ?_) (fun c_170 => absurd ho.1 c_170)
  exact kk now rains (f_X5_write (nI L) text (xs (i + 1))).2.1 (nI sp) (nI n) plain key stair air (nI na) (nI tr) (f_X5_write (nI L) text (xs (i + 1))).2.2 cells kinds frames rainsB triedAbout triedIs kept keptF keptR seed (f_X6_write L text (xs (i + 1))).2.1 (f_X6_write L text (xs (i + 1))).2.2.1 place (nI sp) (nI n) readStock readCells readParts (nI na) (nI tr) soonMany soonWhich kindMany kindFirst restMany restFirst (f_X6_write L text (xs (i + 1))).2.2.2 lies kind readPart page trial book keptM isKept triedAbout triedIs gains value seed ls H locs ho.2 hP hD hS hl
set_option maxHeartbeats 4000000 in
set_option maxRecDepth 100000 in
theorem lc_wipe {p : Program} {l : Launch} {e : Env} {s : State} {m : MethodId} {below : List Frame} {meth : Method} {c : Code} {D : va_G} {cI cZ : ClassId} {qx qm : Nat → Nat} {b LL : Nat} {xs : Nat → Int32} (hLL : LL ≤ 2048) (C0 : lw_At p s m meth c b LL xs) (hK : va_K D vwCl (tyL cI cZ) s) {i : Nat} (hi : i + 3 < LL) (kk : LK p l e s m below meth c D cI cZ qx qm b i 873) : LK p l e s m below meth c D cI cZ qx qm b i 175 := by
  obtain ⟨hx, hb, hr, hml, hown, hts0, hX, hbl, hlocks, hgv⟩ := C0
  have hts : ∀ w ∈ tb, w.before #[Value.ref b] s = true := fun w h => hts0 w (tb_in w h)
  have hF : CallFix p m c code 4 s #[Value.ref b] tb RL := ⟨hx, hb, hml, hown, hts⟩
  have hown : s.vm.findClass RL = some m.cls := hown
  have hbA : ¬ (fun q : Nat => s.heap.size ≤ q) b := Nat.not_le.mpr hbl
  intro now rains length poles parts plain key stair air acnt tcnt letters cells kinds frames rainsB abouts stoods kept keptF keptR seed thrown textSize place stock partsM readStock readCells readParts acts tried soonMany soonWhich kindMany kindFirst restMany restFirst text lies kind readPart page trial book keptM isKept triedAbout triedIs gains value seedM ls H locs hI hP hD hS hl
  obtain ⟨L, sp, n, na, tr, cl, kd, rfl, rfl, rfl, rfl, rfl, rfl, rfl, rfl, rfl, rfl, rfl, rfl, rfl, rfl, hC⟩ := hI
  refine lv_aload_n hx hb dL_law_175 rfl (lv_at hl 1 rfl) ?_
  refine xWrI (b := (qx 0)) (As := []) (rest := []) hF (c_X5_wipe l D cI cZ qx now rains (nI L) (nI sp) (nI n) plain key stair air (nI na) (nI tr) text cells kinds frames rainsB triedAbout triedIs kept keptF keptR seed) (gdV tm_1_140 tm_1_141 tm_1_142 tm_1_1 tm_1_143) de_X5_wipe ⟨Nat.le_of_ble_eq_true rfl, Nat.le_of_ble_eq_true rfl⟩ hP hK (va_recv hK hP.lef (ci := 4) (q0 := 0) rfl XW_0) hl.1 rfl (Nat.le_of_ble_eq_true rfl) dL_law_176 ⟨Nat.le_of_ble_eq_true rfl, Nat.le_of_ble_eq_true rfl⟩ hD hS (XW_ad.trans XW_ad.symm) (fun H locs hP hD hS => ?_)
  refine lv_aload_n hx hb dL_law_179 rfl (lv_at hl 2 rfl) ?_
  refine mWrI (b := (qm 0)) (As := []) (rest := [.int (f_X5_wipe (nI L)).1]) hF (c_X6_wipe l D cI cZ qm thrown (nI L) place (nI sp) (nI n) readStock readCells readParts (nI na) (nI tr) soonMany soonWhich kindMany kindFirst restMany restFirst text lies kind readPart page trial book keptM isKept triedAbout triedIs gains value seed) (gdV tm_3_100 tm_3_101 tm_3_102 tm_1_6 tm_3_103) de_X6_wipe ⟨Nat.le_of_ble_eq_true rfl, Nat.le_of_ble_eq_true rfl⟩ hP hK (va_recv hK hP.rig (ci := 5) (q0 := 0) rfl MW_0) hl.1 rfl (Nat.le_of_ble_eq_true rfl) dL_law_180 ⟨Nat.le_of_ble_eq_true rfl, Nat.le_of_ble_eq_true rfl⟩ hD hS (MW_ad.trans MW_ad.symm) (fun H locs hP hD hS => ?_)
  have ho := op_wipe L sp n na tr cl kd now rains plain key stair air thrown place readStock readCells readParts soonMany soonWhich kindMany kindFirst restMany restFirst text triedAbout triedIs cells kinds frames rainsB kept keptF keptR lies kind readPart page trial book keptM isKept gains value seed   hC
  refine lv_icmp_eq (tgt := 873) hx hb dL_law_183 (by decide) (fun c_183 => ?_) (fun c_183 => absurd ho.1 c_183)
  exact kk now rains (f_X5_wipe (nI L)).2 (nI sp) (nI n) plain key stair air (nI na) (nI tr) text cells kinds frames rainsB triedAbout triedIs kept keptF keptR seed (f_X6_wipe (nI L)).2.1 (f_X6_wipe (nI L)).2.2 place (nI sp) (nI n) readStock readCells readParts (nI na) (nI tr) soonMany soonWhich kindMany kindFirst restMany restFirst text lies kind readPart page trial book keptM isKept triedAbout triedIs gains value seed ls H locs ho.2 hP hD hS hl
set_option maxHeartbeats 4000000 in
set_option maxRecDepth 100000 in
theorem lc_fault {p : Program} {l : Launch} {e : Env} {s : State} {m : MethodId} {below : List Frame} {meth : Method} {c : Code} {D : va_G} {cI cZ : ClassId} {qx qm : Nat → Nat} {b LL : Nat} {xs : Nat → Int32} (hLL : LL ≤ 2048) (C0 : lw_At p s m meth c b LL xs) (hK : va_K D vwCl (tyL cI cZ) s) {i : Nat} (hi : i + 3 < LL) (kk : LK p l e s m below meth c D cI cZ qx qm b i 873) : LK p l e s m below meth c D cI cZ qx qm b i 188 := by
  obtain ⟨hx, hb, hr, hml, hown, hts0, hX, hbl, hlocks, hgv⟩ := C0
  have hts : ∀ w ∈ tb, w.before #[Value.ref b] s = true := fun w h => hts0 w (tb_in w h)
  have hF : CallFix p m c code 4 s #[Value.ref b] tb RL := ⟨hx, hb, hml, hown, hts⟩
  have hown : s.vm.findClass RL = some m.cls := hown
  have hbA : ¬ (fun q : Nat => s.heap.size ≤ q) b := Nat.not_le.mpr hbl
  intro now rains length poles parts plain key stair air acnt tcnt letters cells kinds frames rainsB abouts stoods kept keptF keptR seed thrown textSize place stock partsM readStock readCells readParts acts tried soonMany soonWhich kindMany kindFirst restMany restFirst text lies kind readPart page trial book keptM isKept triedAbout triedIs gains value seedM ls H locs hI hP hD hS hl
  obtain ⟨L, sp, n, na, tr, cl, kd, rfl, rfl, rfl, rfl, rfl, rfl, rfl, rfl, rfl, rfl, rfl, rfl, rfl, rfl, hC⟩ := hI
  refine lv_aload_n hx hb dL_law_188 rfl (lv_at hl 1 rfl) ?_
  refine vRdI (b := (qx 0)) (As := []) (rest := []) hF (c_X5_fault l D cI cZ qx now rains (nI L) (nI sp) (nI n) plain key stair air (nI na) (nI tr) text cells kinds frames rainsB triedAbout triedIs kept keptF keptR seed L rfl hC.hL) (gdV tm_1_144 tm_1_145 tm_1_146 tm_1_1 tm_1_147) de_X5_fault ⟨Nat.le_of_ble_eq_true rfl, Nat.le_of_ble_eq_true rfl⟩ hP.lef hK (va_recv hK hP.lef (ci := 4) (q0 := 0) rfl XW_0) hl.1 rfl (Nat.le_of_ble_eq_true rfl) dL_law_189 ⟨Nat.le_of_ble_eq_true rfl, Nat.le_of_ble_eq_true rfl⟩ ?_
  refine lv_aload_n hx hb dL_law_192 rfl (lv_at hl 2 rfl) ?_
  refine mWrI (b := (qm 0)) (As := []) (rest := [.int (f_X5_fault L (nI L) text)]) hF (c_X6_fault l D cI cZ qm thrown L place (nI sp) (nI n) readStock readCells readParts (nI na) (nI tr) soonMany soonWhich kindMany kindFirst restMany restFirst text lies kind readPart page trial book keptM isKept triedAbout triedIs gains value seed hC.hL) (gdV tm_3_104 tm_3_105 tm_3_106 tm_1_6 tm_3_107) de_X6_fault ⟨Nat.le_of_ble_eq_true rfl, Nat.le_of_ble_eq_true rfl⟩ hP hK (va_recv hK hP.rig (ci := 5) (q0 := 0) rfl MW_0) hl.1 rfl (Nat.le_of_ble_eq_true rfl) dL_law_193 ⟨Nat.le_of_ble_eq_true rfl, Nat.le_of_ble_eq_true rfl⟩ hD hS (MW_ad.trans MW_ad.symm) (fun H locs hP hD hS => ?_)
  have ho := op_fault L sp n na tr cl kd now rains plain key stair air thrown place readStock readCells readParts soonMany soonWhich kindMany kindFirst restMany restFirst text triedAbout triedIs cells kinds frames rainsB kept keptF keptR lies kind readPart page trial book keptM isKept gains value seed   hC
  refine lv_icmp_eq (tgt := 873) hx hb dL_law_196 (by decide) (fun c_196 => ?_) (fun c_196 => absurd ho.1 c_196)
  exact kk now rains (nI L) (nI sp) (nI n) plain key stair air (nI na) (nI tr) text cells kinds frames rainsB triedAbout triedIs kept keptF keptR seed (f_X6_fault L readStock text readPart).2.1 (nI L) (f_X6_fault L readStock text readPart).2.2.1 (nI sp) (nI n) (f_X6_fault L readStock text readPart).2.2.2.1 (f_X6_fault L readStock text readPart).2.2.2.2.1 (f_X6_fault L readStock text readPart).2.2.2.2.2.1 (nI na) (nI tr) soonMany soonWhich kindMany kindFirst restMany restFirst text lies kind (f_X6_fault L readStock text readPart).2.2.2.2.2.2 page trial book keptM isKept triedAbout triedIs gains value seed ls H locs ho.2 hP hD hS hl
set_option maxHeartbeats 4000000 in
set_option maxRecDepth 100000 in
theorem lc_idea {p : Program} {l : Launch} {e : Env} {s : State} {m : MethodId} {below : List Frame} {meth : Method} {c : Code} {D : va_G} {cI cZ : ClassId} {qx qm : Nat → Nat} {b LL : Nat} {xs : Nat → Int32} (hLL : LL ≤ 2048) (C0 : lw_At p s m meth c b LL xs) (hK : va_K D vwCl (tyL cI cZ) s) {i : Nat} (hi : i + 3 < LL) (kk : LK p l e s m below meth c D cI cZ qx qm b i 873) : LK p l e s m below meth c D cI cZ qx qm b i 201 := by
  obtain ⟨hx, hb, hr, hml, hown, hts0, hX, hbl, hlocks, hgv⟩ := C0
  have hts : ∀ w ∈ tb, w.before #[Value.ref b] s = true := fun w h => hts0 w (tb_in w h)
  have hF : CallFix p m c code 4 s #[Value.ref b] tb RL := ⟨hx, hb, hml, hown, hts⟩
  have hown : s.vm.findClass RL = some m.cls := hown
  have hbA : ¬ (fun q : Nat => s.heap.size ≤ q) b := Nat.not_le.mpr hbl
  intro now rains length poles parts plain key stair air acnt tcnt letters cells kinds frames rainsB abouts stoods kept keptF keptR seed thrown textSize place stock partsM readStock readCells readParts acts tried soonMany soonWhich kindMany kindFirst restMany restFirst text lies kind readPart page trial book keptM isKept triedAbout triedIs gains value seedM ls H locs hI hP hD hS hl
  obtain ⟨L, sp, n, na, tr, cl, kd, rfl, rfl, rfl, rfl, rfl, rfl, rfl, rfl, rfl, rfl, rfl, rfl, rfl, rfl, hC⟩ := hI
  refine lv_aload_n hx hb dL_law_201 rfl (lv_at hl 1 rfl) ?_
  refine xWrI (b := (qx 0)) (As := []) (rest := []) hF (c_X5_idea l D cI cZ qx now rains (nI L) (nI sp) (nI n) plain key stair air (nI na) (nI tr) text cells kinds frames rainsB triedAbout triedIs kept keptF keptR seed L rfl hC.hL) (gdV tm_1_159 tm_1_160 tm_1_161 tm_1_1 tm_1_162) de_X5_idea ⟨Nat.le_of_ble_eq_true rfl, Nat.le_of_ble_eq_true rfl⟩ hP hK (va_recv hK hP.lef (ci := 4) (q0 := 0) rfl XW_0) hl.1 rfl (Nat.le_of_ble_eq_true rfl) dL_law_202 ⟨Nat.le_of_ble_eq_true rfl, Nat.le_of_ble_eq_true rfl⟩ hD hS (XW_ad.trans XW_ad.symm) (fun H locs hP hD hS => ?_)
  refine lv_aload_n hx hb dL_law_205 rfl (lv_at hl 2 rfl) ?_
  refine mWrI (b := (qm 0)) (As := []) (rest := [.int (f_X5_idea L now rains (nI L) (nI sp) (nI n) plain key stair air (nI na) text cells kinds kept).1]) hF (c_X6_idea l D cI cZ qm thrown L place (nI sp) (nI n) readStock readCells readParts (nI na) (nI tr) soonMany soonWhich kindMany kindFirst restMany restFirst text lies kind readPart page trial book keptM isKept triedAbout triedIs gains value seed hC.hL) (gdV tm_3_122 tm_3_123 tm_3_124 tm_1_6 tm_3_125) de_X6_idea ⟨Nat.le_of_ble_eq_true rfl, Nat.le_of_ble_eq_true rfl⟩ hP hK (va_recv hK hP.rig (ci := 5) (q0 := 0) rfl MW_0) hl.1 rfl (Nat.le_of_ble_eq_true rfl) dL_law_206 ⟨Nat.le_of_ble_eq_true rfl, Nat.le_of_ble_eq_true rfl⟩ hD hS (MW_ad.trans MW_ad.symm) (fun H locs hP hD hS => ?_)
  have ho := op_idea L sp n na tr cl kd now rains plain key stair air thrown place readStock readCells readParts soonMany soonWhich kindMany kindFirst restMany restFirst text triedAbout triedIs cells kinds frames rainsB kept keptF keptR lies kind readPart page trial book keptM isKept gains value seed   hC
  refine lv_icmp_eq (tgt := 873) hx hb dL_law_209 (by decide) (fun c_209 => ?_) (fun c_209 => absurd ho.1 c_209)
  exact kk (f_X5_idea L now rains (nI L) (nI sp) (nI n) plain key stair air (nI na) text cells kinds kept).2.1 (f_X5_idea L now rains (nI L) (nI sp) (nI n) plain key stair air (nI na) text cells kinds kept).2.2.1 (nI L) (f_X5_idea L now rains (nI L) (nI sp) (nI n) plain key stair air (nI na) text cells kinds kept).2.2.2.1 (f_X5_idea L now rains (nI L) (nI sp) (nI n) plain key stair air (nI na) text cells kinds kept).2.2.2.2.1 (f_X5_idea L now rains (nI L) (nI sp) (nI n) plain key stair air (nI na) text cells kinds kept).2.2.2.2.2.1 (f_X5_idea L now rains (nI L) (nI sp) (nI n) plain key stair air (nI na) text cells kinds kept).2.2.2.2.2.2.1 (f_X5_idea L now rains (nI L) (nI sp) (nI n) plain key stair air (nI na) text cells kinds kept).2.2.2.2.2.2.2.1 (f_X5_idea L now rains (nI L) (nI sp) (nI n) plain key stair air (nI na) text cells kinds kept).2.2.2.2.2.2.2.2.1 (f_X5_idea L now rains (nI L) (nI sp) (nI n) plain key stair air (nI na) text cells kinds kept).2.2.2.2.2.2.2.2.2.1 (nI tr) text (f_X5_idea L now rains (nI L) (nI sp) (nI n) plain key stair air (nI na) text cells kinds kept).2.2.2.2.2.2.2.2.2.2.1 (f_X5_idea L now rains (nI L) (nI sp) (nI n) plain key stair air (nI na) text cells kinds kept).2.2.2.2.2.2.2.2.2.2.2.1 frames rainsB triedAbout triedIs (f_X5_idea L now rains (nI L) (nI sp) (nI n) plain key stair air (nI na) text cells kinds kept).2.2.2.2.2.2.2.2.2.2.2.2 keptF keptR seed (f_X6_idea L (nI sp) (nI n) readStock (nI na) text lies kind readPart page isKept).2.1 (nI L) (f_X6_idea L (nI sp) (nI n) readStock (nI na) text lies kind readPart page isKept).2.2.1 (f_X6_idea L (nI sp) (nI n) readStock (nI na) text lies kind readPart page isKept).2.2.2.1 (f_X6_idea L (nI sp) (nI n) readStock (nI na) text lies kind readPart page isKept).2.2.2.2.1 (f_X6_idea L (nI sp) (nI n) readStock (nI na) text lies kind readPart page isKept).2.2.2.2.2.1 (f_X6_idea L (nI sp) (nI n) readStock (nI na) text lies kind readPart page isKept).2.2.2.2.2.2.1 (f_X6_idea L (nI sp) (nI n) readStock (nI na) text lies kind readPart page isKept).2.2.2.2.2.2.2.1 (f_X6_idea L (nI sp) (nI n) readStock (nI na) text lies kind readPart page isKept).2.2.2.2.2.2.2.2.1 (nI tr) soonMany soonWhich kindMany kindFirst restMany restFirst text (f_X6_idea L (nI sp) (nI n) readStock (nI na) text lies kind readPart page isKept).2.2.2.2.2.2.2.2.2.1 (f_X6_idea L (nI sp) (nI n) readStock (nI na) text lies kind readPart page isKept).2.2.2.2.2.2.2.2.2.2.1 (f_X6_idea L (nI sp) (nI n) readStock (nI na) text lies kind readPart page isKept).2.2.2.2.2.2.2.2.2.2.2.1 (f_X6_idea L (nI sp) (nI n) readStock (nI na) text lies kind readPart page isKept).2.2.2.2.2.2.2.2.2.2.2.2.1 trial book keptM (f_X6_idea L (nI sp) (nI n) readStock (nI na) text lies kind readPart page isKept).2.2.2.2.2.2.2.2.2.2.2.2.2 triedAbout triedIs gains value seed ls H locs ho.2 hP hD hS hl
set_option maxHeartbeats 4000000 in
set_option maxRecDepth 100000 in
theorem lc_about {p : Program} {l : Launch} {e : Env} {s : State} {m : MethodId} {below : List Frame} {meth : Method} {c : Code} {D : va_G} {cI cZ : ClassId} {qx qm : Nat → Nat} {b LL : Nat} {xs : Nat → Int32} (hLL : LL ≤ 2048) (C0 : lw_At p s m meth c b LL xs) (hK : va_K D vwCl (tyL cI cZ) s) {i : Nat} (hi : i + 3 < LL) (kk : LK p l e s m below meth c D cI cZ qx qm b i 873) : LK p l e s m below meth c D cI cZ qx qm b i 214 := by
  obtain ⟨hx, hb, hr, hml, hown, hts0, hX, hbl, hlocks, hgv⟩ := C0
  have hts : ∀ w ∈ tb, w.before #[Value.ref b] s = true := fun w h => hts0 w (tb_in w h)
  have hF : CallFix p m c code 4 s #[Value.ref b] tb RL := ⟨hx, hb, hml, hown, hts⟩
  have hown : s.vm.findClass RL = some m.cls := hown
  have hbA : ¬ (fun q : Nat => s.heap.size ≤ q) b := Nat.not_le.mpr hbl
  intro now rains length poles parts plain key stair air acnt tcnt letters cells kinds frames rainsB abouts stoods kept keptF keptR seed thrown textSize place stock partsM readStock readCells readParts acts tried soonMany soonWhich kindMany kindFirst restMany restFirst text lies kind readPart page trial book keptM isKept triedAbout triedIs gains value seedM ls H locs hI hP hD hS hl
  obtain ⟨L, sp, n, na, tr, cl, kd, rfl, rfl, rfl, rfl, rfl, rfl, rfl, rfl, rfl, rfl, rfl, rfl, rfl, rfl, hC⟩ := hI
  refine lv_aload_n hx hb dL_law_214 rfl (lv_at hl 1 rfl) ?_
  refine lv_aload_n hx hb dL_law_215 rfl (lv_at hl 0 rfl) ?_
  refine lv_iload_n hx hb dL_law_216 rfl (lv_at hl 3 rfl) ?_
  refine lv_iconst (v := (1 : Int32)) hx hb dL_law_217 (by decide) ?_
  refine lv_iadd hx hb dL_law_218 ?_
  refine lv_rw (z := nI (i + 1)) (nI_add i 1) ?_
  refine va_sld hx hb hX hbl hbA hS (vp_in_nI (show i + 1 < LL by omega) (by omega)) dL_law_219 ?_
  refine lv_rw (z := xs (i + 1)) (congrArg xs (nI_clamp (by omega))) ?_
  refine vRdI (b := (qx 0)) (As := [.int (xs (i + 1))]) (rest := []) hF (c_X5_about l D cI cZ qx now rains (nI L) (nI sp) (nI n) plain key stair air (nI na) (nI tr) text cells kinds frames rainsB triedAbout triedIs kept keptF keptR seed (xs (i + 1))) (gdV tm_1_187 tm_1_188 tm_1_189 tm_1_1 tm_1_190) de_X5_about ⟨Nat.le_of_ble_eq_true rfl, Nat.le_of_ble_eq_true rfl⟩ hP.lef hK (va_recv hK hP.lef (ci := 4) (q0 := 0) rfl XW_0) hl.1 rfl (Nat.le_of_ble_eq_true rfl) dL_law_220 ⟨Nat.le_of_ble_eq_true rfl, Nat.le_of_ble_eq_true rfl⟩ ?_
  refine lv_aload_n hx hb dL_law_223 rfl (lv_at hl 2 rfl) ?_
  refine lv_aload_n hx hb dL_law_224 rfl (lv_at hl 0 rfl) ?_
  refine lv_iload_n hx hb dL_law_225 rfl (lv_at hl 3 rfl) ?_
  refine lv_iconst (v := (1 : Int32)) hx hb dL_law_226 (by decide) ?_
  refine lv_iadd hx hb dL_law_227 ?_
  refine lv_rw (z := nI (i + 1)) (nI_add i 1) ?_
  refine va_sld hx hb hX hbl hbA hS (vp_in_nI (show i + 1 < LL by omega) (by omega)) dL_law_228 ?_
  refine lv_rw (z := xs (i + 1)) (congrArg xs (nI_clamp (by omega))) ?_
  refine mWrI (b := (qm 0)) (As := [.int (xs (i + 1))]) (rest := [.int (f_X5_about now rains (nI L) (nI sp) (nI n) plain key stair air (nI na) (nI tr) cells (xs (i + 1)))]) hF (c_X6_about l D cI cZ qm thrown (nI L) place (nI sp) n readStock readCells readParts (nI na) (nI tr) soonMany soonWhich kindMany kindFirst restMany restFirst text lies kind readPart page trial book keptM isKept triedAbout triedIs gains value seed (xs (i + 1)) hC.hn cl hC.hcl) (gdV tm_3_126 tm_3_127 tm_3_128 tm_1_6 tm_3_129) de_X6_about ⟨Nat.le_of_ble_eq_true rfl, Nat.le_of_ble_eq_true rfl⟩ hP hK (va_recv hK hP.rig (ci := 5) (q0 := 0) rfl MW_0) hl.1 rfl (Nat.le_of_ble_eq_true rfl) dL_law_229 ⟨Nat.le_of_ble_eq_true rfl, Nat.le_of_ble_eq_true rfl⟩ hD hS (MW_ad.trans MW_ad.symm) (fun H locs hP hD hS => ?_)
  have ho := op_about L sp n na tr cl kd now rains plain key stair air thrown place readStock readCells readParts soonMany soonWhich kindMany kindFirst restMany restFirst text triedAbout triedIs cells kinds frames rainsB kept keptF keptR lies kind readPart page trial book keptM isKept gains value seed (xs (i + 1))  hC
  refine lv_icmp_eq (tgt := 873) hx hb dL_law_232 (by decide) (fun c_232 => ?_) (fun c_232 => absurd ho.1 c_232)
  exact kk now rains (nI L) (nI sp) (nI n) plain key stair air (nI na) (nI tr) text cells kinds frames rainsB triedAbout triedIs kept keptF keptR seed (f_X6_about cl n (nI L) (nI na) (nI tr) lies kind page trial (xs (i + 1))).2.1 (nI L) place (nI sp) (nI n) readStock readCells readParts (nI na) (nI tr) soonMany soonWhich kindMany kindFirst restMany restFirst text lies kind readPart page (f_X6_about cl n (nI L) (nI na) (nI tr) lies kind page trial (xs (i + 1))).2.2 book keptM isKept triedAbout triedIs gains value seed ls H locs ho.2 hP hD hS hl
set_option maxHeartbeats 4000000 in
set_option maxRecDepth 100000 in
theorem lc_part {p : Program} {l : Launch} {e : Env} {s : State} {m : MethodId} {below : List Frame} {meth : Method} {c : Code} {D : va_G} {cI cZ : ClassId} {qx qm : Nat → Nat} {b LL : Nat} {xs : Nat → Int32} (hLL : LL ≤ 2048) (C0 : lw_At p s m meth c b LL xs) (hK : va_K D vwCl (tyL cI cZ) s) {i : Nat} (hi : i + 3 < LL) (kk : LK p l e s m below meth c D cI cZ qx qm b i 873) : LK p l e s m below meth c D cI cZ qx qm b i 237 := by
  obtain ⟨hx, hb, hr, hml, hown, hts0, hX, hbl, hlocks, hgv⟩ := C0
  have hts : ∀ w ∈ tb, w.before #[Value.ref b] s = true := fun w h => hts0 w (tb_in w h)
  have hF : CallFix p m c code 4 s #[Value.ref b] tb RL := ⟨hx, hb, hml, hown, hts⟩
  have hown : s.vm.findClass RL = some m.cls := hown
  have hbA : ¬ (fun q : Nat => s.heap.size ≤ q) b := Nat.not_le.mpr hbl
  intro now rains length poles parts plain key stair air acnt tcnt letters cells kinds frames rainsB abouts stoods kept keptF keptR seed thrown textSize place stock partsM readStock readCells readParts acts tried soonMany soonWhich kindMany kindFirst restMany restFirst text lies kind readPart page trial book keptM isKept triedAbout triedIs gains value seedM ls H locs hI hP hD hS hl
  obtain ⟨L, sp, n, na, tr, cl, kd, rfl, rfl, rfl, rfl, rfl, rfl, rfl, rfl, rfl, rfl, rfl, rfl, rfl, rfl, hC⟩ := hI
  refine lv_aload_n hx hb dL_law_237 rfl (lv_at hl 1 rfl) ?_
  refine lv_aload_n hx hb dL_law_238 rfl (lv_at hl 0 rfl) ?_
  refine lv_iload_n hx hb dL_law_239 rfl (lv_at hl 3 rfl) ?_
  refine lv_iconst (v := (1 : Int32)) hx hb dL_law_240 (by decide) ?_
  refine lv_iadd hx hb dL_law_241 ?_
  refine lv_rw (z := nI (i + 1)) (nI_add i 1) ?_
  refine va_sld hx hb hX hbl hbA hS (vp_in_nI (show i + 1 < LL by omega) (by omega)) dL_law_242 ?_
  refine lv_rw (z := xs (i + 1)) (congrArg xs (nI_clamp (by omega))) ?_
  refine lv_aload_n hx hb dL_law_243 rfl (lv_at hl 0 rfl) ?_
  refine lv_iload_n hx hb dL_law_244 rfl (lv_at hl 3 rfl) ?_
  refine lv_iconst (v := (2 : Int32)) hx hb dL_law_245 (by decide) ?_
  refine lv_iadd hx hb dL_law_246 ?_
  refine lv_rw (z := nI (i + 2)) (nI_add i 2) ?_
  refine va_sld hx hb hX hbl hbA hS (vp_in_nI (show i + 2 < LL by omega) (by omega)) dL_law_247 ?_
  refine lv_rw (z := xs (i + 2)) (congrArg xs (nI_clamp (by omega))) ?_
  refine vRdI (b := (qx 0)) (As := [.int (xs (i + 1)), .int (xs (i + 2))]) (rest := []) hF (c_X5_part l D cI cZ qx now rains (nI L) (nI sp) (nI n) plain key stair air (nI na) (nI tr) text cells kinds frames rainsB triedAbout triedIs kept keptF keptR seed (xs (i + 1)) (xs (i + 2))) (gdV tm_1_227 tm_1_228 tm_1_229 tm_1_1 tm_1_230) de_X5_part ⟨Nat.le_of_ble_eq_true rfl, Nat.le_of_ble_eq_true rfl⟩ hP.lef hK (va_recv hK hP.lef (ci := 4) (q0 := 0) rfl XW_0) hl.1 rfl (Nat.le_of_ble_eq_true rfl) dL_law_248 ⟨Nat.le_of_ble_eq_true rfl, Nat.le_of_ble_eq_true rfl⟩ ?_
  refine lv_aload_n hx hb dL_law_251 rfl (lv_at hl 2 rfl) ?_
  refine lv_aload_n hx hb dL_law_252 rfl (lv_at hl 0 rfl) ?_
  refine lv_iload_n hx hb dL_law_253 rfl (lv_at hl 3 rfl) ?_
  refine lv_iconst (v := (1 : Int32)) hx hb dL_law_254 (by decide) ?_
  refine lv_iadd hx hb dL_law_255 ?_
  refine lv_rw (z := nI (i + 1)) (nI_add i 1) ?_
  refine va_sld hx hb hX hbl hbA hS (vp_in_nI (show i + 1 < LL by omega) (by omega)) dL_law_256 ?_
  refine lv_rw (z := xs (i + 1)) (congrArg xs (nI_clamp (by omega))) ?_
  refine lv_aload_n hx hb dL_law_257 rfl (lv_at hl 0 rfl) ?_
  refine lv_iload_n hx hb dL_law_258 rfl (lv_at hl 3 rfl) ?_
  refine lv_iconst (v := (2 : Int32)) hx hb dL_law_259 (by decide) ?_
  refine lv_iadd hx hb dL_law_260 ?_
  refine lv_rw (z := nI (i + 2)) (nI_add i 2) ?_
  refine va_sld hx hb hX hbl hbA hS (vp_in_nI (show i + 2 < LL by omega) (by omega)) dL_law_261 ?_
  refine lv_rw (z := xs (i + 2)) (congrArg xs (nI_clamp (by omega))) ?_
  refine mWrI (b := (qm 0)) (As := [.int (xs (i + 1)), .int (xs (i + 2))]) (rest := [.int (f_X5_part now (nI n) cells kinds (xs (i + 1)) (xs (i + 2)))]) hF (c_X6_part l D cI cZ qm thrown (nI L) place (nI sp) n readStock readCells readParts (nI na) (nI tr) soonMany soonWhich kindMany kindFirst restMany restFirst text lies kind readPart page trial book keptM isKept triedAbout triedIs gains value seed (xs (i + 1)) (xs (i + 2)) hC.hn cl hC.hcl) (gdV tm_3_174 tm_3_175 tm_3_176 tm_1_6 tm_3_177) de_X6_part ⟨Nat.le_of_ble_eq_true rfl, Nat.le_of_ble_eq_true rfl⟩ hP hK (va_recv hK hP.rig (ci := 5) (q0 := 0) rfl MW_0) hl.1 rfl (Nat.le_of_ble_eq_true rfl) dL_law_262 ⟨Nat.le_of_ble_eq_true rfl, Nat.le_of_ble_eq_true rfl⟩ hD hS (MW_ad.trans MW_ad.symm) (fun H locs hP hD hS => ?_)
  have ho := op_part L sp n na tr cl kd now rains plain key stair air thrown place readStock readCells readParts soonMany soonWhich kindMany kindFirst restMany restFirst text triedAbout triedIs cells kinds frames rainsB kept keptF keptR lies kind readPart page trial book keptM isKept gains value seed (xs (i + 1)) (xs (i + 2))  hC
  refine lv_icmp_eq (tgt := 873) hx hb dL_law_265 (by decide) (fun c_265 => ?_) (fun c_265 => absurd ho.1 c_265)
  exact kk now rains (nI L) (nI sp) (nI n) plain key stair air (nI na) (nI tr) text cells kinds frames rainsB triedAbout triedIs kept keptF keptR seed (f_X6_part cl n lies kind page (xs (i + 1)) (xs (i + 2))).2 (nI L) place (nI sp) (nI n) readStock readCells readParts (nI na) (nI tr) soonMany soonWhich kindMany kindFirst restMany restFirst text lies kind readPart page trial book keptM isKept triedAbout triedIs gains value seed ls H locs ho.2 hP hD hS hl
set_option maxHeartbeats 4000000 in
set_option maxRecDepth 100000 in
theorem lc_column {p : Program} {l : Launch} {e : Env} {s : State} {m : MethodId} {below : List Frame} {meth : Method} {c : Code} {D : va_G} {cI cZ : ClassId} {qx qm : Nat → Nat} {b LL : Nat} {xs : Nat → Int32} (hLL : LL ≤ 2048) (C0 : lw_At p s m meth c b LL xs) (hK : va_K D vwCl (tyL cI cZ) s) {i : Nat} (hi : i + 3 < LL) (kk : LK p l e s m below meth c D cI cZ qx qm b i 873) : LK p l e s m below meth c D cI cZ qx qm b i 270 := by
  obtain ⟨hx, hb, hr, hml, hown, hts0, hX, hbl, hlocks, hgv⟩ := C0
  have hts : ∀ w ∈ tb, w.before #[Value.ref b] s = true := fun w h => hts0 w (tb_in w h)
  have hF : CallFix p m c code 4 s #[Value.ref b] tb RL := ⟨hx, hb, hml, hown, hts⟩
  have hown : s.vm.findClass RL = some m.cls := hown
  have hbA : ¬ (fun q : Nat => s.heap.size ≤ q) b := Nat.not_le.mpr hbl
  intro now rains length poles parts plain key stair air acnt tcnt letters cells kinds frames rainsB abouts stoods kept keptF keptR seed thrown textSize place stock partsM readStock readCells readParts acts tried soonMany soonWhich kindMany kindFirst restMany restFirst text lies kind readPart page trial book keptM isKept triedAbout triedIs gains value seedM ls H locs hI hP hD hS hl
  obtain ⟨L, sp, n, na, tr, cl, kd, rfl, rfl, rfl, rfl, rfl, rfl, rfl, rfl, rfl, rfl, rfl, rfl, rfl, rfl, hC⟩ := hI
  refine lv_aload_n hx hb dL_law_270 rfl (lv_at hl 1 rfl) ?_
  refine lv_aload_n hx hb dL_law_271 rfl (lv_at hl 0 rfl) ?_
  refine lv_iload_n hx hb dL_law_272 rfl (lv_at hl 3 rfl) ?_
  refine lv_iconst (v := (1 : Int32)) hx hb dL_law_273 (by decide) ?_
  refine lv_iadd hx hb dL_law_274 ?_
  refine lv_rw (z := nI (i + 1)) (nI_add i 1) ?_
  refine va_sld hx hb hX hbl hbA hS (vp_in_nI (show i + 1 < LL by omega) (by omega)) dL_law_275 ?_
  refine lv_rw (z := xs (i + 1)) (congrArg xs (nI_clamp (by omega))) ?_
  refine vRdI (b := (qx 0)) (As := [.int (xs (i + 1))]) (rest := []) hF (c_X5_column l D cI cZ qx now rains (nI L) (nI sp) (nI n) plain key stair air (nI na) (nI tr) text cells kinds frames rainsB triedAbout triedIs kept keptF keptR seed (xs (i + 1))) (gdV tm_2_4 tm_2_5 tm_2_6 tm_1_1 tm_2_7) de_X5_column ⟨Nat.le_of_ble_eq_true rfl, Nat.le_of_ble_eq_true rfl⟩ hP.lef hK (va_recv hK hP.lef (ci := 4) (q0 := 0) rfl XW_0) hl.1 rfl (Nat.le_of_ble_eq_true rfl) dL_law_276 ⟨Nat.le_of_ble_eq_true rfl, Nat.le_of_ble_eq_true rfl⟩ ?_
  refine lv_aload_n hx hb dL_law_279 rfl (lv_at hl 2 rfl) ?_
  refine lv_aload_n hx hb dL_law_280 rfl (lv_at hl 0 rfl) ?_
  refine lv_iload_n hx hb dL_law_281 rfl (lv_at hl 3 rfl) ?_
  refine lv_iconst (v := (1 : Int32)) hx hb dL_law_282 (by decide) ?_
  refine lv_iadd hx hb dL_law_283 ?_
  refine lv_rw (z := nI (i + 1)) (nI_add i 1) ?_
  refine va_sld hx hb hX hbl hbA hS (vp_in_nI (show i + 1 < LL by omega) (by omega)) dL_law_284 ?_
  refine lv_rw (z := xs (i + 1)) (congrArg xs (nI_clamp (by omega))) ?_
  refine mWrI (b := (qm 0)) (As := [.int (xs (i + 1))]) (rest := [.int (f_X5_column now (xs (i + 1)))]) hF (c_X6_column l D cI cZ qm thrown (nI L) place (nI sp) (nI n) readStock readCells readParts (nI na) (nI tr) soonMany soonWhich kindMany kindFirst restMany restFirst text lies kind readPart page trial book keptM isKept triedAbout triedIs gains value seed (xs (i + 1))) (gdV tm_3_182 tm_3_183 tm_3_184 tm_1_6 tm_3_185) de_X6_column ⟨Nat.le_of_ble_eq_true rfl, Nat.le_of_ble_eq_true rfl⟩ hP hK (va_recv hK hP.rig (ci := 5) (q0 := 0) rfl MW_0) hl.1 rfl (Nat.le_of_ble_eq_true rfl) dL_law_285 ⟨Nat.le_of_ble_eq_true rfl, Nat.le_of_ble_eq_true rfl⟩ hD hS (MW_ad.trans MW_ad.symm) (fun H locs hP hD hS => ?_)
  have ho := op_column L sp n na tr cl kd now rains plain key stair air thrown place readStock readCells readParts soonMany soonWhich kindMany kindFirst restMany restFirst text triedAbout triedIs cells kinds frames rainsB kept keptF keptR lies kind readPart page trial book keptM isKept gains value seed (xs (i + 1))  hC
  refine lv_icmp_eq (tgt := 873) hx hb dL_law_288 (by decide) (fun c_288 => ?_) (fun c_288 => absurd ho.1 c_288)
  exact kk now rains (nI L) (nI sp) (nI n) plain key stair air (nI na) (nI tr) text cells kinds frames rainsB triedAbout triedIs kept keptF keptR seed (f_X6_column page (xs (i + 1))).2 (nI L) place (nI sp) (nI n) readStock readCells readParts (nI na) (nI tr) soonMany soonWhich kindMany kindFirst restMany restFirst text lies kind readPart page trial book keptM isKept triedAbout triedIs gains value seed ls H locs ho.2 hP hD hS hl
set_option maxHeartbeats 4000000 in
set_option maxRecDepth 100000 in
theorem lc_at {p : Program} {l : Launch} {e : Env} {s : State} {m : MethodId} {below : List Frame} {meth : Method} {c : Code} {D : va_G} {cI cZ : ClassId} {qx qm : Nat → Nat} {b LL : Nat} {xs : Nat → Int32} (hLL : LL ≤ 2048) (C0 : lw_At p s m meth c b LL xs) (hK : va_K D vwCl (tyL cI cZ) s) {i : Nat} (hi : i + 3 < LL) (kk : LK p l e s m below meth c D cI cZ qx qm b i 873) : LK p l e s m below meth c D cI cZ qx qm b i 293 := by
  obtain ⟨hx, hb, hr, hml, hown, hts0, hX, hbl, hlocks, hgv⟩ := C0
  have hts : ∀ w ∈ tb, w.before #[Value.ref b] s = true := fun w h => hts0 w (tb_in w h)
  have hF : CallFix p m c code 4 s #[Value.ref b] tb RL := ⟨hx, hb, hml, hown, hts⟩
  have hown : s.vm.findClass RL = some m.cls := hown
  have hbA : ¬ (fun q : Nat => s.heap.size ≤ q) b := Nat.not_le.mpr hbl
  intro now rains length poles parts plain key stair air acnt tcnt letters cells kinds frames rainsB abouts stoods kept keptF keptR seed thrown textSize place stock partsM readStock readCells readParts acts tried soonMany soonWhich kindMany kindFirst restMany restFirst text lies kind readPart page trial book keptM isKept triedAbout triedIs gains value seedM ls H locs hI hP hD hS hl
  obtain ⟨L, sp, n, na, tr, cl, kd, rfl, rfl, rfl, rfl, rfl, rfl, rfl, rfl, rfl, rfl, rfl, rfl, rfl, rfl, hC⟩ := hI
  refine lv_aload_n hx hb dL_law_293 rfl (lv_at hl 1 rfl) ?_
  refine lv_aload_n hx hb dL_law_294 rfl (lv_at hl 0 rfl) ?_
  refine lv_iload_n hx hb dL_law_295 rfl (lv_at hl 3 rfl) ?_
  refine lv_iconst (v := (1 : Int32)) hx hb dL_law_296 (by decide) ?_
  refine lv_iadd hx hb dL_law_297 ?_
  refine lv_rw (z := nI (i + 1)) (nI_add i 1) ?_
  refine va_sld hx hb hX hbl hbA hS (vp_in_nI (show i + 1 < LL by omega) (by omega)) dL_law_298 ?_
  refine lv_rw (z := xs (i + 1)) (congrArg xs (nI_clamp (by omega))) ?_
  refine vRdI (b := (qx 0)) (As := [.int (xs (i + 1))]) (rest := []) hF (c_X5_at l D cI cZ qx now rains (nI L) (nI sp) (nI n) plain key stair air (nI na) (nI tr) text cells kinds frames rainsB triedAbout triedIs kept keptF keptR seed (xs (i + 1))) (gdV tm_2_16 tm_2_17 tm_2_18 tm_1_1 tm_2_19) de_X5_at ⟨Nat.le_of_ble_eq_true rfl, Nat.le_of_ble_eq_true rfl⟩ hP.lef hK (va_recv hK hP.lef (ci := 4) (q0 := 0) rfl XW_0) hl.1 rfl (Nat.le_of_ble_eq_true rfl) dL_law_299 ⟨Nat.le_of_ble_eq_true rfl, Nat.le_of_ble_eq_true rfl⟩ ?_
  refine lv_aload_n hx hb dL_law_302 rfl (lv_at hl 2 rfl) ?_
  refine lv_aload_n hx hb dL_law_303 rfl (lv_at hl 0 rfl) ?_
  refine lv_iload_n hx hb dL_law_304 rfl (lv_at hl 3 rfl) ?_
  refine lv_iconst (v := (1 : Int32)) hx hb dL_law_305 (by decide) ?_
  refine lv_iadd hx hb dL_law_306 ?_
  refine lv_rw (z := nI (i + 1)) (nI_add i 1) ?_
  refine va_sld hx hb hX hbl hbA hS (vp_in_nI (show i + 1 < LL by omega) (by omega)) dL_law_307 ?_
  refine lv_rw (z := xs (i + 1)) (congrArg xs (nI_clamp (by omega))) ?_
  refine mWrI (b := (qm 0)) (As := [.int (xs (i + 1))]) (rest := [.int (f_X5_at cells (xs (i + 1)))]) hF (c_X6_at l D cI cZ qm thrown (nI L) place (nI sp) n readStock readCells readParts (nI na) (nI tr) soonMany soonWhich kindMany kindFirst restMany restFirst text lies kind readPart page trial book keptM isKept triedAbout triedIs gains value seed (xs (i + 1)) hC.hn) (gdV tm_3_186 tm_3_187 tm_3_188 tm_1_6 tm_3_189) de_X6_at ⟨Nat.le_of_ble_eq_true rfl, Nat.le_of_ble_eq_true rfl⟩ hP hK (va_recv hK hP.rig (ci := 5) (q0 := 0) rfl MW_0) hl.1 rfl (Nat.le_of_ble_eq_true rfl) dL_law_308 ⟨Nat.le_of_ble_eq_true rfl, Nat.le_of_ble_eq_true rfl⟩ hD hS (MW_ad.trans MW_ad.symm) (fun H locs hP hD hS => ?_)
  have ho := op_at L sp n na tr cl kd now rains plain key stair air thrown place readStock readCells readParts soonMany soonWhich kindMany kindFirst restMany restFirst text triedAbout triedIs cells kinds frames rainsB kept keptF keptR lies kind readPart page trial book keptM isKept gains value seed (xs (i + 1))  hC
  refine lv_icmp_eq (tgt := 873) hx hb dL_law_311 (by decide) (fun c_311 => ?_) (fun c_311 => absurd ho.1 c_311)
  exact kk now rains (nI L) (nI sp) (nI n) plain key stair air (nI na) (nI tr) text cells kinds frames rainsB triedAbout triedIs kept keptF keptR seed (f_X6_at n lies (xs (i + 1))).2 (nI L) place (nI sp) (nI n) readStock readCells readParts (nI na) (nI tr) soonMany soonWhich kindMany kindFirst restMany restFirst text lies kind readPart page trial book keptM isKept triedAbout triedIs gains value seed ls H locs ho.2 hP hD hS hl
set_option maxHeartbeats 4000000 in
set_option maxRecDepth 100000 in
theorem lc_put {p : Program} {l : Launch} {e : Env} {s : State} {m : MethodId} {below : List Frame} {meth : Method} {c : Code} {D : va_G} {cI cZ : ClassId} {qx qm : Nat → Nat} {b LL : Nat} {xs : Nat → Int32} (hLL : LL ≤ 2048) (C0 : lw_At p s m meth c b LL xs) (hK : va_K D vwCl (tyL cI cZ) s) {i : Nat} (hi : i + 3 < LL) (kk : LK p l e s m below meth c D cI cZ qx qm b i 873) : LK p l e s m below meth c D cI cZ qx qm b i 316 := by
  obtain ⟨hx, hb, hr, hml, hown, hts0, hX, hbl, hlocks, hgv⟩ := C0
  have hts : ∀ w ∈ tb, w.before #[Value.ref b] s = true := fun w h => hts0 w (tb_in w h)
  have hF : CallFix p m c code 4 s #[Value.ref b] tb RL := ⟨hx, hb, hml, hown, hts⟩
  have hown : s.vm.findClass RL = some m.cls := hown
  have hbA : ¬ (fun q : Nat => s.heap.size ≤ q) b := Nat.not_le.mpr hbl
  intro now rains length poles parts plain key stair air acnt tcnt letters cells kinds frames rainsB abouts stoods kept keptF keptR seed thrown textSize place stock partsM readStock readCells readParts acts tried soonMany soonWhich kindMany kindFirst restMany restFirst text lies kind readPart page trial book keptM isKept triedAbout triedIs gains value seedM ls H locs hI hP hD hS hl
  obtain ⟨L, sp, n, na, tr, cl, kd, rfl, rfl, rfl, rfl, rfl, rfl, rfl, rfl, rfl, rfl, rfl, rfl, rfl, rfl, hC⟩ := hI
  refine lv_aload_n hx hb dL_law_316 rfl (lv_at hl 1 rfl) ?_
  refine lv_aload_n hx hb dL_law_317 rfl (lv_at hl 0 rfl) ?_
  refine lv_iload_n hx hb dL_law_318 rfl (lv_at hl 3 rfl) ?_
  refine lv_iconst (v := (1 : Int32)) hx hb dL_law_319 (by decide) ?_
  refine lv_iadd hx hb dL_law_320 ?_
  refine lv_rw (z := nI (i + 1)) (nI_add i 1) ?_
  refine va_sld hx hb hX hbl hbA hS (vp_in_nI (show i + 1 < LL by omega) (by omega)) dL_law_321 ?_
  refine lv_rw (z := xs (i + 1)) (congrArg xs (nI_clamp (by omega))) ?_
  refine xWrI (b := (qx 0)) (As := [.int (xs (i + 1))]) (rest := []) hF (c_X5_put l D cI cZ qx now rains (nI L) (nI sp) (nI n) plain key stair air (nI na) (nI tr) text cells kinds frames rainsB triedAbout triedIs kept keptF keptR seed (xs (i + 1))) (gdV tm_2_24 tm_2_25 tm_2_26 tm_1_1 tm_2_27) de_X5_put ⟨Nat.le_of_ble_eq_true rfl, Nat.le_of_ble_eq_true rfl⟩ hP hK (va_recv hK hP.lef (ci := 4) (q0 := 0) rfl XW_0) hl.1 rfl (Nat.le_of_ble_eq_true rfl) dL_law_322 ⟨Nat.le_of_ble_eq_true rfl, Nat.le_of_ble_eq_true rfl⟩ hD hS (XW_ad.trans XW_ad.symm) (fun H locs hP hD hS => ?_)
  refine lv_aload_n hx hb dL_law_325 rfl (lv_at hl 2 rfl) ?_
  refine lv_aload_n hx hb dL_law_326 rfl (lv_at hl 0 rfl) ?_
  refine lv_iload_n hx hb dL_law_327 rfl (lv_at hl 3 rfl) ?_
  refine lv_iconst (v := (1 : Int32)) hx hb dL_law_328 (by decide) ?_
  refine lv_iadd hx hb dL_law_329 ?_
  refine lv_rw (z := nI (i + 1)) (nI_add i 1) ?_
  refine va_sld hx hb hX hbl hbA hS (vp_in_nI (show i + 1 < LL by omega) (by omega)) dL_law_330 ?_
  refine lv_rw (z := xs (i + 1)) (congrArg xs (nI_clamp (by omega))) ?_
  refine mWrI (b := (qm 0)) (As := [.int (xs (i + 1))]) (rest := [.int (f_X5_put now rains (nI sp) plain key stair air (nI na) frames rainsB (xs (i + 1))).1]) hF (c_X6_put l D cI cZ qm thrown (nI L) place (nI sp) n readStock readCells readParts na (nI tr) soonMany soonWhich kindMany kindFirst restMany restFirst text lies kind readPart page trial book keptM isKept triedAbout triedIs gains value seed (xs (i + 1)) hC.hn cl hC.hcl hC.hna) (gdV tm_3_190 tm_3_191 tm_3_192 tm_1_6 tm_3_193) de_X6_put ⟨Nat.le_of_ble_eq_true rfl, Nat.le_of_ble_eq_true rfl⟩ hP hK (va_recv hK hP.rig (ci := 5) (q0 := 0) rfl MW_0) hl.1 rfl (Nat.le_of_ble_eq_true rfl) dL_law_331 ⟨Nat.le_of_ble_eq_true rfl, Nat.le_of_ble_eq_true rfl⟩ hD hS (MW_ad.trans MW_ad.symm) (fun H locs hP hD hS => ?_)
  have ho := op_put L sp n na tr cl kd now rains plain key stair air thrown place readStock readCells readParts soonMany soonWhich kindMany kindFirst restMany restFirst text triedAbout triedIs cells kinds frames rainsB kept keptF keptR lies kind readPart page trial book keptM isKept gains value seed (xs (i + 1))  hC
  refine lv_icmp_eq (tgt := 873) hx hb dL_law_334 (by decide) (fun c_334 => ?_) (fun c_334 => absurd ho.1 c_334)
  exact kk (f_X5_put now rains (nI sp) plain key stair air (nI na) frames rainsB (xs (i + 1))).2.1 rains (nI L) (nI sp) (nI n) plain key stair air (f_X5_put now rains (nI sp) plain key stair air (nI na) frames rainsB (xs (i + 1))).2.2.1 (nI tr) text cells kinds (f_X5_put now rains (nI sp) plain key stair air (nI na) frames rainsB (xs (i + 1))).2.2.2.1 (f_X5_put now rains (nI sp) plain key stair air (nI na) frames rainsB (xs (i + 1))).2.2.2.2 triedAbout triedIs kept keptF keptR seed (f_X6_put cl n na lies kind page book (xs (i + 1))).2.1 (nI L) place (nI sp) (nI n) readStock readCells readParts (f_X6_put cl n na lies kind page book (xs (i + 1))).2.2.1 (nI tr) soonMany soonWhich kindMany kindFirst restMany restFirst text lies kind readPart (f_X6_put cl n na lies kind page book (xs (i + 1))).2.2.2.1 trial (f_X6_put cl n na lies kind page book (xs (i + 1))).2.2.2.2 keptM isKept triedAbout triedIs gains value seed ls H locs ho.2 hP hD hS hl
set_option maxHeartbeats 4000000 in
set_option maxRecDepth 100000 in
theorem lc_strike {p : Program} {l : Launch} {e : Env} {s : State} {m : MethodId} {below : List Frame} {meth : Method} {c : Code} {D : va_G} {cI cZ : ClassId} {qx qm : Nat → Nat} {b LL : Nat} {xs : Nat → Int32} (hLL : LL ≤ 2048) (C0 : lw_At p s m meth c b LL xs) (hK : va_K D vwCl (tyL cI cZ) s) {i : Nat} (hi : i + 3 < LL) (kk : LK p l e s m below meth c D cI cZ qx qm b i 873) : LK p l e s m below meth c D cI cZ qx qm b i 339 := by
  obtain ⟨hx, hb, hr, hml, hown, hts0, hX, hbl, hlocks, hgv⟩ := C0
  have hts : ∀ w ∈ tb, w.before #[Value.ref b] s = true := fun w h => hts0 w (tb_in w h)
  have hF : CallFix p m c code 4 s #[Value.ref b] tb RL := ⟨hx, hb, hml, hown, hts⟩
  have hown : s.vm.findClass RL = some m.cls := hown
  have hbA : ¬ (fun q : Nat => s.heap.size ≤ q) b := Nat.not_le.mpr hbl
  intro now rains length poles parts plain key stair air acnt tcnt letters cells kinds frames rainsB abouts stoods kept keptF keptR seed thrown textSize place stock partsM readStock readCells readParts acts tried soonMany soonWhich kindMany kindFirst restMany restFirst text lies kind readPart page trial book keptM isKept triedAbout triedIs gains value seedM ls H locs hI hP hD hS hl
  obtain ⟨L, sp, n, na, tr, cl, kd, rfl, rfl, rfl, rfl, rfl, rfl, rfl, rfl, rfl, rfl, rfl, rfl, rfl, rfl, hC⟩ := hI
  refine lv_aload_n hx hb dL_law_339 rfl (lv_at hl 1 rfl) ?_
  refine lv_aload_n hx hb dL_law_340 rfl (lv_at hl 0 rfl) ?_
  refine lv_iload_n hx hb dL_law_341 rfl (lv_at hl 3 rfl) ?_
  refine lv_iconst (v := (1 : Int32)) hx hb dL_law_342 (by decide) ?_
  refine lv_iadd hx hb dL_law_343 ?_
  refine lv_rw (z := nI (i + 1)) (nI_add i 1) ?_
  refine va_sld hx hb hX hbl hbA hS (vp_in_nI (show i + 1 < LL by omega) (by omega)) dL_law_344 ?_
  refine lv_rw (z := xs (i + 1)) (congrArg xs (nI_clamp (by omega))) ?_
  refine xWrI (b := (qx 0)) (As := [.int (xs (i + 1))]) (rest := []) hF (c_X5_strike l D cI cZ qx now rains (nI L) (nI sp) (nI n) plain key stair air (nI na) (nI tr) text cells kinds frames rainsB triedAbout triedIs kept keptF keptR seed (xs (i + 1))) (gdV tm_2_52 tm_2_53 tm_2_54 tm_1_1 tm_2_55) de_X5_strike ⟨Nat.le_of_ble_eq_true rfl, Nat.le_of_ble_eq_true rfl⟩ hP hK (va_recv hK hP.lef (ci := 4) (q0 := 0) rfl XW_0) hl.1 rfl (Nat.le_of_ble_eq_true rfl) dL_law_345 ⟨Nat.le_of_ble_eq_true rfl, Nat.le_of_ble_eq_true rfl⟩ hD hS (XW_ad.trans XW_ad.symm) (fun H locs hP hD hS => ?_)
  refine lv_aload_n hx hb dL_law_348 rfl (lv_at hl 2 rfl) ?_
  refine lv_aload_n hx hb dL_law_349 rfl (lv_at hl 0 rfl) ?_
  refine lv_iload_n hx hb dL_law_350 rfl (lv_at hl 3 rfl) ?_
  refine lv_iconst (v := (1 : Int32)) hx hb dL_law_351 (by decide) ?_
  refine lv_iadd hx hb dL_law_352 ?_
  refine lv_rw (z := nI (i + 1)) (nI_add i 1) ?_
  refine va_sld hx hb hX hbl hbA hS (vp_in_nI (show i + 1 < LL by omega) (by omega)) dL_law_353 ?_
  refine lv_rw (z := xs (i + 1)) (congrArg xs (nI_clamp (by omega))) ?_
  refine mWrI (b := (qm 0)) (As := [.int (xs (i + 1))]) (rest := [.int (f_X5_strike now rains plain key stair air (nI na) frames rainsB (xs (i + 1))).1]) hF (c_X6_strike l D cI cZ qm thrown (nI L) place (nI sp) n readStock readCells readParts na (nI tr) soonMany soonWhich kindMany kindFirst restMany restFirst text lies kind readPart page trial book keptM isKept triedAbout triedIs gains value seed (xs (i + 1)) hC.hn cl hC.hcl hC.hna) (gdV tm_3_202 tm_3_203 tm_3_204 tm_1_6 tm_3_205) de_X6_strike ⟨Nat.le_of_ble_eq_true rfl, Nat.le_of_ble_eq_true rfl⟩ hP hK (va_recv hK hP.rig (ci := 5) (q0 := 0) rfl MW_0) hl.1 rfl (Nat.le_of_ble_eq_true rfl) dL_law_354 ⟨Nat.le_of_ble_eq_true rfl, Nat.le_of_ble_eq_true rfl⟩ hD hS (MW_ad.trans MW_ad.symm) (fun H locs hP hD hS => ?_)
  have ho := op_strike L sp n na tr cl kd now rains plain key stair air thrown place readStock readCells readParts soonMany soonWhich kindMany kindFirst restMany restFirst text triedAbout triedIs cells kinds frames rainsB kept keptF keptR lies kind readPart page trial book keptM isKept gains value seed (xs (i + 1))  hC
  refine lv_icmp_eq (tgt := 873) hx hb dL_law_357 (by decide) (fun c_357 => ?_) (fun c_357 => absurd ho.1 c_357)
  exact kk (f_X5_strike now rains plain key stair air (nI na) frames rainsB (xs (i + 1))).2.1 rains (nI L) (nI sp) (nI n) plain key stair air (f_X5_strike now rains plain key stair air (nI na) frames rainsB (xs (i + 1))).2.2.1 (nI tr) text cells kinds (f_X5_strike now rains plain key stair air (nI na) frames rainsB (xs (i + 1))).2.2.2.1 (f_X5_strike now rains plain key stair air (nI na) frames rainsB (xs (i + 1))).2.2.2.2 triedAbout triedIs kept keptF keptR seed (f_X6_strike cl n na lies kind page book (xs (i + 1))).2.1 (nI L) place (nI sp) (nI n) readStock readCells readParts (f_X6_strike cl n na lies kind page book (xs (i + 1))).2.2.1 (nI tr) soonMany soonWhich kindMany kindFirst restMany restFirst text lies kind readPart (f_X6_strike cl n na lies kind page book (xs (i + 1))).2.2.2.1 trial (f_X6_strike cl n na lies kind page book (xs (i + 1))).2.2.2.2 keptM isKept triedAbout triedIs gains value seed ls H locs ho.2 hP hD hS hl
set_option maxHeartbeats 4000000 in
set_option maxRecDepth 100000 in
theorem lc_rain {p : Program} {l : Launch} {e : Env} {s : State} {m : MethodId} {below : List Frame} {meth : Method} {c : Code} {D : va_G} {cI cZ : ClassId} {qx qm : Nat → Nat} {b LL : Nat} {xs : Nat → Int32} (hLL : LL ≤ 2048) (C0 : lw_At p s m meth c b LL xs) (hK : va_K D vwCl (tyL cI cZ) s) {i : Nat} (hi : i + 3 < LL) (kk : LK p l e s m below meth c D cI cZ qx qm b i 873) : LK p l e s m below meth c D cI cZ qx qm b i 362 := by
  obtain ⟨hx, hb, hr, hml, hown, hts0, hX, hbl, hlocks, hgv⟩ := C0
  have hts : ∀ w ∈ tb, w.before #[Value.ref b] s = true := fun w h => hts0 w (tb_in w h)
  have hF : CallFix p m c code 4 s #[Value.ref b] tb RL := ⟨hx, hb, hml, hown, hts⟩
  have hown : s.vm.findClass RL = some m.cls := hown
  have hbA : ¬ (fun q : Nat => s.heap.size ≤ q) b := Nat.not_le.mpr hbl
  intro now rains length poles parts plain key stair air acnt tcnt letters cells kinds frames rainsB abouts stoods kept keptF keptR seed thrown textSize place stock partsM readStock readCells readParts acts tried soonMany soonWhich kindMany kindFirst restMany restFirst text lies kind readPart page trial book keptM isKept triedAbout triedIs gains value seedM ls H locs hI hP hD hS hl
  obtain ⟨L, sp, n, na, tr, cl, kd, rfl, rfl, rfl, rfl, rfl, rfl, rfl, rfl, rfl, rfl, rfl, rfl, rfl, rfl, hC⟩ := hI
  refine lv_aload_n hx hb dL_law_362 rfl (lv_at hl 1 rfl) ?_
  refine xWrI (b := (qx 0)) (As := []) (rest := []) hF (c_X5_rain l D cI cZ qx now rains (nI L) (nI sp) (nI n) plain key stair air (nI na) (nI tr) text cells kinds frames rainsB triedAbout triedIs kept keptF keptR seed) (gdV tm_2_65 tm_2_66 tm_2_67 tm_1_1 tm_2_68) de_X5_rain ⟨Nat.le_of_ble_eq_true rfl, Nat.le_of_ble_eq_true rfl⟩ hP hK (va_recv hK hP.lef (ci := 4) (q0 := 0) rfl XW_0) hl.1 rfl (Nat.le_of_ble_eq_true rfl) dL_law_363 ⟨Nat.le_of_ble_eq_true rfl, Nat.le_of_ble_eq_true rfl⟩ hD hS (XW_ad.trans XW_ad.symm) (fun H locs hP hD hS => ?_)
  refine lv_aload_n hx hb dL_law_366 rfl (lv_at hl 2 rfl) ?_
  refine mWrI (b := (qm 0)) (As := []) (rest := [.int (f_X5_rain now rains plain key stair air (nI na) frames rainsB).1]) hF (c_X6_rain l D cI cZ qm thrown (nI L) place (nI sp) n readStock readCells readParts na (nI tr) soonMany soonWhich kindMany kindFirst restMany restFirst text lies kind readPart page trial book keptM isKept triedAbout triedIs gains value seed hC.hn cl hC.hcl hC.hna) (gdV tm_3_210 tm_3_211 tm_3_212 tm_1_6 tm_3_213) de_X6_rain ⟨Nat.le_of_ble_eq_true rfl, Nat.le_of_ble_eq_true rfl⟩ hP hK (va_recv hK hP.rig (ci := 5) (q0 := 0) rfl MW_0) hl.1 rfl (Nat.le_of_ble_eq_true rfl) dL_law_367 ⟨Nat.le_of_ble_eq_true rfl, Nat.le_of_ble_eq_true rfl⟩ hD hS (MW_ad.trans MW_ad.symm) (fun H locs hP hD hS => ?_)
  have ho := op_rain L sp n na tr cl kd now rains plain key stair air thrown place readStock readCells readParts soonMany soonWhich kindMany kindFirst restMany restFirst text triedAbout triedIs cells kinds frames rainsB kept keptF keptR lies kind readPart page trial book keptM isKept gains value seed   hC
  refine lv_icmp_eq (tgt := 873) hx hb dL_law_370 (by decide) (fun c_370 => ?_) (fun c_370 => absurd ho.1 c_370)
  exact kk (f_X5_rain now rains plain key stair air (nI na) frames rainsB).2.1 (f_X5_rain now rains plain key stair air (nI na) frames rainsB).2.2.1 (nI L) (nI sp) (nI n) plain key stair air (f_X5_rain now rains plain key stair air (nI na) frames rainsB).2.2.2.1 (nI tr) text cells kinds (f_X5_rain now rains plain key stair air (nI na) frames rainsB).2.2.2.2.1 (f_X5_rain now rains plain key stair air (nI na) frames rainsB).2.2.2.2.2 triedAbout triedIs kept keptF keptR seed (f_X6_rain cl n na lies kind page book).2.1 (nI L) place (nI sp) (nI n) readStock readCells readParts (f_X6_rain cl n na lies kind page book).2.2.1 (nI tr) soonMany soonWhich kindMany kindFirst restMany restFirst text lies kind readPart (f_X6_rain cl n na lies kind page book).2.2.2.1 trial (f_X6_rain cl n na lies kind page book).2.2.2.2 keptM isKept triedAbout triedIs gains value seed ls H locs ho.2 hP hD hS hl
set_option maxHeartbeats 4000000 in
set_option maxRecDepth 100000 in
theorem lc_undo {p : Program} {l : Launch} {e : Env} {s : State} {m : MethodId} {below : List Frame} {meth : Method} {c : Code} {D : va_G} {cI cZ : ClassId} {qx qm : Nat → Nat} {b LL : Nat} {xs : Nat → Int32} (hLL : LL ≤ 2048) (C0 : lw_At p s m meth c b LL xs) (hK : va_K D vwCl (tyL cI cZ) s) {i : Nat} (hi : i + 3 < LL) (kk : LK p l e s m below meth c D cI cZ qx qm b i 873) : LK p l e s m below meth c D cI cZ qx qm b i 375 := by
  obtain ⟨hx, hb, hr, hml, hown, hts0, hX, hbl, hlocks, hgv⟩ := C0
  have hts : ∀ w ∈ tb, w.before #[Value.ref b] s = true := fun w h => hts0 w (tb_in w h)
  have hF : CallFix p m c code 4 s #[Value.ref b] tb RL := ⟨hx, hb, hml, hown, hts⟩
  have hown : s.vm.findClass RL = some m.cls := hown
  have hbA : ¬ (fun q : Nat => s.heap.size ≤ q) b := Nat.not_le.mpr hbl
  intro now rains length poles parts plain key stair air acnt tcnt letters cells kinds frames rainsB abouts stoods kept keptF keptR seed thrown textSize place stock partsM readStock readCells readParts acts tried soonMany soonWhich kindMany kindFirst restMany restFirst text lies kind readPart page trial book keptM isKept triedAbout triedIs gains value seedM ls H locs hI hP hD hS hl
  obtain ⟨L, sp, n, na, tr, cl, kd, rfl, rfl, rfl, rfl, rfl, rfl, rfl, rfl, rfl, rfl, rfl, rfl, rfl, rfl, hC⟩ := hI
  refine lv_aload_n hx hb dL_law_375 rfl (lv_at hl 1 rfl) ?_
  refine xWrI (b := (qx 0)) (As := []) (rest := []) hF (c_X5_undo l D cI cZ qx now rains (nI L) (nI sp) (nI n) plain key stair air (nI na) (nI tr) text cells kinds frames rainsB triedAbout triedIs kept keptF keptR seed) (gdV tm_2_73 tm_2_74 tm_2_75 tm_1_1 tm_2_76) de_X5_undo ⟨Nat.le_of_ble_eq_true rfl, Nat.le_of_ble_eq_true rfl⟩ hP hK (va_recv hK hP.lef (ci := 4) (q0 := 0) rfl XW_0) hl.1 rfl (Nat.le_of_ble_eq_true rfl) dL_law_376 ⟨Nat.le_of_ble_eq_true rfl, Nat.le_of_ble_eq_true rfl⟩ hD hS (XW_ad.trans XW_ad.symm) (fun H locs hP hD hS => ?_)
  refine lv_aload_n hx hb dL_law_379 rfl (lv_at hl 2 rfl) ?_
  refine mWrI (b := (qm 0)) (As := []) (rest := [.int (f_X5_undo now rains (nI na) frames rainsB).1]) hF (c_X6_undo l D cI cZ qm thrown (nI L) place (nI sp) (nI n) readStock readCells readParts na (nI tr) soonMany soonWhich kindMany kindFirst restMany restFirst text lies kind readPart page trial book keptM isKept triedAbout triedIs gains value seed hC.hna) (gdV tm_3_218 tm_3_219 tm_3_220 tm_1_6 tm_3_221) de_X6_undo ⟨Nat.le_of_ble_eq_true rfl, Nat.le_of_ble_eq_true rfl⟩ hP hK (va_recv hK hP.rig (ci := 5) (q0 := 0) rfl MW_0) hl.1 rfl (Nat.le_of_ble_eq_true rfl) dL_law_380 ⟨Nat.le_of_ble_eq_true rfl, Nat.le_of_ble_eq_true rfl⟩ hD hS (MW_ad.trans MW_ad.symm) (fun H locs hP hD hS => ?_)
  have ho := op_undo L sp n na tr cl kd now rains plain key stair air thrown place readStock readCells readParts soonMany soonWhich kindMany kindFirst restMany restFirst text triedAbout triedIs cells kinds frames rainsB kept keptF keptR lies kind readPart page trial book keptM isKept gains value seed   hC
  refine lv_icmp_eq (tgt := 873) hx hb dL_law_383 (by decide) (fun c_383 => ?_) (fun c_383 => absurd ho.1 c_383)
  exact kk (f_X5_undo now rains (nI na) frames rainsB).2.1 (f_X5_undo now rains (nI na) frames rainsB).2.2.1 (nI L) (nI sp) (nI n) plain key stair air (f_X5_undo now rains (nI na) frames rainsB).2.2.2 (nI tr) text cells kinds frames rainsB triedAbout triedIs kept keptF keptR seed (f_X6_undo na page book).2.1 (nI L) place (nI sp) (nI n) readStock readCells readParts (f_X6_undo na page book).2.2.1 (nI tr) soonMany soonWhich kindMany kindFirst restMany restFirst text lies kind readPart (f_X6_undo na page book).2.2.2 trial book keptM isKept triedAbout triedIs gains value seed ls H locs ho.2 hP hD hS hl
set_option maxHeartbeats 4000000 in
set_option maxRecDepth 100000 in
theorem lc_loses {p : Program} {l : Launch} {e : Env} {s : State} {m : MethodId} {below : List Frame} {meth : Method} {c : Code} {D : va_G} {cI cZ : ClassId} {qx qm : Nat → Nat} {b LL : Nat} {xs : Nat → Int32} (hLL : LL ≤ 2048) (C0 : lw_At p s m meth c b LL xs) (hK : va_K D vwCl (tyL cI cZ) s) {i : Nat} (hi : i + 3 < LL) (kk : LK p l e s m below meth c D cI cZ qx qm b i 873) : LK p l e s m below meth c D cI cZ qx qm b i 388 := by
  obtain ⟨hx, hb, hr, hml, hown, hts0, hX, hbl, hlocks, hgv⟩ := C0
  have hts : ∀ w ∈ tb, w.before #[Value.ref b] s = true := fun w h => hts0 w (tb_in w h)
  have hF : CallFix p m c code 4 s #[Value.ref b] tb RL := ⟨hx, hb, hml, hown, hts⟩
  have hown : s.vm.findClass RL = some m.cls := hown
  have hbA : ¬ (fun q : Nat => s.heap.size ≤ q) b := Nat.not_le.mpr hbl
  intro now rains length poles parts plain key stair air acnt tcnt letters cells kinds frames rainsB abouts stoods kept keptF keptR seed thrown textSize place stock partsM readStock readCells readParts acts tried soonMany soonWhich kindMany kindFirst restMany restFirst text lies kind readPart page trial book keptM isKept triedAbout triedIs gains value seedM ls H locs hI hP hD hS hl
  obtain ⟨L, sp, n, na, tr, cl, kd, rfl, rfl, rfl, rfl, rfl, rfl, rfl, rfl, rfl, rfl, rfl, rfl, rfl, rfl, hC⟩ := hI
  refine lv_aload_n hx hb dL_law_388 rfl (lv_at hl 1 rfl) ?_
  refine lv_aload_n hx hb dL_law_389 rfl (lv_at hl 0 rfl) ?_
  refine lv_iload_n hx hb dL_law_390 rfl (lv_at hl 3 rfl) ?_
  refine lv_iconst (v := (1 : Int32)) hx hb dL_law_391 (by decide) ?_
  refine lv_iadd hx hb dL_law_392 ?_
  refine lv_rw (z := nI (i + 1)) (nI_add i 1) ?_
  refine va_sld hx hb hX hbl hbA hS (vp_in_nI (show i + 1 < LL by omega) (by omega)) dL_law_393 ?_
  refine lv_rw (z := xs (i + 1)) (congrArg xs (nI_clamp (by omega))) ?_
  refine vRdI (b := (qx 0)) (As := [.int (xs (i + 1))]) (rest := []) hF (c_X5_loses l D cI cZ qx now rains (nI L) (nI sp) (nI n) plain key stair air (nI na) (nI tr) text cells kinds frames rainsB triedAbout triedIs kept keptF keptR seed (xs (i + 1))) (gdV tm_2_85 tm_2_86 tm_2_87 tm_1_1 tm_2_88) de_X5_loses ⟨Nat.le_of_ble_eq_true rfl, Nat.le_of_ble_eq_true rfl⟩ hP.lef hK (va_recv hK hP.lef (ci := 4) (q0 := 0) rfl XW_0) hl.1 rfl (Nat.le_of_ble_eq_true rfl) dL_law_394 ⟨Nat.le_of_ble_eq_true rfl, Nat.le_of_ble_eq_true rfl⟩ ?_
  refine lv_aload_n hx hb dL_law_397 rfl (lv_at hl 2 rfl) ?_
  refine lv_aload_n hx hb dL_law_398 rfl (lv_at hl 0 rfl) ?_
  refine lv_iload_n hx hb dL_law_399 rfl (lv_at hl 3 rfl) ?_
  refine lv_iconst (v := (1 : Int32)) hx hb dL_law_400 (by decide) ?_
  refine lv_iadd hx hb dL_law_401 ?_
  refine lv_rw (z := nI (i + 1)) (nI_add i 1) ?_
  refine va_sld hx hb hX hbl hbA hS (vp_in_nI (show i + 1 < LL by omega) (by omega)) dL_law_402 ?_
  refine lv_rw (z := xs (i + 1)) (congrArg xs (nI_clamp (by omega))) ?_
  refine mWrI (b := (qm 0)) (As := [.int (xs (i + 1))]) (rest := [.int (f_X5_loses now plain key stair air cells (xs (i + 1)))]) hF (c_X6_loses l D cI cZ qm thrown (nI L) place (nI sp) n readStock readCells readParts (nI na) (nI tr) soonMany soonWhich kindMany kindFirst restMany restFirst text lies kind readPart page trial book keptM isKept triedAbout triedIs gains value seed (xs (i + 1)) hC.hn cl hC.hcl) (gdV tm_3_222 tm_3_223 tm_3_224 tm_1_6 tm_3_225) de_X6_loses ⟨Nat.le_of_ble_eq_true rfl, Nat.le_of_ble_eq_true rfl⟩ hP hK (va_recv hK hP.rig (ci := 5) (q0 := 0) rfl MW_0) hl.1 rfl (Nat.le_of_ble_eq_true rfl) dL_law_403 ⟨Nat.le_of_ble_eq_true rfl, Nat.le_of_ble_eq_true rfl⟩ hD hS (MW_ad.trans MW_ad.symm) (fun H locs hP hD hS => ?_)
  have ho := op_loses L sp n na tr cl kd now rains plain key stair air thrown place readStock readCells readParts soonMany soonWhich kindMany kindFirst restMany restFirst text triedAbout triedIs cells kinds frames rainsB kept keptF keptR lies kind readPart page trial book keptM isKept gains value seed (xs (i + 1))  hC
  refine lv_icmp_eq (tgt := 873) hx hb dL_law_406 (by decide) (fun c_406 => ?_) (fun c_406 => absurd ho.1 c_406)
  exact kk now rains (nI L) (nI sp) (nI n) plain key stair air (nI na) (nI tr) text cells kinds frames rainsB triedAbout triedIs kept keptF keptR seed (f_X6_loses cl n lies kind page trial (xs (i + 1))).2.1 (nI L) place (nI sp) (nI n) readStock readCells readParts (nI na) (nI tr) soonMany soonWhich kindMany kindFirst restMany restFirst text lies kind readPart page (f_X6_loses cl n lies kind page trial (xs (i + 1))).2.2 book keptM isKept triedAbout triedIs gains value seed ls H locs ho.2 hP hD hS hl
