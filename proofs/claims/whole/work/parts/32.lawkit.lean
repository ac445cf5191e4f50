theorem va_P.lef {D : va_G} {cl : List vw_C} {w1 w2 : va_W} {H : Heap} (h : va_P D cl (w1 ++ w2) H) : va_P D cl w1 H := fun k q hk => h k q (by rw [List.getElem?_append_left (List.getElem?_eq_some_iff.mp hk).1]; exact hk)
theorem va_P.rig {D : va_G} {cl : List vw_C} {w1 w2 : va_W} {H : Heap} (h : va_P D cl (w1 ++ w2) H) : va_P D cl w2 H := fun k q hk => h (w1.length + k) q (by rw [List.getElem?_append_right (by omega), Nat.add_sub_cancel_left]; exact hk)
theorem va_D.lef {A : Nat → Prop} {w1 w2 : va_W} (h : va_D A (w1 ++ w2)) : va_D A w1 := ⟨fun i j p q hi hj => h.1 i j p q (by rw [List.getElem?_append_left (List.getElem?_eq_some_iff.mp hi).1]; exact hi) (by rw [List.getElem?_append_left (List.getElem?_eq_some_iff.mp hj).1]; exact hj), fun k q hk => h.2 k q (by rw [List.getElem?_append_left (List.getElem?_eq_some_iff.mp hk).1]; exact hk)⟩
theorem va_D.rig {A : Nat → Prop} {w1 w2 : va_W} (h : va_D A (w1 ++ w2)) : va_D A w2 := by
  have e : ∀ (k : Nat) (q : Nat × va_E), w2[k]? = some q → (w1 ++ w2)[w1.length + k]? = some q := fun k q hk => by rw [List.getElem?_append_right (by omega), Nat.add_sub_cancel_left]; exact hk
  refine ⟨fun i j p q hi hj hpq => ?_, fun k q hk => h.2 _ q (e k q hk)⟩
  have := h.1 _ _ p q (e i p hi) (e j q hj) hpq
  omega
theorem wd_apart {A : Nat → Prop} {w1 w2 : va_W} (h : va_D A (w1 ++ w2)) {k : Nat} {q : Nat × va_E} (hq : w2[k]? = some q) : ¬ inW w1 q.1 := by
  rintro ⟨k1, e, h1⟩
  have hl := (List.getElem?_eq_some_iff.mp h1).1
  have := h.1 k1 (w1.length + k) (q.1, e) q (by rw [List.getElem?_append_left hl]; exact h1) (by rw [List.getElem?_append_right (by omega), Nat.add_sub_cancel_left]; exact hq) rfl
  omega
theorem wd_apart' {A : Nat → Prop} {w1 w2 : va_W} (h : va_D A (w1 ++ w2)) {k : Nat} {q : Nat × va_E} (hq : w1[k]? = some q) : ¬ inW w2 q.1 := by
  rintro ⟨k1, e, h1⟩
  have hl := (List.getElem?_eq_some_iff.mp hq).1
  have := h.1 k (w1.length + k1) q (q.1, e) (by rw [List.getElem?_append_left hl]; exact hq) (by rw [List.getElem?_append_right (by omega), Nat.add_sub_cancel_left]; exact h1) rfl
  omega
section LAWCALL
variable {p : Program} {l : Launch} {e : Env} {R : Room} {s : State} {m : MethodId} {args : Array Value} {below : List Frame} {meth : Method} {c : Code} {H H0 : Heap} {locs : List Loc} {cells slots : Nat} {Q : State → Prop}
variable {cc0 cc : ByteArray} {own : String} {idx nL0 nL fr lc pc b : Nat} {y : MethodName} {rt : FieldType} {D : va_G} {ty : List (ClassId × FieldType)} {w w' w1 w1' w2 w2' : va_W} {As st0 rest : List Value} {ls : Array Slot} {A0 : Nat → Prop}
theorem runWr2 {g : JFrame} {v0 : Option Value} (run : va_Run p l e R s m args below meth c H locs cells slots 0 0 g rest (fun st oc t => oc = .returned v0 ∧ va_P D vwCl w' t.heap ∧ va_F (inW w) st t) (inW w)) (hD : va_D A0 w) (hS : va_S A0 H0 H locs)
    (kk : ∀ (H1 : Heap) (locs1 : List Loc), va_P D vwCl w' H1 → (∀ q : Nat, q < H.size → ¬ inW w q → H1[q]? = H[q]?) → va_S A0 H0 H1 locs1 → W p l e R s m args below meth c H1 locs1 cells slots Q { g with pc := g.pc + 3, stack := v0.toList ++ rest }) : W p l e R s m args below meth c H locs cells slots Q g := by
  intro T hT X
  obtain ⟨v, st₀, t, T', L, h0, X', hL, e1, e2, ⟨hv, hP1, hz, hk⟩, st⟩ := run T hT X
  cases hv
  rw [h0] at hz hk
  have hin : ∀ q : Nat, inW w q → A0 q := fun q ⟨k, e, h⟩ => hD.2 k (q, e) h
  obtain ⟨t2, a1, b1⟩ := kk T'.heap (locs ++ L) (by rw [e1]; exact hP1) (fun q h1 h2 => by rw [e1]; exact hk q h1 h2)
    ⟨Nat.le_trans hS.1 (by rw [e1]; exact hz), fun q h1 h2 => by rw [e1, hk q (Nat.lt_of_lt_of_le h1 hS.1) (fun z => h2 (hin q z))]; exact hS.2.1 q h1 h2, fun q hq => by
      rcases List.mem_append.mp hq with h | h
      · exact hS.2.2 q h
      · exact hin _ (hL q h)⟩ T' rfl X'
  exact ⟨t2, st t2 a1, b1⟩
theorem runL {g : JFrame} {v0 : Option Value} (run : va_Run p l e R s m args below meth c H locs cells slots 0 0 g rest (fun st oc t => oc = .returned v0 ∧ va_P D vwCl w1' t.heap ∧ va_F (inW w1) st t) (inW w1)) (hP : va_P D vwCl (w1 ++ w2) H) (hD : va_D A0 (w1 ++ w2)) (hS : va_S A0 H0 H locs) (had : w1'.map Prod.fst = w1.map Prod.fst)
    (kk : ∀ (H1 : Heap) (locs1 : List Loc), va_P D vwCl (w1' ++ w2) H1 → va_D A0 (w1' ++ w2) → va_S A0 H0 H1 locs1 → W p l e R s m args below meth c H1 locs1 cells slots Q { g with pc := g.pc + 3, stack := v0.toList ++ rest }) : W p l e R s m args below meth c H locs cells slots Q g :=
  runWr2 run hD.lef hS (fun H1 locs1 hP1 hk hS1 => kk H1 locs1 (hP1.app (hP.rig.kept (fun k q hq => hk q.1 (hP.rig k q hq).lt (wd_apart hD hq)))) (hD.same (by rw [List.map_append, List.map_append, had])) hS1)
theorem runR {g : JFrame} {v0 : Option Value} (run : va_Run p l e R s m args below meth c H locs cells slots 0 0 g rest (fun st oc t => oc = .returned v0 ∧ va_P D vwCl w2' t.heap ∧ va_F (inW w2) st t) (inW w2)) (hP : va_P D vwCl (w1 ++ w2) H) (hD : va_D A0 (w1 ++ w2)) (hS : va_S A0 H0 H locs) (had : w2'.map Prod.fst = w2.map Prod.fst)
    (kk : ∀ (H1 : Heap) (locs1 : List Loc), va_P D vwCl (w1 ++ w2') H1 → va_D A0 (w1 ++ w2') → va_S A0 H0 H1 locs1 → W p l e R s m args below meth c H1 locs1 cells slots Q { g with pc := g.pc + 3, stack := v0.toList ++ rest }) : W p l e R s m args below meth c H locs cells slots Q g :=
  runWr2 run hD.rig hS (fun H1 locs1 hP1 hk hS1 => kk H1 locs1 ((hP.lef.kept (fun k q hq => hk q.1 (hP.lef k q hq).lt (wd_apart' hD hq))).app hP1) (hD.same (by rw [List.map_append, List.map_append, had])) hS1)
theorem xWrI {r : Int32} (F : CallFix p m c cc0 nL0 s args tb own) (hM : WrI l y cc nL rt fr lc D ty w1 (.ref b :: As) r w1') (g : GoodIn tb (wsV own idx y.cls y (wsM y cc nL (some rt)))) (hd : deOK y As.length) (hR : fr + 1 ≤ R.frames ∧ 8 + (nL + 11) + lc ≤ R.locals) (hP : va_P D vwCl (w1 ++ w2) H) (hK : va_K D vwCl ty s) (hrc : recvOK s H y.cls b) (hsz : ls.size = nL0) (hst : st0 = As.reverse ++ .ref b :: rest) (hroom : (rest.map fun v => v.category).sum ≤ 8) (hdg : decode cc0 pc = .ok (.invokevirtual idx, 3)) (hc : cells ≤ R.cells ∧ slots ≤ R.slots) (hD : va_D A0 (w1 ++ w2)) (hS : va_S A0 H0 H locs) (had : w1'.map Prod.fst = w1.map Prod.fst)
    (kk : ∀ (H1 : Heap) (locs1 : List Loc), va_P D vwCl (w1' ++ w2) H1 → va_D A0 (w1' ++ w2) → va_S A0 H0 H1 locs1 → W p l e R s m args below meth c H1 locs1 cells slots Q (F0 m (pc + 3) ls (.int r :: rest))) : W p l e R s m args below meth c H locs cells slots Q (F0 m pc ls st0) :=
  runL (g := F0 m pc ls st0) (va_runV (As := As) (rest := rest) (b := b) (C := y.cls) F hM (cwV As.length F.2.2.2.2 g rfl rfl rfl ⟨rfl, hd⟩ hR) ⟨blindWr, hrc, fun U hU hW => ⟨rfl, by rw [hU]; exact hP.lef, va_K.moved hW.alike hK, hD.lef.weaken (fun _ _ _ _ => trivial)⟩⟩ rfl rfl hsz hst (lv_room hroom) hdg hc) hP hD hS had kk
theorem xWrL {r : Int64} (F : CallFix p m c cc0 nL0 s args tb own) (hM : WrL l y cc nL fr lc D ty w1 (.ref b :: As) r w1') (g : GoodIn tb (wsV own idx y.cls y (wsM y cc nL (some .long)))) (hd : deOK y As.length) (hR : fr + 1 ≤ R.frames ∧ 8 + (nL + 11) + lc ≤ R.locals) (hP : va_P D vwCl (w1 ++ w2) H) (hK : va_K D vwCl ty s) (hrc : recvOK s H y.cls b) (hsz : ls.size = nL0) (hst : st0 = As.reverse ++ .ref b :: rest) (hroom : (rest.map fun v => v.category).sum ≤ 8) (hdg : decode cc0 pc = .ok (.invokevirtual idx, 3)) (hc : cells ≤ R.cells ∧ slots ≤ R.slots) (hD : va_D A0 (w1 ++ w2)) (hS : va_S A0 H0 H locs) (had : w1'.map Prod.fst = w1.map Prod.fst)
    (kk : ∀ (H1 : Heap) (locs1 : List Loc), va_P D vwCl (w1' ++ w2) H1 → va_D A0 (w1' ++ w2) → va_S A0 H0 H1 locs1 → W p l e R s m args below meth c H1 locs1 cells slots Q (F0 m (pc + 3) ls (.long r :: rest))) : W p l e R s m args below meth c H locs cells slots Q (F0 m pc ls st0) :=
  runL (g := F0 m pc ls st0) (va_runV (As := As) (rest := rest) (b := b) (C := y.cls) F hM (cwV As.length F.2.2.2.2 g rfl rfl rfl ⟨rfl, hd⟩ hR) ⟨blindWr, hrc, fun U hU hW => ⟨rfl, by rw [hU]; exact hP.lef, va_K.moved hW.alike hK, hD.lef.weaken (fun _ _ _ _ => trivial)⟩⟩ rfl rfl hsz hst (lv_room hroom) hdg hc) hP hD hS had kk
theorem mWrI {r : Int32} (F : CallFix p m c cc0 nL0 s args tb own) (hM : WrI l y cc nL rt fr lc D ty w2 (.ref b :: As) r w2') (g : GoodIn tb (wsV own idx y.cls y (wsM y cc nL (some rt)))) (hd : deOK y As.length) (hR : fr + 1 ≤ R.frames ∧ 8 + (nL + 11) + lc ≤ R.locals) (hP : va_P D vwCl (w1 ++ w2) H) (hK : va_K D vwCl ty s) (hrc : recvOK s H y.cls b) (hsz : ls.size = nL0) (hst : st0 = As.reverse ++ .ref b :: rest) (hroom : (rest.map fun v => v.category).sum ≤ 8) (hdg : decode cc0 pc = .ok (.invokevirtual idx, 3)) (hc : cells ≤ R.cells ∧ slots ≤ R.slots) (hD : va_D A0 (w1 ++ w2)) (hS : va_S A0 H0 H locs) (had : w2'.map Prod.fst = w2.map Prod.fst)
    (kk : ∀ (H1 : Heap) (locs1 : List Loc), va_P D vwCl (w1 ++ w2') H1 → va_D A0 (w1 ++ w2') → va_S A0 H0 H1 locs1 → W p l e R s m args below meth c H1 locs1 cells slots Q (F0 m (pc + 3) ls (.int r :: rest))) : W p l e R s m args below meth c H locs cells slots Q (F0 m pc ls st0) :=
  runR (g := F0 m pc ls st0) (va_runV (As := As) (rest := rest) (b := b) (C := y.cls) F hM (cwV As.length F.2.2.2.2 g rfl rfl rfl ⟨rfl, hd⟩ hR) ⟨blindWr, hrc, fun U hU hW => ⟨rfl, by rw [hU]; exact hP.rig, va_K.moved hW.alike hK, hD.rig.weaken (fun _ _ _ _ => trivial)⟩⟩ rfl rfl hsz hst (lv_room hroom) hdg hc) hP hD hS had kk
theorem mWrL {r : Int64} (F : CallFix p m c cc0 nL0 s args tb own) (hM : WrL l y cc nL fr lc D ty w2 (.ref b :: As) r w2') (g : GoodIn tb (wsV own idx y.cls y (wsM y cc nL (some .long)))) (hd : deOK y As.length) (hR : fr + 1 ≤ R.frames ∧ 8 + (nL + 11) + lc ≤ R.locals) (hP : va_P D vwCl (w1 ++ w2) H) (hK : va_K D vwCl ty s) (hrc : recvOK s H y.cls b) (hsz : ls.size = nL0) (hst : st0 = As.reverse ++ .ref b :: rest) (hroom : (rest.map fun v => v.category).sum ≤ 8) (hdg : decode cc0 pc = .ok (.invokevirtual idx, 3)) (hc : cells ≤ R.cells ∧ slots ≤ R.slots) (hD : va_D A0 (w1 ++ w2)) (hS : va_S A0 H0 H locs) (had : w2'.map Prod.fst = w2.map Prod.fst)
    (kk : ∀ (H1 : Heap) (locs1 : List Loc), va_P D vwCl (w1 ++ w2') H1 → va_D A0 (w1 ++ w2') → va_S A0 H0 H1 locs1 → W p l e R s m args below meth c H1 locs1 cells slots Q (F0 m (pc + 3) ls (.long r :: rest))) : W p l e R s m args below meth c H locs cells slots Q (F0 m pc ls st0) :=
  runR (g := F0 m pc ls st0) (va_runV (As := As) (rest := rest) (b := b) (C := y.cls) F hM (cwV As.length F.2.2.2.2 g rfl rfl rfl ⟨rfl, hd⟩ hR) ⟨blindWr, hrc, fun U hU hW => ⟨rfl, by rw [hU]; exact hP.rig, va_K.moved hW.alike hK, hD.rig.weaken (fun _ _ _ _ => trivial)⟩⟩ rfl rfl hsz hst (lv_room hroom) hdg hc) hP hD hS had kk
end LAWCALL
