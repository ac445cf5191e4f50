/-! contracts over one table of words, and their calls -/
def wsM (y : MethodName) (cc : ByteArray) (nL : Nat) (rt : Option FieldType) : List Cond := .code y cc nL rt :: tb
theorem gdV {own C : String} {idx nL : Nat} {y : MethodName} {cc : ByteArray} {rt : Option FieldType} (h1 : Cond.methodLink own idx y ∈ tb) (h2 : Cond.instanceMethod y ∈ tb) (h3 : Cond.selects C y y ∈ tb) (h4 : Cond.initialized C ∈ tb) (h5 : Cond.code y cc nL rt ∈ tb) : GoodIn tb (wsV own idx C y (wsM y cc nL rt)) := by
  intro w hw
  have hm : w ∈ tb := by
    rcases List.mem_append.mp hw with h | h
    · simp only [List.mem_cons, List.not_mem_nil, or_false] at h
      rcases h with rfl | rfl | rfl | rfl
      · exact h1
      · exact h2
      · exact h3
      · exact h4
    · rcases List.mem_cons.mp h with rfl | h
      · exact h5
      · exact h
  exact ⟨hm, good_of_word (tb_good w hm)⟩
theorem gdS {own : String} {idx nL : Nat} {y : MethodName} {cc : ByteArray} {rt : Option FieldType} (h1 : Cond.methodLink own idx y ∈ tb) (h2 : Cond.static y ∈ tb) (h4 : Cond.initialized y.cls ∈ tb) (h5 : Cond.code y cc nL rt ∈ tb) : GoodIn tb (va_wsS own idx y (wsM y cc nL rt)) := by
  intro w hw
  have hm : w ∈ tb := by
    rcases List.mem_append.mp hw with h | h
    · simp only [List.mem_cons, List.not_mem_nil, or_false] at h
      rcases h with rfl | rfl | rfl
      · exact h1
      · exact h2
      · exact h4
    · rcases List.mem_cons.mp h with rfl | h
      · exact h5
      · exact h
  exact ⟨hm, good_of_word (tb_good w hm)⟩
theorem gdM {nL : Nat} {y : MethodName} {cc : ByteArray} {rt : Option FieldType} (h5 : Cond.code y cc nL rt ∈ tb) : GoodIn tb (wsM y cc nL rt) := by
  intro w hw
  have hm : w ∈ tb := by
    rcases List.mem_cons.mp hw with rfl | h
    · exact h5
    · exact h
  exact ⟨hm, good_of_word (tb_good w hm)⟩
def rmO (fr lc : Nat) : Room := { frames := fr, cells := 0, slots := 0, locals := lc }
def inW (w : va_W) : Nat → Prop := fun q => ∃ (k : Nat) (e : va_E), w[k]? = some (q, e)
theorem va_D.same {A : Nat → Prop} {w w' : va_W} (h : va_D A w) (e : w'.map Prod.fst = w.map Prod.fst) : va_D A w' := by
  have key : ∀ (k : Nat) (q : Nat × va_E), w'[k]? = some q → ∃ q0, w[k]? = some q0 ∧ q0.1 = q.1 := by
    intro k q hk
    have h1 : (w'.map Prod.fst)[k]? = some q.1 := by rw [List.getElem?_map, hk]; rfl
    rw [e, List.getElem?_map] at h1
    cases hw : w[k]? with
    | none => rw [hw] at h1; cases h1
    | some q0 => rw [hw] at h1; exact ⟨q0, rfl, Option.some.inj h1⟩
  refine ⟨fun i j x y hi hj hxy => ?_, fun k q hk => ?_⟩
  · obtain ⟨x0, h1, h2⟩ := key i x hi
    obtain ⟨y0, h3, h4⟩ := key j y hj
    exact h.1 i j x0 y0 h1 h3 (h2.trans (hxy.trans h4.symm))
  · obtain ⟨q0, h1, h2⟩ := key k q hk
    rw [← h2]
    exact h.2 k q0 h1
theorem va_D.inW {A : Nat → Prop} {w : va_W} (h : va_D A w) : va_D (inW w) w := ⟨h.1, fun k q hk => ⟨k, q.2, hk⟩⟩
/-- an int (or boolean) is answered, nothing is written -/
def RdI (l : Launch) (y : MethodName) (cc : ByteArray) (nL : Nat) (rt : FieldType) (fr lc : Nat) (D : va_G) (ty : List (ClassId × FieldType)) (w : va_W) (av : List Value) (r : Int32) : Prop :=
  Met l y (wsM y cc nL (some rt)) (rmO fr lc) (va_Pc av (fun U => va_P D vwCl w U.heap ∧ va_K D vwCl ty U)) (fun _ st oc t => oc = .returned (some (.int r)) ∧ t.heap = st.heap) 0 0 (fun _ => False)
def RdL (l : Launch) (y : MethodName) (cc : ByteArray) (nL : Nat) (fr lc : Nat) (D : va_G) (ty : List (ClassId × FieldType)) (w : va_W) (av : List Value) (r : Int64) : Prop :=
  Met l y (wsM y cc nL (some .long)) (rmO fr lc) (va_Pc av (fun U => va_P D vwCl w U.heap ∧ va_K D vwCl ty U)) (fun _ st oc t => oc = .returned (some (.long r)) ∧ t.heap = st.heap) 0 0 (fun _ => False)
/-- an int is answered, the world becomes w' -/
def WrI (l : Launch) (y : MethodName) (cc : ByteArray) (nL : Nat) (rt : FieldType) (fr lc : Nat) (D : va_G) (ty : List (ClassId × FieldType)) (w : va_W) (av : List Value) (r : Int32) (w' : va_W) : Prop :=
  Met l y (wsM y cc nL (some rt)) (rmO fr lc) (va_Pc av (fun U => va_P D vwCl w U.heap ∧ va_K D vwCl ty U ∧ va_D (fun _ => True) w)) (fun _ st oc t => oc = .returned (some (.int r)) ∧ va_P D vwCl w' t.heap ∧ va_F (inW w) st t) 0 0 (inW w)
def WrL (l : Launch) (y : MethodName) (cc : ByteArray) (nL : Nat) (fr lc : Nat) (D : va_G) (ty : List (ClassId × FieldType)) (w : va_W) (av : List Value) (r : Int64) (w' : va_W) : Prop :=
  Met l y (wsM y cc nL (some .long)) (rmO fr lc) (va_Pc av (fun U => va_P D vwCl w U.heap ∧ va_K D vwCl ty U ∧ va_D (fun _ => True) w)) (fun _ st oc t => oc = .returned (some (.long r)) ∧ va_P D vwCl w' t.heap ∧ va_F (inW w) st t) 0 0 (inW w)
def WrV (l : Launch) (y : MethodName) (cc : ByteArray) (nL : Nat) (fr lc : Nat) (D : va_G) (ty : List (ClassId × FieldType)) (w : va_W) (av : List Value) (w' : va_W) : Prop :=
  Met l y (wsM y cc nL none) (rmO fr lc) (va_Pc av (fun U => va_P D vwCl w U.heap ∧ va_K D vwCl ty U ∧ va_D (fun _ => True) w)) (fun _ st oc t => oc = .returned none ∧ va_P D vwCl w' t.heap ∧ va_F (inW w) st t) 0 0 (inW w)
section BASEOF
variable {l : Launch} {y : MethodName} {cc : ByteArray} {nL fr lc : Nat} {rt : FieldType} {D : va_G} {ty : List (ClassId × FieldType)} {w w' : va_W} {av : List Value}
theorem RdI.of {r : Int32} (hy : plainName y.cls = true) (hlen : (lg_sl av).length ≤ nL)
    (body : ∀ (p : Program) (e : Env) (s : State) (m : MethodId) (args : Array Value) (below : List Frame) (meth : Method) (c : Code) (Q : State → Prop), p.tables.exec = Jvm.exec → c.code = cc → c.maxLocals = nL → s.vm.findClass y.cls = some m.cls → (∀ w ∈ tb, w.before args s = true) → va_P D vwCl w s.heap → va_K D vwCl ty s →
      (∀ (pc : Nat) (ls : Array Slot), decode cc pc = .ok (.ireturn, 1) → narrow rt (.int r) = .int r → W p l e (rmO fr lc) s m args below meth c s.heap [] 0 0 Q (F0 m pc ls [.int r])) →
      ∀ ls : Array Slot, lv_has ls nL (lv_args 0 av) → W p l e (rmO fr lc) s m args below meth c s.heap [] 0 0 Q (F0 m 0 ls [])) : RdI l y cc nL rt fr lc D ty w av r := by
  refine Met.ofW (cc := cc) (maxL := nL) (ret := some rt) hy rfl ?_
  intro p e s m args below meth c s₁ B hml hv
  obtain ⟨rfl, hP, hK⟩ := hv
  have hts := atoms_spec (ws := wsM y cc nL (some rt)) B.pre
  have hl := lv_entry av (n := nL) hlen
  rw [lg_entry_eq]
  refine body p e s m _ below meth c _ B.exec B.bytes hml (findClass_of_methodNamed B.named) (fun w h => hts w (List.mem_cons_of_mem _ h)) hP hK ?_ _ hl
  intro pc ls hd hn
  exact W.zret (v := r) B.exec B.bytes B.returns hn (fun t ht hW => ⟨rfl, ht⟩) (fun q h => by cases h) hd B.notSynchronized
theorem RdL.of {r : Int64} (hy : plainName y.cls = true) (hlen : (lg_sl av).length ≤ nL)
    (body : ∀ (p : Program) (e : Env) (s : State) (m : MethodId) (args : Array Value) (below : List Frame) (meth : Method) (c : Code) (Q : State → Prop), p.tables.exec = Jvm.exec → c.code = cc → c.maxLocals = nL → s.vm.findClass y.cls = some m.cls → (∀ w ∈ tb, w.before args s = true) → va_P D vwCl w s.heap → va_K D vwCl ty s →
      (∀ (pc : Nat) (ls : Array Slot), decode cc pc = .ok (.lreturn, 1) → W p l e (rmO fr lc) s m args below meth c s.heap [] 0 0 Q (F0 m pc ls [.long r])) →
      ∀ ls : Array Slot, lv_has ls nL (lv_args 0 av) → W p l e (rmO fr lc) s m args below meth c s.heap [] 0 0 Q (F0 m 0 ls [])) : RdL l y cc nL fr lc D ty w av r := by
  refine Met.ofW (cc := cc) (maxL := nL) (ret := some .long) hy rfl ?_
  intro p e s m args below meth c s₁ B hml hv
  obtain ⟨rfl, hP, hK⟩ := hv
  have hts := atoms_spec (ws := wsM y cc nL (some .long)) B.pre
  have hl := lv_entry av (n := nL) hlen
  rw [lg_entry_eq]
  refine body p e s m _ below meth c _ B.exec B.bytes hml (findClass_of_methodNamed B.named) (fun w h => hts w (List.mem_cons_of_mem _ h)) hP hK ?_ _ hl
  intro pc ls hd
  exact W.lret (v := r) B.exec B.bytes B.returns (fun t ht hW => ⟨rfl, ht⟩) (fun q h => by cases h) hd B.notSynchronized
theorem WrI.of {r : Int32} (hy : plainName y.cls = true) (hlen : (lg_sl av).length ≤ nL)
    (body : ∀ (p : Program) (e : Env) (s : State) (m : MethodId) (args : Array Value) (below : List Frame) (meth : Method) (c : Code) (Q : State → Prop) (A : Nat → Prop), p.tables.exec = Jvm.exec → c.code = cc → c.maxLocals = nL → s.vm.findClass y.cls = some m.cls → (∀ w ∈ tb, w.before args s = true) → va_P D vwCl w s.heap → va_K D vwCl ty s → va_D A w → va_S A s.heap s.heap [] →
      (∀ (pc : Nat) (ls : Array Slot) (H : Heap) (locs : List Loc), decode cc pc = .ok (.ireturn, 1) → narrow rt (.int r) = .int r → va_P D vwCl w' H → va_S A s.heap H locs → W p l e (rmO fr lc) s m args below meth c H locs 0 0 Q (F0 m pc ls [.int r])) →
      ∀ ls : Array Slot, lv_has ls nL (lv_args 0 av) → W p l e (rmO fr lc) s m args below meth c s.heap [] 0 0 Q (F0 m 0 ls [])) : WrI l y cc nL rt fr lc D ty w av r w' := by
  refine Met.ofW (cc := cc) (maxL := nL) (ret := some rt) hy rfl ?_
  intro p e s m args below meth c s₁ B hml hv
  obtain ⟨rfl, hP, hK, hD⟩ := hv
  have hts := atoms_spec (ws := wsM y cc nL (some rt)) B.pre
  have hl := lv_entry av (n := nL) hlen
  rw [lg_entry_eq]
  refine body p e s m _ below meth c _ (inW w) B.exec B.bytes hml (findClass_of_methodNamed B.named) (fun w h => hts w (List.mem_cons_of_mem _ h)) hP hK hD.inW va_S.rf ?_ _ hl
  intro pc ls H locs hd hn hP1 hS1
  exact W.zret (v := r) B.exec B.bytes B.returns hn (fun t ht hW => ⟨rfl, by rw [ht]; exact hP1, hS1.F ht⟩) hS1.2.2 hd B.notSynchronized
theorem WrL.of {r : Int64} (hy : plainName y.cls = true) (hlen : (lg_sl av).length ≤ nL)
    (body : ∀ (p : Program) (e : Env) (s : State) (m : MethodId) (args : Array Value) (below : List Frame) (meth : Method) (c : Code) (Q : State → Prop) (A : Nat → Prop), p.tables.exec = Jvm.exec → c.code = cc → c.maxLocals = nL → s.vm.findClass y.cls = some m.cls → (∀ w ∈ tb, w.before args s = true) → va_P D vwCl w s.heap → va_K D vwCl ty s → va_D A w → va_S A s.heap s.heap [] →
      (∀ (pc : Nat) (ls : Array Slot) (H : Heap) (locs : List Loc), decode cc pc = .ok (.lreturn, 1) → va_P D vwCl w' H → va_S A s.heap H locs → W p l e (rmO fr lc) s m args below meth c H locs 0 0 Q (F0 m pc ls [.long r])) →
      ∀ ls : Array Slot, lv_has ls nL (lv_args 0 av) → W p l e (rmO fr lc) s m args below meth c s.heap [] 0 0 Q (F0 m 0 ls [])) : WrL l y cc nL fr lc D ty w av r w' := by
  refine Met.ofW (cc := cc) (maxL := nL) (ret := some .long) hy rfl ?_
  intro p e s m args below meth c s₁ B hml hv
  obtain ⟨rfl, hP, hK, hD⟩ := hv
  have hts := atoms_spec (ws := wsM y cc nL (some .long)) B.pre
  have hl := lv_entry av (n := nL) hlen
  rw [lg_entry_eq]
  refine body p e s m _ below meth c _ (inW w) B.exec B.bytes hml (findClass_of_methodNamed B.named) (fun w h => hts w (List.mem_cons_of_mem _ h)) hP hK hD.inW va_S.rf ?_ _ hl
  intro pc ls H locs hd hP1 hS1
  exact W.lret (v := r) B.exec B.bytes B.returns (fun t ht hW => ⟨rfl, by rw [ht]; exact hP1, hS1.F ht⟩) hS1.2.2 hd B.notSynchronized
theorem WrV.of (hy : plainName y.cls = true) (hlen : (lg_sl av).length ≤ nL)
    (body : ∀ (p : Program) (e : Env) (s : State) (m : MethodId) (args : Array Value) (below : List Frame) (meth : Method) (c : Code) (Q : State → Prop) (A : Nat → Prop), p.tables.exec = Jvm.exec → c.code = cc → c.maxLocals = nL → s.vm.findClass y.cls = some m.cls → (∀ w ∈ tb, w.before args s = true) → va_P D vwCl w s.heap → va_K D vwCl ty s → va_D A w → va_S A s.heap s.heap [] →
      (∀ (pc : Nat) (ls : Array Slot) (H : Heap) (locs : List Loc), decode cc pc = .ok (.return_, 1) → va_P D vwCl w' H → va_S A s.heap H locs → W p l e (rmO fr lc) s m args below meth c H locs 0 0 Q (F0 m pc ls [])) →
      ∀ ls : Array Slot, lv_has ls nL (lv_args 0 av) → W p l e (rmO fr lc) s m args below meth c s.heap [] 0 0 Q (F0 m 0 ls [])) : WrV l y cc nL fr lc D ty w av w' := by
  refine Met.ofW (cc := cc) (maxL := nL) (ret := none) hy rfl ?_
  intro p e s m args below meth c s₁ B hml hv
  obtain ⟨rfl, hP, hK, hD⟩ := hv
  have hts := atoms_spec (ws := wsM y cc nL none) B.pre
  have hl := lv_entry av (n := nL) hlen
  rw [lg_entry_eq]
  refine body p e s m _ below meth c _ (inW w) B.exec B.bytes hml (findClass_of_methodNamed B.named) (fun w h => hts w (List.mem_cons_of_mem _ h)) hP hK hD.inW va_S.rf ?_ _ hl
  intro pc ls H locs hd hP1 hS1
  exact W.vret B.exec B.bytes B.returns (fun t ht hW => ⟨rfl, by rw [ht]; exact hP1, hS1.F ht⟩) hS1.2.2 hd B.notSynchronized
end BASEOF
section BASECALL
variable {p : Program} {l : Launch} {e : Env} {R : Room} {s : State} {m : MethodId} {args : Array Value} {below : List Frame} {meth : Method} {c : Code} {H H0 : Heap} {locs : List Loc} {cells slots : Nat} {Q : State → Prop}
variable {cc0 cc : ByteArray} {own : String} {idx nL0 nL fr lc pc b : Nat} {y : MethodName} {rt : FieldType} {D : va_G} {ty : List (ClassId × FieldType)} {w w' : va_W} {As st0 rest : List Value} {ls : Array Slot} {A0 : Nat → Prop}
theorem lv_rw {x z : Int32} (h : x = z) (k : W p l e R s m args below meth c H locs cells slots Q (F0 m pc ls (.int z :: rest))) : W p l e R s m args below meth c H locs cells slots Q (F0 m pc ls (.int x :: rest)) := h ▸ k
theorem lv_rwl {x z : Int64} (h : x = z) (k : W p l e R s m args below meth c H locs cells slots Q (F0 m pc ls (.long z :: rest))) : W p l e R s m args below meth c H locs cells slots Q (F0 m pc ls (.long x :: rest)) := h ▸ k
theorem blindRd {av : List Value} : FrameBlind (va_Pc av (fun U => va_P D vwCl w U.heap ∧ va_K D vwCl ty U)) := by
  intro a U g mk q
  obtain ⟨q0, qP, qK⟩ := q
  exact ⟨q0, qP, va_K.moved (u := U) (U := U.calling g mk a) (Vm.Alike.refl U.vm) qK⟩
theorem blindWr {av : List Value} : FrameBlind (va_Pc av (fun U => va_P D vwCl w U.heap ∧ va_K D vwCl ty U ∧ va_D (fun _ => True) w)) := by
  intro a U g mk q
  obtain ⟨q0, qP, qK, qD⟩ := q
  exact ⟨q0, qP, va_K.moved (u := U) (U := U.calling g mk a) (Vm.Alike.refl U.vm) qK, qD⟩
theorem runRd {g : JFrame} {v0 : Value} (run : va_Run p l e R s m args below meth c H locs cells slots 0 0 g rest (fun st oc t => oc = .returned (some v0) ∧ t.heap = st.heap) (fun _ => False))
    (kk : W p l e R s m args below meth c H locs cells slots Q { g with pc := g.pc + 3, stack := v0 :: rest }) : W p l e R s m args below meth c H locs cells slots Q g := by
  intro T hT X
  obtain ⟨v, st₀, t, T', L, h0, X', hL, e1, e2, ⟨hv, hh⟩, st⟩ := run T hT X
  cases hv
  have hL0 : L = [] := by
    cases L with
    | nil => rfl
    | cons a L => exact (hL a List.mem_cons_self).elim
  subst hL0
  rw [List.append_nil] at X'
  obtain ⟨t2, a1, b1⟩ := kk T' (by rw [e1, hh, h0]) X'
  exact ⟨t2, st t2 a1, b1⟩
theorem runWr {g : JFrame} {v0 : Option Value} (run : va_Run p l e R s m args below meth c H locs cells slots 0 0 g rest (fun st oc t => oc = .returned v0 ∧ va_P D vwCl w' t.heap ∧ va_F (inW w) st t) (inW w)) (hD : va_D A0 w) (hS : va_S A0 H0 H locs)
    (kk : ∀ (H1 : Heap) (locs1 : List Loc), va_P D vwCl w' H1 → va_S A0 H0 H1 locs1 → W p l e R s m args below meth c H1 locs1 cells slots Q { g with pc := g.pc + 3, stack := v0.toList ++ rest }) : W p l e R s m args below meth c H locs cells slots Q g := by
  intro T hT X
  obtain ⟨v, st₀, t, T', L, h0, X', hL, e1, e2, ⟨hv, hP1, hz, hk⟩, st⟩ := run T hT X
  cases hv
  rw [h0] at hz hk
  have hin : ∀ q : Nat, inW w q → A0 q := fun q ⟨k, e, h⟩ => hD.2 k (q, e) h
  obtain ⟨t2, a1, b1⟩ := kk T'.heap (locs ++ L) (by rw [e1]; exact hP1)
    ⟨Nat.le_trans hS.1 (by rw [e1]; exact hz), fun q h1 h2 => by rw [e1, hk q (Nat.lt_of_lt_of_le h1 hS.1) (fun z => h2 (hin q z))]; exact hS.2.1 q h1 h2, fun q hq => by
      rcases List.mem_append.mp hq with h | h
      · exact hS.2.2 q h
      · exact hin _ (hL q h)⟩ T' rfl X'
  exact ⟨t2, st t2 a1, b1⟩
abbrev deOK (y : MethodName) (n : Nat) : Prop := y.cls ≠ "java/lang/invoke/MethodHandle" ∧ y.cls ≠ "java/lang/invoke/VarHandle" ∧ (parseMethodDescriptor y.desc).map (fun d => d.parameters.length) = some n
theorem sRdI {r : Int32} (F : CallFix p m c cc0 nL0 s args tb own) (hM : RdI l y cc nL rt fr lc D ty w As r) (g : GoodIn tb (va_wsS own idx y (wsM y cc nL (some rt)))) (hd : deOK y As.length) (hR : fr + 1 ≤ R.frames ∧ 8 + (nL + 11) + lc ≤ R.locals) (hP : va_P D vwCl w H) (hK : va_K D vwCl ty s) (hsz : ls.size = nL0) (hst : st0 = As.reverse ++ rest) (hroom : (rest.map fun v => v.category).sum ≤ 8) (hdg : decode cc0 pc = .ok (.invokestatic idx, 3)) (hc : cells ≤ R.cells ∧ slots ≤ R.slots)
    (kk : W p l e R s m args below meth c H locs cells slots Q (F0 m (pc + 3) ls (.int r :: rest))) : W p l e R s m args below meth c H locs cells slots Q (F0 m pc ls st0) :=
  runRd (g := F0 m pc ls st0) (va_runS (As := As) (rest := rest) F hM (va_cwS As.length F.2.2.2.2 g rfl rfl rfl hd hR) ⟨blindRd, fun U hU hW => ⟨rfl, by rw [hU]; exact hP, va_K.moved hW.alike hK⟩⟩ rfl rfl hsz hst (lv_room hroom) hdg hc) kk
theorem sRdL {r : Int64} (F : CallFix p m c cc0 nL0 s args tb own) (hM : RdL l y cc nL fr lc D ty w As r) (g : GoodIn tb (va_wsS own idx y (wsM y cc nL (some .long)))) (hd : deOK y As.length) (hR : fr + 1 ≤ R.frames ∧ 8 + (nL + 11) + lc ≤ R.locals) (hP : va_P D vwCl w H) (hK : va_K D vwCl ty s) (hsz : ls.size = nL0) (hst : st0 = As.reverse ++ rest) (hroom : (rest.map fun v => v.category).sum ≤ 8) (hdg : decode cc0 pc = .ok (.invokestatic idx, 3)) (hc : cells ≤ R.cells ∧ slots ≤ R.slots)
    (kk : W p l e R s m args below meth c H locs cells slots Q (F0 m (pc + 3) ls (.long r :: rest))) : W p l e R s m args below meth c H locs cells slots Q (F0 m pc ls st0) :=
  runRd (g := F0 m pc ls st0) (va_runS (As := As) (rest := rest) F hM (va_cwS As.length F.2.2.2.2 g rfl rfl rfl hd hR) ⟨blindRd, fun U hU hW => ⟨rfl, by rw [hU]; exact hP, va_K.moved hW.alike hK⟩⟩ rfl rfl hsz hst (lv_room hroom) hdg hc) kk
abbrev recvOK (s : State) (H : Heap) (C : String) (b : Addr) : Prop := ∃ cellB : Cell, H[b]? = some cellB ∧ cellB.vm.isStatics = false ∧ s.vm.findClass C = some cellB.cls
theorem vRdI {r : Int32} (F : CallFix p m c cc0 nL0 s args tb own) (hM : RdI l y cc nL rt fr lc D ty w (.ref b :: As) r) (g : GoodIn tb (wsV own idx y.cls y (wsM y cc nL (some rt)))) (hd : deOK y As.length) (hR : fr + 1 ≤ R.frames ∧ 8 + (nL + 11) + lc ≤ R.locals) (hP : va_P D vwCl w H) (hK : va_K D vwCl ty s) (hrc : recvOK s H y.cls b) (hsz : ls.size = nL0) (hst : st0 = As.reverse ++ .ref b :: rest) (hroom : (rest.map fun v => v.category).sum ≤ 8) (hdg : decode cc0 pc = .ok (.invokevirtual idx, 3)) (hc : cells ≤ R.cells ∧ slots ≤ R.slots)
    (kk : W p l e R s m args below meth c H locs cells slots Q (F0 m (pc + 3) ls (.int r :: rest))) : W p l e R s m args below meth c H locs cells slots Q (F0 m pc ls st0) :=
  runRd (g := F0 m pc ls st0) (va_runV (As := As) (rest := rest) (b := b) (C := y.cls) F hM (cwV As.length F.2.2.2.2 g rfl rfl rfl ⟨rfl, hd⟩ hR) ⟨blindRd, hrc, fun U hU hW => ⟨rfl, by rw [hU]; exact hP, va_K.moved hW.alike hK⟩⟩ rfl rfl hsz hst (lv_room hroom) hdg hc) kk
theorem vWrI {r : Int32} (F : CallFix p m c cc0 nL0 s args tb own) (hM : WrI l y cc nL rt fr lc D ty w (.ref b :: As) r w') (g : GoodIn tb (wsV own idx y.cls y (wsM y cc nL (some rt)))) (hd : deOK y As.length) (hR : fr + 1 ≤ R.frames ∧ 8 + (nL + 11) + lc ≤ R.locals) (hP : va_P D vwCl w H) (hK : va_K D vwCl ty s) (hrc : recvOK s H y.cls b) (hsz : ls.size = nL0) (hst : st0 = As.reverse ++ .ref b :: rest) (hroom : (rest.map fun v => v.category).sum ≤ 8) (hdg : decode cc0 pc = .ok (.invokevirtual idx, 3)) (hc : cells ≤ R.cells ∧ slots ≤ R.slots) (hD : va_D A0 w) (hS : va_S A0 H0 H locs)
    (kk : ∀ (H1 : Heap) (locs1 : List Loc), va_P D vwCl w' H1 → va_S A0 H0 H1 locs1 → W p l e R s m args below meth c H1 locs1 cells slots Q (F0 m (pc + 3) ls (.int r :: rest))) : W p l e R s m args below meth c H locs cells slots Q (F0 m pc ls st0) :=
  runWr (g := F0 m pc ls st0) (va_runV (As := As) (rest := rest) (b := b) (C := y.cls) F hM (cwV As.length F.2.2.2.2 g rfl rfl rfl ⟨rfl, hd⟩ hR) ⟨blindWr, hrc, fun U hU hW => ⟨rfl, by rw [hU]; exact hP, va_K.moved hW.alike hK, hD.weaken (fun _ _ _ _ => trivial)⟩⟩ rfl rfl hsz hst (lv_room hroom) hdg hc) hD hS kk
theorem vWrL {r : Int64} (F : CallFix p m c cc0 nL0 s args tb own) (hM : WrL l y cc nL fr lc D ty w (.ref b :: As) r w') (g : GoodIn tb (wsV own idx y.cls y (wsM y cc nL (some .long)))) (hd : deOK y As.length) (hR : fr + 1 ≤ R.frames ∧ 8 + (nL + 11) + lc ≤ R.locals) (hP : va_P D vwCl w H) (hK : va_K D vwCl ty s) (hrc : recvOK s H y.cls b) (hsz : ls.size = nL0) (hst : st0 = As.reverse ++ .ref b :: rest) (hroom : (rest.map fun v => v.category).sum ≤ 8) (hdg : decode cc0 pc = .ok (.invokevirtual idx, 3)) (hc : cells ≤ R.cells ∧ slots ≤ R.slots) (hD : va_D A0 w) (hS : va_S A0 H0 H locs)
    (kk : ∀ (H1 : Heap) (locs1 : List Loc), va_P D vwCl w' H1 → va_S A0 H0 H1 locs1 → W p l e R s m args below meth c H1 locs1 cells slots Q (F0 m (pc + 3) ls (.long r :: rest))) : W p l e R s m args below meth c H locs cells slots Q (F0 m pc ls st0) :=
  runWr (g := F0 m pc ls st0) (va_runV (As := As) (rest := rest) (b := b) (C := y.cls) F hM (cwV As.length F.2.2.2.2 g rfl rfl rfl ⟨rfl, hd⟩ hR) ⟨blindWr, hrc, fun U hU hW => ⟨rfl, by rw [hU]; exact hP, va_K.moved hW.alike hK, hD.weaken (fun _ _ _ _ => trivial)⟩⟩ rfl rfl hsz hst (lv_room hroom) hdg hc) hD hS kk
theorem vWrV (F : CallFix p m c cc0 nL0 s args tb own) (hM : WrV l y cc nL fr lc D ty w (.ref b :: As) w') (g : GoodIn tb (wsV own idx y.cls y (wsM y cc nL none))) (hd : deOK y As.length) (hR : fr + 1 ≤ R.frames ∧ 8 + (nL + 11) + lc ≤ R.locals) (hP : va_P D vwCl w H) (hK : va_K D vwCl ty s) (hrc : recvOK s H y.cls b) (hsz : ls.size = nL0) (hst : st0 = As.reverse ++ .ref b :: rest) (hroom : (rest.map fun v => v.category).sum ≤ 8) (hdg : decode cc0 pc = .ok (.invokevirtual idx, 3)) (hc : cells ≤ R.cells ∧ slots ≤ R.slots) (hD : va_D A0 w) (hS : va_S A0 H0 H locs)
    (kk : ∀ (H1 : Heap) (locs1 : List Loc), va_P D vwCl w' H1 → va_S A0 H0 H1 locs1 → W p l e R s m args below meth c H1 locs1 cells slots Q (F0 m (pc + 3) ls rest)) : W p l e R s m args below meth c H locs cells slots Q (F0 m pc ls st0) :=
  runWr (g := F0 m pc ls st0) (va_runV (As := As) (rest := rest) (b := b) (C := y.cls) F hM (cwV As.length F.2.2.2.2 g rfl rfl rfl ⟨rfl, hd⟩ hR) ⟨blindWr, hrc, fun U hU hW => ⟨rfl, by rw [hU]; exact hP, va_K.moved hW.alike hK, hD.weaken (fun _ _ _ _ => trivial)⟩⟩ rfl rfl hsz hst (lv_room hroom) hdg hc) hD hS kk
end BASECALL
