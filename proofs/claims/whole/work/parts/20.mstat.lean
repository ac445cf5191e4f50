theorem de_X6_in : deOK yX6_in 3 := by decide +kernel
theorem de_X6_has : deOK yX6_has 2 := by decide +kernel
theorem de_X6_many : deOK yX6_many 1 := by decide +kernel
theorem de_X6_power : deOK yX6_power 2 := by decide +kernel
theorem de_X6_longPower : deOK yX6_longPower 2 := by decide +kernel
theorem de_X6_noColumn : deOK yX6_noColumn 1 := by decide +kernel
theorem de_X6_ways : deOK yX6_ways 1 := by decide +kernel
theorem de_X6_divisor : deOK yX6_divisor 2 := by decide +kernel
theorem de_X6_fraction : deOK yX6_fraction 3 := by decide +kernel
theorem de_X6_standsBy : deOK yX6_standsBy 6 := by decide +kernel
def f_X6_in (a1 : Int64) (a2 : Int64) (a3 : Int64) : Int32 := (if (lg_cmp a1 a2) < (0 : Int32) then (0 : Int32) else (if (0 : Int32) < (lg_cmp a1 a3) then (0 : Int32) else (1 : Int32)))
set_option maxHeartbeats 4000000 in
set_option maxRecDepth 100000 in
theorem c_X6_in (l : Launch) (D : va_G) (cI cZ : ClassId) (q : Nat → Nat) (a1 : Int64) (a2 : Int64) (a3 : Int64) : RdI l yX6_in cX6_in 6 .boolean 0 0 D (tyL cI cZ) [] [.long a1, .long a2, .long a3] (f_X6_in a1 a2 a3) := by
  refine RdI.of (by decide) (Nat.le_of_ble_eq_true rfl) ?_
  intro p e s m args below meth c Q hx hb hml hown hts hP hK fin ls hl
  have hown : s.vm.findClass RX6 = some m.cls := hown
  have hF : CallFix p m c cX6_in 6 s args tb RX6 := ⟨hx, hb, hml, hown, hts⟩
  have hl : lv_has ls 6 [(0, .long a1), (2, .long a2), (4, .long a3)] := hl
  generalize hR : (f_X6_in a1 a2 a3) = R at fin
  unfold f_X6_in at hR
  refine lv_lload_n hx hb dX6_in_0 rfl (lv_at hl 0 rfl) ?_
  refine lv_lload_n hx hb dX6_in_1 rfl (lv_at hl 1 rfl) ?_
  refine W.lcmp hx hb dX6_in_2 ?_
  refine lv_if_lt (tgt := 17) hx hb dX6_in_3 (by decide) (fun c_3 => ?_) (fun c_3 => ?_)
  · rw [if_pos c_3] at hR
    refine lv_iconst (v := (0 : Int32)) hx hb dX6_in_17 (by decide) ?_
    subst hR
    exact fin _ _ dX6_in_18 (nar_b (Or.inl rfl))
  · rw [if_neg c_3] at hR
    refine lv_lload_n hx hb dX6_in_6 rfl (lv_at hl 0 rfl) ?_
    refine lv_lload hx hb dX6_in_7 (lv_at hl 2 rfl) ?_
    refine W.lcmp hx hb dX6_in_9 ?_
    refine lv_if_gt (tgt := 17) hx hb dX6_in_10 (by decide) (fun c_10 => ?_) (fun c_10 => ?_)
    · rw [if_pos c_10] at hR
      refine lv_iconst (v := (0 : Int32)) hx hb dX6_in_17 (by decide) ?_
      subst hR
      exact fin _ _ dX6_in_18 (nar_b (Or.inl rfl))
    · rw [if_neg c_10] at hR
      refine lv_iconst (v := (1 : Int32)) hx hb dX6_in_13 (by decide) ?_
      refine lv_goto (tgt := 18) hx hb dX6_in_14 (by decide) ?_
      subst hR
      exact fin _ _ dX6_in_18 (nar_b (Or.inr rfl))
theorem in_ok (x a b : Int64) : f_X6_in x a b = if a.toInt ≤ x.toInt ∧ x.toInt ≤ b.toInt then 1 else 0 := by
  unfold f_X6_in
  by_cases h1 : lg_cmp x a < 0
  · rw [if_pos h1, if_neg (fun h => by have := lgc_lt.mp h1; omega)]
  · rw [if_neg h1]
    have h1' : ¬ x.toInt < a.toInt := fun h => h1 (lgc_lt.mpr h)
    by_cases h2 : 0 < lg_cmp x b
    · rw [if_pos h2, if_neg (fun h => by have := lgc_gt.mp h2; omega)]
    · have h2' : ¬ b.toInt < x.toInt := fun h => h2 (lgc_gt.mpr h)
      rw [if_neg h2, if_pos ⟨by omega, by omega⟩]
theorem in_of {x a b : Int64} (h : ¬ f_X6_in x a b = 0) : a.toInt ≤ x.toInt ∧ x.toInt ≤ b.toInt := by
  rw [in_ok] at h
  by_cases h1 : a.toInt ≤ x.toInt ∧ x.toInt ≤ b.toInt
  · exact h1
  · rw [if_neg h1] at h; exact absurd rfl h
theorem in_no {x a b : Int64} (h : f_X6_in x a b = 0) : ¬ (a.toInt ≤ x.toInt ∧ x.toInt ≤ b.toInt) := by
  intro h1
  rw [in_ok, if_pos h1] at h
  exact absurd h (by decide)
theorem in_nI {x : Int32} {a b : Int64} (h : ¬ f_X6_in x.toInt64 a b = 0) (ha : 0 ≤ a.toInt) : x = nI x.toNatClampNeg := by
  have h1 := in_of h
  rw [Int32.toInt_toInt64] at h1
  exact nI_self (fun h2 => by
    rw [Int32.lt_iff_toInt_lt] at h2
    have e : (0 : Int32).toInt = 0 := by decide
    omega)
theorem in_le {x : Int32} {a b : Int64} {n : Nat} (h : ¬ f_X6_in x.toInt64 a b = 0) (hb : b.toInt = (n : Int)) : x.toNatClampNeg ≤ n := by
  have h1 := in_of h
  rw [Int32.toInt_toInt64] at h1
  have : x.toNatClampNeg = x.toInt.toNat := rfl
  omega
theorem in_ge {x : Int32} {a b : Int64} {n : Nat} (h : ¬ f_X6_in x.toInt64 a b = 0) (hb : a.toInt = (n : Int)) : n ≤ x.toNatClampNeg := by
  have h1 := in_of h
  rw [Int32.toInt_toInt64] at h1
  have : x.toNatClampNeg = x.toInt.toNat := rfl
  omega
def f_X6_has (a1 : Int32) (a2 : Int32) : Int32 := (if ((shr a1 a2) &&& (1 : Int32)) = (1 : Int32) then (1 : Int32) else (0 : Int32))
set_option maxHeartbeats 4000000 in
set_option maxRecDepth 100000 in
theorem c_X6_has (l : Launch) (D : va_G) (cI cZ : ClassId) (q : Nat → Nat) (a1 : Int32) (a2 : Int32) : RdI l yX6_has cX6_has 2 .boolean 0 0 D (tyL cI cZ) [] [.int a1, .int a2] (f_X6_has a1 a2) := by
  refine RdI.of (by decide) (Nat.le_of_ble_eq_true rfl) ?_
  intro p e s m args below meth c Q hx hb hml hown hts hP hK fin ls hl
  have hown : s.vm.findClass RX6 = some m.cls := hown
  have hF : CallFix p m c cX6_has 2 s args tb RX6 := ⟨hx, hb, hml, hown, hts⟩
  have hl : lv_has ls 2 [(0, .int a1), (1, .int a2)] := hl
  generalize hR : (f_X6_has a1 a2) = R at fin
  unfold f_X6_has at hR
  refine lv_iload_n hx hb dX6_has_0 rfl (lv_at hl 0 rfl) ?_
  refine lv_iload_n hx hb dX6_has_1 rfl (lv_at hl 1 rfl) ?_
  refine lv_ishr hx hb dX6_has_2 ?_
  refine lv_rw (z := (shr a1 a2)) rfl ?_
  refine lv_iconst (v := (1 : Int32)) hx hb dX6_has_3 (by decide) ?_
  refine lv_iand hx hb dX6_has_4 ?_
  refine lv_iconst (v := (1 : Int32)) hx hb dX6_has_5 (by decide) ?_
  refine lv_icmp_ne (tgt := 13) hx hb dX6_has_6 (by decide) (fun c_6 => ?_) (fun c_6 => ?_)
  · rw [if_neg c_6] at hR
    refine lv_iconst (v := (0 : Int32)) hx hb dX6_has_13 (by decide) ?_
    subst hR
    exact fin _ _ dX6_has_14 (nar_b (Or.inl rfl))
  · rw [if_pos c_6] at hR
    refine lv_iconst (v := (1 : Int32)) hx hb dX6_has_9 (by decide) ?_
    refine lv_goto (tgt := 14) hx hb dX6_has_10 (by decide) ?_
    subst hR
    exact fin _ _ dX6_has_14 (nar_b (Or.inr rfl))
theorem has01 (a b : Int32) : f_X6_has a b = 0 ∨ f_X6_has a b = 1 := by
  unfold f_X6_has
  by_cases h : shr a b &&& 1 = 1
  · rw [if_pos h]; exact Or.inr rfl
  · rw [if_neg h]; exact Or.inl rfl
def f_X6_many_l4 (a1 : Int32) : Nat → Nat → (Int32) → Int32
  | 0, i_4, n4 => n4
  | d_4 + 1, i_4, n4 => (f_X6_many_l4 a1 d_4 (i_4 + 1) (n4 + ((shr a1 (nI i_4)) &&& (1 : Int32))))
theorem f_X6_many_l4_z {a1 : Int32} {i_4 : Nat} {n4 : Int32} : f_X6_many_l4 a1 0 i_4 n4 = n4 := by rw [f_X6_many_l4]
theorem f_X6_many_l4_s {a1 : Int32} {d_4 : Nat} {i_4 : Nat} {n4 : Int32} : f_X6_many_l4 a1 (d_4 + 1) i_4 n4 = (f_X6_many_l4 a1 d_4 (i_4 + 1) (n4 + ((shr a1 (nI i_4)) &&& (1 : Int32)))) := by rw [f_X6_many_l4]
def f_X6_many (a1 : Int32) : Int32 := (f_X6_many_l4 a1 7 0 (0 : Int32))
set_option maxHeartbeats 4000000 in
set_option maxRecDepth 100000 in
theorem c_X6_many (l : Launch) (D : va_G) (cI cZ : ClassId) (q : Nat → Nat) (a1 : Int32) : RdI l yX6_many cX6_many 3 .int 0 0 D (tyL cI cZ) [] [.int a1] (f_X6_many a1) := by
  refine RdI.of (by decide) (Nat.le_of_ble_eq_true rfl) ?_
  intro p e s m args below meth c Q hx hb hml hown hts hP hK fin ls hl
  have hown : s.vm.findClass RX6 = some m.cls := hown
  have hF : CallFix p m c cX6_many 3 s args tb RX6 := ⟨hx, hb, hml, hown, hts⟩
  have hl : lv_has ls 3 [(0, .int a1)] := hl
  generalize hR : (f_X6_many a1) = R at fin
  unfold f_X6_many at hR
  refine lv_iconst (v := (0 : Int32)) hx hb dX6_many_0 (by decide) ?_
  refine lv_istore_n (lv' := [(1, .int (0 : Int32)), (0, .int a1)]) hx hb dX6_many_1 rfl hl (by decide) rfl (fun ls hl => ?_)
  refine lv_iconst (v := (0 : Int32)) hx hb dX6_many_2 (by decide) ?_
  refine lv_istore_n (lv' := [(2, .int (0 : Int32)), (1, .int (0 : Int32)), (0, .int a1)]) hx hb dX6_many_3 rfl hl (by decide) rfl (fun ls hl => ?_)
  obtain ⟨T_4, hT_4⟩ : ∃ z, f_X6_many_l4 a1 7 0 (0 : Int32) = z := ⟨_, rfl⟩
  rw [hT_4] at hR
  have key_4 : ∀ (d_4 i_4 : Nat) (n4 : Int32) (ls : Array Slot), i_4 + d_4 = 7 → f_X6_many_l4 a1 d_4 i_4 n4 = T_4 → lv_has ls 3 [(2, .int (nI i_4)), (1, .int n4), (0, .int a1)] → W p l e (rmO 0 0) s m args below meth c s.heap [] 0 0 Q (F0 m 4 ls []) := by
    intro d_4
    induction d_4 with
    | zero =>
      intro i_4 n4 ls hi_4 hT_4 hl
      rw [f_X6_many_l4_z] at hT_4
      refine lv_iload_n hx hb dX6_many_4 rfl (lv_at hl 0 rfl) ?_
      refine lv_bipush (v := (7 : Int32)) hx hb dX6_many_5 (by decide) ?_
      refine lv_icmp_ge (tgt := 24) hx hb dX6_many_7 (by decide) (fun c_7 => ?_) (fun c_7 => absurd (nI_le (a := 7) (by omega) (by omega)) c_7)
      subst hT_4
      try dsimp only at hR
      refine lv_iload_n hx hb dX6_many_24 rfl (lv_at hl 1 rfl) ?_
      subst hR
      exact fin _ _ dX6_many_25 (nar_i _)
    | succ d_4 ih_4 =>
      intro i_4 n4 ls hi_4 hT_4 hl
      rw [f_X6_many_l4_s] at hT_4
      refine lv_iload_n hx hb dX6_many_4 rfl (lv_at hl 0 rfl) ?_
      refine lv_bipush (v := (7 : Int32)) hx hb dX6_many_5 (by decide) ?_
      refine lv_icmp_ge (tgt := 24) hx hb dX6_many_7 (by decide) (fun c_7 => absurd c_7 (nI_ge (b := 7) (by omega) (by omega))) (fun c_7 => ?_)
      refine lv_iload_n hx hb dX6_many_10 rfl (lv_at hl 1 rfl) ?_
      refine lv_iload_n hx hb dX6_many_11 rfl (lv_at hl 2 rfl) ?_
      refine lv_iload_n hx hb dX6_many_12 rfl (lv_at hl 0 rfl) ?_
      refine lv_ishr hx hb dX6_many_13 ?_
      refine lv_rw (z := (shr a1 (nI i_4))) rfl ?_
      refine lv_iconst (v := (1 : Int32)) hx hb dX6_many_14 (by decide) ?_
      refine lv_iand hx hb dX6_many_15 ?_
      refine lv_iadd hx hb dX6_many_16 ?_
      refine lv_istore_n (lv' := [(1, .int (n4 + ((shr a1 (nI i_4)) &&& (1 : Int32)))), (2, .int (nI i_4)), (0, .int a1)]) hx hb dX6_many_17 rfl hl (by decide) rfl (fun ls hl => ?_)
      refine lv_iinc (v := (nI (i_4 + 1))) (lv' := [(2, .int (nI (i_4 + 1))), (1, .int (n4 + ((shr a1 (nI i_4)) &&& (1 : Int32)))), (0, .int a1)]) hx hb dX6_many_18 hl (k := 1) rfl (nI_up i_4) (by decide) rfl (fun ls hl => ?_)
      refine lv_goto (tgt := 4) hx hb dX6_many_21 (by decide) ?_
      exact ih_4 (i_4 + 1) (n4 + ((shr a1 (nI i_4)) &&& (1 : Int32))) ls (by omega) hT_4 (lv_sub hl [0, 1, 2] rfl)
  exact key_4 7 0 (0 : Int32) ls (by omega) hT_4 (lv_sub hl [0, 1, 2] rfl)
theorem many_b : ∀ (d i : Nat) (set n : Int32) (k : Nat), n = nI k → ∃ j, j ≤ k + d ∧ f_X6_many_l4 set d i n = nI j := by
  intro d
  induction d with
  | zero =>
    intro i set n k hn
    exact ⟨k, by omega, by rw [f_X6_many_l4_z]; exact hn⟩
  | succ d ih =>
    intro i set n k hn
    rw [f_X6_many_l4_s]
    obtain ⟨j, hj, e⟩ := pk_andE (shr set (nI i)) (m := 1) 1 (by decide)
    obtain ⟨j2, h2, e2⟩ := ih (i + 1) set (n + (shr set (nI i) &&& 1)) (k + j) (by rw [hn, e, nI_add])
    exact ⟨j2, by omega, e2⟩
theorem many_le (x : Int32) : ∃ j, j ≤ 7 ∧ f_X6_many x = nI j := by
  unfold f_X6_many
  obtain ⟨j, h, e⟩ := many_b 7 0 x 0 0 rfl
  exact ⟨j, by omega, e⟩
theorem many_lt (x : Int32) : (f_X6_many x).toInt < 72 := by
  obtain ⟨j, h, e⟩ := many_le x
  rw [e, nI_toInt (by omega)]; omega
theorem many_sub {n : Nat} (hn7 : n ≤ 7) (x : Int32) : (nI n - 1 - f_X6_many x).toInt < 72 := by
  obtain ⟨j, h, e⟩ := many_le x
  rw [e]
  have e1 : (1 : Int32).toInt = 1 := by decide
  have h3 : (nI n).toInt = n := nI_toInt (by omega)
  have h4 : (nI n - 1).toInt = n - 1 := by rw [i_sub (by omega) (by omega)]; omega
  have h5 : (nI j).toInt = j := nI_toInt (by omega)
  rw [i_sub (by omega) (by omega)]; omega
theorem many_sub2 (x y : Int32) : (f_X6_many x - f_X6_many y).toInt < 72 := by
  obtain ⟨j, h, e⟩ := many_le x
  obtain ⟨k, h2, e2⟩ := many_le y
  rw [e, e2]
  have h4 : (nI j).toInt = j := nI_toInt (by omega)
  have h5 : (nI k).toInt = k := nI_toInt (by omega)
  rw [i_sub (by omega) (by omega)]; omega
def f_X6_power_l4 (a1 : Int32) (a2 : Int32) : Nat → Nat → (Int32) → Int32
  | 0, i_4, v4 => v4
  | d_4 + 1, i_4, v4 => (if a2 ≤ (nI i_4) then v4 else (f_X6_power_l4 a1 a2 d_4 (i_4 + 1) (v4 * a1)))
theorem f_X6_power_l4_z {a1 : Int32} {a2 : Int32} {i_4 : Nat} {v4 : Int32} : f_X6_power_l4 a1 a2 0 i_4 v4 = v4 := by rw [f_X6_power_l4]
theorem f_X6_power_l4_s {a1 : Int32} {a2 : Int32} {d_4 : Nat} {i_4 : Nat} {v4 : Int32} : f_X6_power_l4 a1 a2 (d_4 + 1) i_4 v4 = (if a2 ≤ (nI i_4) then v4 else (f_X6_power_l4 a1 a2 d_4 (i_4 + 1) (v4 * a1))) := by rw [f_X6_power_l4]
def f_X6_power (a1 : Int32) (a2 : Int32) : Int32 := (f_X6_power_l4 a1 a2 72 0 (1 : Int32))
set_option maxHeartbeats 4000000 in
set_option maxRecDepth 100000 in
theorem c_X6_power (l : Launch) (D : va_G) (cI cZ : ClassId) (q : Nat → Nat) (a1 : Int32) (a2 : Int32) (ha : a2.toInt < 72) : RdI l yX6_power cX6_power 4 .int 0 0 D (tyL cI cZ) [] [.int a1, .int a2] (f_X6_power a1 a2) := by
  refine RdI.of (by decide) (Nat.le_of_ble_eq_true rfl) ?_
  intro p e s m args below meth c Q hx hb hml hown hts hP hK fin ls hl
  have hown : s.vm.findClass RX6 = some m.cls := hown
  have hF : CallFix p m c cX6_power 4 s args tb RX6 := ⟨hx, hb, hml, hown, hts⟩
  have hl : lv_has ls 4 [(0, .int a1), (1, .int a2)] := hl
  generalize hR : (f_X6_power a1 a2) = R at fin
  unfold f_X6_power at hR
  refine lv_iconst (v := (1 : Int32)) hx hb dX6_power_0 (by decide) ?_
  refine lv_istore_n (lv' := [(2, .int (1 : Int32)), (0, .int a1), (1, .int a2)]) hx hb dX6_power_1 rfl hl (by decide) rfl (fun ls hl => ?_)
  refine lv_iconst (v := (0 : Int32)) hx hb dX6_power_2 (by decide) ?_
  refine lv_istore_n (lv' := [(3, .int (0 : Int32)), (2, .int (1 : Int32)), (0, .int a1), (1, .int a2)]) hx hb dX6_power_3 rfl hl (by decide) rfl (fun ls hl => ?_)
  have key_4 : ∀ (d_4 i_4 : Nat) (v4 : Int32) (ls : Array Slot), i_4 + d_4 = 72 → a2.toInt ≤ ((i_4 + d_4 : Nat) : Int) → f_X6_power_l4 a1 a2 d_4 i_4 v4 = R → lv_has ls 4 [(3, .int (nI i_4)), (2, .int v4), (0, .int a1), (1, .int a2)] → W p l e (rmO 0 0) s m args below meth c s.heap [] 0 0 Q (F0 m 4 ls []) := by
    intro d_4
    induction d_4 with
    | zero =>
      intro i_4 v4 ls hi_4 hf_4 hR hl
      rw [f_X6_power_l4_z] at hR
      refine lv_iload_n hx hb dX6_power_4 rfl (lv_at hl 0 rfl) ?_
      refine lv_iload_n hx hb dX6_power_5 rfl (lv_at hl 3 rfl) ?_
      refine lv_icmp_ge (tgt := 19) hx hb dX6_power_6 (by decide) (fun c_6 => ?_) (fun c_6 => absurd (le_nI (by omega) (by omega)) c_6)
      refine lv_iload_n hx hb dX6_power_19 rfl (lv_at hl 1 rfl) ?_
      subst hR
      exact fin _ _ dX6_power_20 (nar_i _)
    | succ d_4 ih_4 =>
      intro i_4 v4 ls hi_4 hf_4 hR hl
      rw [f_X6_power_l4_s] at hR
      refine lv_iload_n hx hb dX6_power_4 rfl (lv_at hl 0 rfl) ?_
      refine lv_iload_n hx hb dX6_power_5 rfl (lv_at hl 3 rfl) ?_
      refine lv_icmp_ge (tgt := 19) hx hb dX6_power_6 (by decide) (fun c_6 => ?_) (fun c_6 => ?_)
      · rw [if_pos c_6] at hR
        refine lv_iload_n hx hb dX6_power_19 rfl (lv_at hl 1 rfl) ?_
        subst hR
        exact fin _ _ dX6_power_20 (nar_i _)
      · rw [if_neg c_6] at hR
        refine lv_iload_n hx hb dX6_power_9 rfl (lv_at hl 1 rfl) ?_
        refine lv_iload_n hx hb dX6_power_10 rfl (lv_at hl 2 rfl) ?_
        refine lv_imul hx hb dX6_power_11 ?_
        refine lv_istore_n (lv' := [(2, .int (v4 * a1)), (3, .int (nI i_4)), (0, .int a1), (1, .int a2)]) hx hb dX6_power_12 rfl hl (by decide) rfl (fun ls hl => ?_)
        refine lv_iinc (v := (nI (i_4 + 1))) (lv' := [(3, .int (nI (i_4 + 1))), (2, .int (v4 * a1)), (0, .int a1), (1, .int a2)]) hx hb dX6_power_13 hl (k := 1) rfl (nI_up i_4) (by decide) rfl (fun ls hl => ?_)
        refine lv_goto (tgt := 4) hx hb dX6_power_16 (by decide) ?_
        exact ih_4 (i_4 + 1) (v4 * a1) ls (by omega) (by omega) hR (lv_sub hl [0, 1, 2, 3] rfl)
  exact key_4 72 0 (1 : Int32) ls (by omega) (by omega) hR (lv_sub hl [0, 1, 2, 3] rfl)
theorem power8 : ∀ k, k ≤ 4 → f_X6_power 8 (nI k) = nI (8 ^ k) := by decide +kernel
theorem ne8 : ∀ k, k ≤ 4 → ¬ nI (8 ^ k) = 0 := by decide +kernel
theorem pow8 : ∀ k, k ≤ 4 → 8 ^ k ≤ 4096 := by decide
theorem pow10 : ∀ k, k ≤ 7 → ¬ f_X6_power 10 (nI k) = 0 ∧ (f_X6_power 10 (nI k)).toInt.natAbs ≤ 10000000 := by decide +kernel
theorem pow10m (x : Int32) : ¬ f_X6_power 10 (f_X6_many x) = 0 ∧ (f_X6_power 10 (f_X6_many x)).toInt.natAbs ≤ 10000000 := by
  obtain ⟨j, h, e⟩ := many_le x
  rw [e]; exact pow10 j h
def f_X6_longPower_l5 (a1 : Int64) (a2 : Int32) : Nat → Nat → (Int64) → Int64
  | 0, i_5, v5 => v5
  | d_5 + 1, i_5, v5 => (if a2 ≤ (nI i_5) then v5 else (f_X6_longPower_l5 a1 a2 d_5 (i_5 + 1) (v5 * a1)))
theorem f_X6_longPower_l5_z {a1 : Int64} {a2 : Int32} {i_5 : Nat} {v5 : Int64} : f_X6_longPower_l5 a1 a2 0 i_5 v5 = v5 := by rw [f_X6_longPower_l5]
theorem f_X6_longPower_l5_s {a1 : Int64} {a2 : Int32} {d_5 : Nat} {i_5 : Nat} {v5 : Int64} : f_X6_longPower_l5 a1 a2 (d_5 + 1) i_5 v5 = (if a2 ≤ (nI i_5) then v5 else (f_X6_longPower_l5 a1 a2 d_5 (i_5 + 1) (v5 * a1))) := by rw [f_X6_longPower_l5]
def f_X6_longPower (a1 : Int64) (a2 : Int32) : Int64 := (f_X6_longPower_l5 a1 a2 72 0 (1 : Int64))
set_option maxHeartbeats 4000000 in
set_option maxRecDepth 100000 in
theorem c_X6_longPower (l : Launch) (D : va_G) (cI cZ : ClassId) (q : Nat → Nat) (a1 : Int64) (a2 : Int32) (ha : a2.toInt < 72) : RdL l yX6_longPower cX6_longPower 6 0 0 D (tyL cI cZ) [] [.long a1, .int a2] (f_X6_longPower a1 a2) := by
  refine RdL.of (by decide) (Nat.le_of_ble_eq_true rfl) ?_
  intro p e s m args below meth c Q hx hb hml hown hts hP hK fin ls hl
  have hown : s.vm.findClass RX6 = some m.cls := hown
  have hF : CallFix p m c cX6_longPower 6 s args tb RX6 := ⟨hx, hb, hml, hown, hts⟩
  have hl : lv_has ls 6 [(0, .long a1), (2, .int a2)] := hl
  generalize hR : (f_X6_longPower a1 a2) = R at fin
  unfold f_X6_longPower at hR
  refine lv_lconst (v := (1 : Int64)) hx hb dX6_longPower_0 (by decide) ?_
  refine lv_lstore_n (lv' := [(3, .long (1 : Int64)), (0, .long a1), (2, .int a2)]) hx hb dX6_longPower_1 rfl hl (by decide) rfl (fun ls hl => ?_)
  refine lv_iconst (v := (0 : Int32)) hx hb dX6_longPower_2 (by decide) ?_
  refine lv_istore (lv' := [(5, .int (0 : Int32)), (3, .long (1 : Int64)), (0, .long a1), (2, .int a2)]) hx hb dX6_longPower_3 hl (by decide) rfl (fun ls hl => ?_)
  have key_5 : ∀ (d_5 i_5 : Nat) (v5 : Int64) (ls : Array Slot), i_5 + d_5 = 72 → a2.toInt ≤ ((i_5 + d_5 : Nat) : Int) → f_X6_longPower_l5 a1 a2 d_5 i_5 v5 = R → lv_has ls 6 [(5, .int (nI i_5)), (3, .long v5), (0, .long a1), (2, .int a2)] → W p l e (rmO 0 0) s m args below meth c s.heap [] 0 0 Q (F0 m 5 ls []) := by
    intro d_5
    induction d_5 with
    | zero =>
      intro i_5 v5 ls hi_5 hf_5 hR hl
      rw [f_X6_longPower_l5_z] at hR
      refine lv_iload hx hb dX6_longPower_5 (lv_at hl 0 rfl) ?_
      refine lv_iload_n hx hb dX6_longPower_7 rfl (lv_at hl 3 rfl) ?_
      refine lv_icmp_ge (tgt := 21) hx hb dX6_longPower_8 (by decide) (fun c_8 => ?_) (fun c_8 => absurd (le_nI (by omega) (by omega)) c_8)
      refine lv_lload_n hx hb dX6_longPower_21 rfl (lv_at hl 1 rfl) ?_
      subst hR
      exact fin _ _ dX6_longPower_22
    | succ d_5 ih_5 =>
      intro i_5 v5 ls hi_5 hf_5 hR hl
      rw [f_X6_longPower_l5_s] at hR
      refine lv_iload hx hb dX6_longPower_5 (lv_at hl 0 rfl) ?_
      refine lv_iload_n hx hb dX6_longPower_7 rfl (lv_at hl 3 rfl) ?_
      refine lv_icmp_ge (tgt := 21) hx hb dX6_longPower_8 (by decide) (fun c_8 => ?_) (fun c_8 => ?_)
      · rw [if_pos c_8] at hR
        refine lv_lload_n hx hb dX6_longPower_21 rfl (lv_at hl 1 rfl) ?_
        subst hR
        exact fin _ _ dX6_longPower_22
      · rw [if_neg c_8] at hR
        refine lv_lload_n hx hb dX6_longPower_11 rfl (lv_at hl 1 rfl) ?_
        refine lv_lload_n hx hb dX6_longPower_12 rfl (lv_at hl 2 rfl) ?_
        refine lv_lmul hx hb dX6_longPower_13 ?_
        refine lv_lstore_n (lv' := [(3, .long (v5 * a1)), (5, .int (nI i_5)), (0, .long a1), (2, .int a2)]) hx hb dX6_longPower_14 rfl hl (by decide) rfl (fun ls hl => ?_)
        refine lv_iinc (v := (nI (i_5 + 1))) (lv' := [(5, .int (nI (i_5 + 1))), (3, .long (v5 * a1)), (0, .long a1), (2, .int a2)]) hx hb dX6_longPower_15 hl (k := 1) rfl (nI_up i_5) (by decide) rfl (fun ls hl => ?_)
        refine lv_goto (tgt := 5) hx hb dX6_longPower_18 (by decide) ?_
        exact ih_5 (i_5 + 1) (v5 * a1) ls (by omega) (by omega) hR (lv_sub hl [0, 1, 2, 3] rfl)
  exact key_5 72 0 (1 : Int64) ls (by omega) (by omega) hR (lv_sub hl [0, 1, 2, 3] rfl)
theorem lp1000 : ∀ k, k ≤ 4 → f_X6_longPower 1000 (nI k) = lN (1000 ^ k) := by decide +kernel
theorem ne1000 : ∀ k, k ≤ 4 → ¬ lN (1000 ^ k) = 0 := by decide +kernel
def f_X6_noColumn (a1 : Int32) : Int32 := (if (f_X6_in a1.toInt64 (0 : Int64) (3 : Int64)) = (0 : Int32) then (1 : Int32) else (0 : Int32))
set_option maxHeartbeats 4000000 in
set_option maxRecDepth 100000 in
theorem c_X6_noColumn (l : Launch) (D : va_G) (cI cZ : ClassId) (q : Nat → Nat) (a1 : Int32) : RdI l yX6_noColumn cX6_noColumn 1 .boolean 1 25 D (tyL cI cZ) [] [.int a1] (f_X6_noColumn a1) := by
  refine RdI.of (by decide) (Nat.le_of_ble_eq_true rfl) ?_
  intro p e s m args below meth c Q hx hb hml hown hts hP hK fin ls hl
  have hown : s.vm.findClass RX6 = some m.cls := hown
  have hF : CallFix p m c cX6_noColumn 1 s args tb RX6 := ⟨hx, hb, hml, hown, hts⟩
  have hl : lv_has ls 1 [(0, .int a1)] := hl
  generalize hR : (f_X6_noColumn a1) = R at fin
  unfold f_X6_noColumn at hR
  refine lv_iload_n hx hb dX6_noColumn_0 rfl (lv_at hl 0 rfl) ?_
  refine lv_i2l (v := a1.toInt64) hx hb dX6_noColumn_1 rfl ?_
  refine lv_lconst (v := (0 : Int64)) hx hb dX6_noColumn_2 (by decide) ?_
  refine lv_ldc2 (v := (3 : Int64)) hx hb hown (hts _ tm_3_121) dX6_noColumn_3 ?_
  refine sRdI (As := [.long a1.toInt64, .long (0 : Int64), .long (3 : Int64)]) (rest := []) hF (c_X6_in l D cI cZ q a1.toInt64 (0 : Int64) (3 : Int64)) (gdS tm_3_97 tm_3_98 tm_1_6 tm_3_99) de_X6_in ⟨Nat.le_of_ble_eq_true rfl, Nat.le_of_ble_eq_true rfl⟩ va_P_nil hK hl.1 rfl (Nat.le_of_ble_eq_true rfl) dX6_noColumn_6 ⟨Nat.zero_le _, Nat.zero_le _⟩ ?_
  refine lv_if_ne (tgt := 16) hx hb dX6_noColumn_9 (by decide) (fun c_9 => ?_) (fun c_9 => ?_)
  · rw [if_neg c_9] at hR
    refine lv_iconst (v := (0 : Int32)) hx hb dX6_noColumn_16 (by decide) ?_
    subst hR
    exact fin _ _ dX6_noColumn_17 (nar_b (Or.inl rfl))
  · rw [if_pos c_9] at hR
    refine lv_iconst (v := (1 : Int32)) hx hb dX6_noColumn_12 (by decide) ?_
    refine lv_goto (tgt := 17) hx hb dX6_noColumn_13 (by decide) ?_
    subst hR
    exact fin _ _ dX6_noColumn_17 (nar_b (Or.inr rfl))
theorem noCol_ok (a : Int32) : f_X6_noColumn a = if 0 ≤ a.toInt ∧ a.toInt ≤ 3 then 0 else 1 := by
  unfold f_X6_noColumn
  rw [in_ok, Int32.toInt_toInt64, show (0 : Int64).toInt = 0 by decide, show (3 : Int64).toInt = 3 by decide]
  by_cases h : 0 ≤ a.toInt ∧ a.toInt ≤ 3
  · rw [if_pos h, if_neg (by decide), if_pos h]
  · rw [if_neg h, if_pos rfl, if_neg h]
theorem noCol_of {a : Int32} (h : f_X6_noColumn a = 0) : 0 ≤ a.toInt ∧ a.toInt ≤ 3 := by
  rw [noCol_ok] at h
  by_cases h1 : 0 ≤ a.toInt ∧ a.toInt ≤ 3
  · exact h1
  · rw [if_neg h1] at h; exact absurd h (by decide)
theorem noCol_nI {a : Int32} (h : f_X6_noColumn a = 0) : a = nI a.toNatClampNeg := nI_self (fun h2 => by
    have h1 := noCol_of h
    rw [Int32.lt_iff_toInt_lt] at h2
    have e : (0 : Int32).toInt = 0 := by decide
    omega)
theorem noCol_lt {a : Int32} (h : f_X6_noColumn a = 0) : a.toNatClampNeg < 4 := by
  have h1 := noCol_of h
  have : a.toNatClampNeg = a.toInt.toNat := rfl
  omega
def f_X6_ways_l4 (a1 : Int32) : Nat → Nat → (Int32) → Int32
  | 0, i_4, v4 => v4
  | d_4 + 1, i_4, v4 => (if a1 < (nI i_4) then v4 else (f_X6_ways_l4 a1 d_4 (i_4 + 1) (v4 * (nI i_4))))
theorem f_X6_ways_l4_z {a1 : Int32} {i_4 : Nat} {v4 : Int32} : f_X6_ways_l4 a1 0 i_4 v4 = v4 := by rw [f_X6_ways_l4]
theorem f_X6_ways_l4_s {a1 : Int32} {d_4 : Nat} {i_4 : Nat} {v4 : Int32} : f_X6_ways_l4 a1 (d_4 + 1) i_4 v4 = (if a1 < (nI i_4) then v4 else (f_X6_ways_l4 a1 d_4 (i_4 + 1) (v4 * (nI i_4)))) := by rw [f_X6_ways_l4]
def f_X6_ways (a1 : Int32) : Int32 := (f_X6_ways_l4 a1 70 2 (1 : Int32))
set_option maxHeartbeats 4000000 in
set_option maxRecDepth 100000 in
theorem c_X6_ways (l : Launch) (D : va_G) (cI cZ : ClassId) (q : Nat → Nat) (a1 : Int32) (ha : a1.toInt < 72) : RdI l yX6_ways cX6_ways 3 .int 0 0 D (tyL cI cZ) [] [.int a1] (f_X6_ways a1) := by
  refine RdI.of (by decide) (Nat.le_of_ble_eq_true rfl) ?_
  intro p e s m args below meth c Q hx hb hml hown hts hP hK fin ls hl
  have hown : s.vm.findClass RX6 = some m.cls := hown
  have hF : CallFix p m c cX6_ways 3 s args tb RX6 := ⟨hx, hb, hml, hown, hts⟩
  have hl : lv_has ls 3 [(0, .int a1)] := hl
  generalize hR : (f_X6_ways a1) = R at fin
  unfold f_X6_ways at hR
  refine lv_iconst (v := (1 : Int32)) hx hb dX6_ways_0 (by decide) ?_
  refine lv_istore_n (lv' := [(1, .int (1 : Int32)), (0, .int a1)]) hx hb dX6_ways_1 rfl hl (by decide) rfl (fun ls hl => ?_)
  refine lv_iconst (v := (2 : Int32)) hx hb dX6_ways_2 (by decide) ?_
  refine lv_istore_n (lv' := [(2, .int (2 : Int32)), (1, .int (1 : Int32)), (0, .int a1)]) hx hb dX6_ways_3 rfl hl (by decide) rfl (fun ls hl => ?_)
  have key_4 : ∀ (d_4 i_4 : Nat) (v4 : Int32) (ls : Array Slot), i_4 + d_4 = 72 → a1.toInt < ((i_4 + d_4 : Nat) : Int) → f_X6_ways_l4 a1 d_4 i_4 v4 = R → lv_has ls 3 [(2, .int (nI i_4)), (1, .int v4), (0, .int a1)] → W p l e (rmO 0 0) s m args below meth c s.heap [] 0 0 Q (F0 m 4 ls []) := by
    intro d_4
    induction d_4 with
    | zero =>
      intro i_4 v4 ls hi_4 hf_4 hR hl
      rw [f_X6_ways_l4_z] at hR
      refine lv_iload_n hx hb dX6_ways_4 rfl (lv_at hl 0 rfl) ?_
      refine lv_iload_n hx hb dX6_ways_5 rfl (lv_at hl 2 rfl) ?_
      refine lv_icmp_gt (tgt := 19) hx hb dX6_ways_6 (by decide) (fun c_6 => ?_) (fun c_6 => absurd (lt_nI (by omega) (by omega)) c_6)
      refine lv_iload_n hx hb dX6_ways_19 rfl (lv_at hl 1 rfl) ?_
      subst hR
      exact fin _ _ dX6_ways_20 (nar_i _)
    | succ d_4 ih_4 =>
      intro i_4 v4 ls hi_4 hf_4 hR hl
      rw [f_X6_ways_l4_s] at hR
      refine lv_iload_n hx hb dX6_ways_4 rfl (lv_at hl 0 rfl) ?_
      refine lv_iload_n hx hb dX6_ways_5 rfl (lv_at hl 2 rfl) ?_
      refine lv_icmp_gt (tgt := 19) hx hb dX6_ways_6 (by decide) (fun c_6 => ?_) (fun c_6 => ?_)
      · rw [if_pos c_6] at hR
        refine lv_iload_n hx hb dX6_ways_19 rfl (lv_at hl 1 rfl) ?_
        subst hR
        exact fin _ _ dX6_ways_20 (nar_i _)
      · rw [if_neg c_6] at hR
        refine lv_iload_n hx hb dX6_ways_9 rfl (lv_at hl 1 rfl) ?_
        refine lv_iload_n hx hb dX6_ways_10 rfl (lv_at hl 0 rfl) ?_
        refine lv_imul hx hb dX6_ways_11 ?_
        refine lv_istore_n (lv' := [(1, .int (v4 * (nI i_4))), (2, .int (nI i_4)), (0, .int a1)]) hx hb dX6_ways_12 rfl hl (by decide) rfl (fun ls hl => ?_)
        refine lv_iinc (v := (nI (i_4 + 1))) (lv' := [(2, .int (nI (i_4 + 1))), (1, .int (v4 * (nI i_4))), (0, .int a1)]) hx hb dX6_ways_13 hl (k := 1) rfl (nI_up i_4) (by decide) rfl (fun ls hl => ?_)
        refine lv_goto (tgt := 4) hx hb dX6_ways_16 (by decide) ?_
        exact ih_4 (i_4 + 1) (v4 * (nI i_4)) ls (by omega) (by omega) hR (lv_sub hl [0, 1, 2] rfl)
  exact key_4 70 2 (1 : Int32) ls (by omega) (by omega) hR (lv_sub hl [0, 1, 2] rfl)
theorem ways_ok : ∀ n, n ≤ 7 → ¬ f_X6_ways (nI n) = 0 ∧ (f_X6_ways (nI n)).toInt.natAbs ≤ 10000000 := by decide +kernel
def f_X6_divisor_l13  : Nat → (Int32) → (Int32) → Int32
  | 0, p13, q13 => p13
  | d_13 + 1, p13, q13 => (if q13 = (0 : Int32) then p13 else (f_X6_divisor_l13  d_13 q13 (jr p13 q13)))
theorem f_X6_divisor_l13_z  {p13 : Int32} {q13 : Int32} : f_X6_divisor_l13  0 p13 q13 = p13 := by rw [f_X6_divisor_l13]
theorem f_X6_divisor_l13_s  {d_13 : Nat} {p13 : Int32} {q13 : Int32} : f_X6_divisor_l13  (d_13 + 1) p13 q13 = (if q13 = (0 : Int32) then p13 else (f_X6_divisor_l13  d_13 q13 (jr p13 q13))) := by rw [f_X6_divisor_l13]
def f_X6_divisor_k10 (a2 : Int32) (p10 : Int32) : Int32 := (f_X6_divisor_l13  10000000 p10 a2)
def f_X6_divisor (a1 : Int32) (a2 : Int32) : Int32 := (if (0 : Int32) ≤ a1 then (f_X6_divisor_k10 a2 a1) else (f_X6_divisor_k10 a2 (-a1)))
set_option maxHeartbeats 4000000 in
set_option maxRecDepth 100000 in
theorem c_X6_divisor (l : Launch) (D : va_G) (cI cZ : ClassId) (q : Nat → Nat) (a1 : Int32) (a2 : Int32) (hb1 : a2.toInt.natAbs ≤ 10000000) : RdI l yX6_divisor cX6_divisor 5 .int 0 0 D (tyL cI cZ) [] [.int a1, .int a2] (f_X6_divisor a1 a2) := by
  refine RdI.of (by decide) (Nat.le_of_ble_eq_true rfl) ?_
  intro p e s m args below meth c Q hx hb hml hown hts hP hK fin ls hl
  have hown : s.vm.findClass RX6 = some m.cls := hown
  have hF : CallFix p m c cX6_divisor 5 s args tb RX6 := ⟨hx, hb, hml, hown, hts⟩
  have hl : lv_has ls 5 [(0, .int a1), (1, .int a2)] := hl
  generalize hR : (f_X6_divisor a1 a2) = R at fin
  unfold f_X6_divisor at hR
  refine lv_iload_n hx hb dX6_divisor_0 rfl (lv_at hl 0 rfl) ?_
  have key_10 : ∀ (p10 : Int32) (ls : Array Slot), f_X6_divisor_k10 a2 p10 = R → lv_has ls 5 [(0, .int a1), (1, .int a2)] → W p l e (rmO 0 0) s m args below meth c s.heap [] 0 0 Q (F0 m 10 ls [.int p10]) := by
    intro p10 ls hR hl
    rw [f_X6_divisor_k10] at hR
    refine lv_istore_n (lv' := [(2, .int p10), (0, .int a1), (1, .int a2)]) hx hb dX6_divisor_10 rfl hl (by decide) rfl (fun ls hl => ?_)
    refine lv_iload_n hx hb dX6_divisor_11 rfl (lv_at hl 2 rfl) ?_
    refine lv_istore_n (lv' := [(3, .int a2), (2, .int p10), (0, .int a1), (1, .int a2)]) hx hb dX6_divisor_12 rfl hl (by decide) rfl (fun ls hl => ?_)
    have key_13 : ∀ (d_13 : Nat) (p13 : Int32) (q13 : Int32) (ls : Array Slot), q13.toInt.natAbs ≤ d_13 → f_X6_divisor_l13  d_13 p13 q13 = R → lv_has ls 5 [(3, .int q13), (2, .int p13), (0, .int a1), (1, .int a2)] → W p l e (rmO 0 0) s m args below meth c s.heap [] 0 0 Q (F0 m 13 ls []) := by
      intro d_13
      induction d_13 with
      | zero =>
        intro p13 q13 ls hq_13 hR hl
        rw [f_X6_divisor_l13_z] at hR
        refine lv_iload_n hx hb dX6_divisor_13 rfl (lv_at hl 0 rfl) ?_
        refine lv_if_eq (tgt := 30) hx hb dX6_divisor_14 (by decide) (fun c_14 => ?_) (fun c_14 => absurd (i0_of hq_13) c_14)
        refine lv_iload_n hx hb dX6_divisor_30 rfl (lv_at hl 1 rfl) ?_
        subst hR
        exact fin _ _ dX6_divisor_31 (nar_i _)
      | succ d_13 ih_13 =>
        intro p13 q13 ls hq_13 hR hl
        rw [f_X6_divisor_l13_s] at hR
        refine lv_iload_n hx hb dX6_divisor_13 rfl (lv_at hl 0 rfl) ?_
        refine lv_if_eq (tgt := 30) hx hb dX6_divisor_14 (by decide) (fun c_14 => ?_) (fun c_14 => ?_)
        · rw [if_pos c_14] at hR
          refine lv_iload_n hx hb dX6_divisor_30 rfl (lv_at hl 1 rfl) ?_
          subst hR
          exact fin _ _ dX6_divisor_31 (nar_i _)
        · rw [if_neg c_14] at hR
          refine lv_iload_n hx hb dX6_divisor_17 rfl (lv_at hl 1 rfl) ?_
          refine lv_iload_n hx hb dX6_divisor_18 rfl (lv_at hl 0 rfl) ?_
          refine lv_irem hx hb dX6_divisor_19 c_14 ?_
          refine lv_rw (z := (jr p13 q13)) rfl ?_
          refine lv_istore (lv' := [(4, .int (jr p13 q13)), (3, .int q13), (2, .int p13), (0, .int a1), (1, .int a2)]) hx hb dX6_divisor_20 hl (by decide) rfl (fun ls hl => ?_)
          refine lv_iload_n hx hb dX6_divisor_22 rfl (lv_at hl 1 rfl) ?_
          refine lv_istore_n (lv' := [(2, .int q13), (4, .int (jr p13 q13)), (3, .int q13), (0, .int a1), (1, .int a2)]) hx hb dX6_divisor_23 rfl hl (by decide) rfl (fun ls hl => ?_)
          refine lv_iload hx hb dX6_divisor_24 (lv_at hl 1 rfl) ?_
          refine lv_istore_n (lv' := [(3, .int (jr p13 q13)), (2, .int q13), (4, .int (jr p13 q13)), (0, .int a1), (1, .int a2)]) hx hb dX6_divisor_26 rfl hl (by decide) rfl (fun ls hl => ?_)
          refine lv_goto (tgt := 13) hx hb dX6_divisor_27 (by decide) ?_
          exact ih_13 q13 (jr p13 q13) ls (by have := jr_lt (x := p13) c_14; omega) hR (lv_sub hl [0, 1, 3, 4] rfl)
    exact key_13 10000000 p10 a2 ls (by omega) hR (lv_sub hl [0, 1, 2, 3] rfl)
  refine lv_if_ge (tgt := 9) hx hb dX6_divisor_1 (by decide) (fun c_1 => ?_) (fun c_1 => ?_)
  · rw [if_pos c_1] at hR
    refine lv_iload_n hx hb dX6_divisor_9 rfl (lv_at hl 0 rfl) ?_
    exact key_10 a1 ls  hR (lv_sub hl [0, 1] rfl)
  · rw [if_neg c_1] at hR
    refine lv_iload_n hx hb dX6_divisor_4 rfl (lv_at hl 0 rfl) ?_
    refine lv_ineg hx hb dX6_divisor_5 ?_
    refine lv_goto (tgt := 10) hx hb dX6_divisor_6 (by decide) ?_
    exact key_10 (-a1) ls  hR (lv_sub hl [0, 1] rfl)
theorem div_ne0 : ∀ (d : Nat) (p q : Int32), q.toInt.natAbs ≤ d → (¬ p = 0 ∨ ¬ q = 0) → ¬ f_X6_divisor_l13 d p q = 0 := by
  intro d
  induction d with
  | zero =>
    intro p q hq h
    rw [f_X6_divisor_l13_z]
    have := i0_of hq
    rcases h with h | h
    · exact h
    · exact absurd this h
  | succ d ih =>
    intro p q hq h
    rw [f_X6_divisor_l13_s]
    by_cases h0 : q = 0
    · rw [if_pos h0]
      rcases h with h | h
      · exact h
      · exact absurd h0 h
    · rw [if_neg h0]
      exact ih _ _ (by have := jr_lt (x := p) h0; omega) (Or.inl h0)
theorem divisor_ne0 {a b : Int32} (hb : ¬ b = 0) (h : b.toInt.natAbs ≤ 10000000) : ¬ f_X6_divisor a b = 0 := by
  unfold f_X6_divisor
  by_cases h1 : 0 ≤ a
  · rw [if_pos h1, f_X6_divisor_k10]; exact div_ne0 _ _ _ (by omega) (Or.inr hb)
  · rw [if_neg h1, f_X6_divisor_k10]; exact div_ne0 _ _ _ (by omega) (Or.inr hb)
def f_X6_fraction (a1 : Int32) (a2 : Int32) (a3 : Int32) : Int32 := (if a3 = (0 : Int32) then (a2 / (f_X6_divisor a1 a2)) else (a1 / (f_X6_divisor a1 a2)))
set_option maxHeartbeats 4000000 in
set_option maxRecDepth 100000 in
theorem c_X6_fraction (l : Launch) (D : va_G) (cI cZ : ClassId) (q : Nat → Nat) (a1 : Int32) (a2 : Int32) (a3 : Int32) (hb0 : ¬ a2 = 0) (hb1 : a2.toInt.natAbs ≤ 10000000) : RdI l yX6_fraction cX6_fraction 4 .int 1 24 D (tyL cI cZ) [] [.int a1, .int a2, .int a3] (f_X6_fraction a1 a2 a3) := by
  refine RdI.of (by decide) (Nat.le_of_ble_eq_true rfl) ?_
  intro p e s m args below meth c Q hx hb hml hown hts hP hK fin ls hl
  have hown : s.vm.findClass RX6 = some m.cls := hown
  have hF : CallFix p m c cX6_fraction 4 s args tb RX6 := ⟨hx, hb, hml, hown, hts⟩
  have hl : lv_has ls 4 [(0, .int a1), (1, .int a2), (2, .int a3)] := hl
  generalize hR : (f_X6_fraction a1 a2 a3) = R at fin
  unfold f_X6_fraction at hR
  refine lv_iload_n hx hb dX6_fraction_0 rfl (lv_at hl 0 rfl) ?_
  refine lv_iload_n hx hb dX6_fraction_1 rfl (lv_at hl 1 rfl) ?_
  refine sRdI (As := [.int a1, .int a2]) (rest := []) hF (c_X6_divisor l D cI cZ q a1 a2 hb1) (gdS tm_4_32 tm_4_33 tm_1_6 tm_4_34) de_X6_divisor ⟨Nat.le_of_ble_eq_true rfl, Nat.le_of_ble_eq_true rfl⟩ va_P_nil hK hl.1 rfl (Nat.le_of_ble_eq_true rfl) dX6_fraction_2 ⟨Nat.zero_le _, Nat.zero_le _⟩ ?_
  refine lv_istore_n (lv' := [(3, .int (f_X6_divisor a1 a2)), (0, .int a1), (1, .int a2), (2, .int a3)]) hx hb dX6_fraction_5 rfl hl (by decide) rfl (fun ls hl => ?_)
  refine lv_iload_n hx hb dX6_fraction_6 rfl (lv_at hl 3 rfl) ?_
  refine lv_if_eq (tgt := 16) hx hb dX6_fraction_7 (by decide) (fun c_7 => ?_) (fun c_7 => ?_)
  · rw [if_pos c_7] at hR
    refine lv_iload_n hx hb dX6_fraction_16 rfl (lv_at hl 2 rfl) ?_
    refine lv_iload_n hx hb dX6_fraction_17 rfl (lv_at hl 0 rfl) ?_
    refine lv_idiv hx hb dX6_fraction_18 (divisor_ne0 hb0 hb1) ?_
    subst hR
    exact fin _ _ dX6_fraction_19 (nar_i _)
  · rw [if_neg c_7] at hR
    refine lv_iload_n hx hb dX6_fraction_10 rfl (lv_at hl 1 rfl) ?_
    refine lv_iload_n hx hb dX6_fraction_11 rfl (lv_at hl 0 rfl) ?_
    refine lv_idiv hx hb dX6_fraction_12 (divisor_ne0 hb0 hb1) ?_
    refine lv_goto (tgt := 19) hx hb dX6_fraction_13 (by decide) ?_
    subst hR
    exact fin _ _ dX6_fraction_19 (nar_i _)
def f_X6_standsBy (a1 : Int32) (a2 : Int32) (a3 : Int32) (a4 : Int32) (a5 : Int32) (a6 : Int32) : Int32 := (if a1 = (1 : Int32) then (if a3 = (0 : Int32) then (0 : Int32) else (if a4 = (0 : Int32) then (0 : Int32) else (1 : Int32))) else (if a1 = (2 : Int32) then (if a2 = (0 : Int32) then (if a5 = (0 : Int32) then (if a6 = (0 : Int32) then (0 : Int32) else (1 : Int32)) else (1 : Int32)) else (1 : Int32)) else (if a1 = (3 : Int32) then (1 : Int32) else a2)))
set_option maxHeartbeats 4000000 in
set_option maxRecDepth 100000 in
theorem c_X6_standsBy (l : Launch) (D : va_G) (cI cZ : ClassId) (q : Nat → Nat) (a1 : Int32) (a2 : Int32) (a3 : Int32) (a4 : Int32) (a5 : Int32) (a6 : Int32) (hz : a2 = 0 ∨ a2 = 1) : RdI l yX6_standsBy cX6_standsBy 6 .boolean 0 0 D (tyL cI cZ) [] [.int a1, .int a2, .int a3, .int a4, .int a5, .int a6] (f_X6_standsBy a1 a2 a3 a4 a5 a6) := by
  refine RdI.of (by decide) (Nat.le_of_ble_eq_true rfl) ?_
  intro p e s m args below meth c Q hx hb hml hown hts hP hK fin ls hl
  have hown : s.vm.findClass RX6 = some m.cls := hown
  have hF : CallFix p m c cX6_standsBy 6 s args tb RX6 := ⟨hx, hb, hml, hown, hts⟩
  have hl : lv_has ls 6 [(0, .int a1), (1, .int a2), (2, .int a3), (3, .int a4), (4, .int a5), (5, .int a6)] := hl
  generalize hR : (f_X6_standsBy a1 a2 a3 a4 a5 a6) = R at fin
  unfold f_X6_standsBy at hR
  refine lv_iload_n hx hb dX6_standsBy_0 rfl (lv_at hl 0 rfl) ?_
  refine Decidable.byCases (p := a1 = (1 : Int32)) (fun c_1_1 => ?_) (fun c_1_1 => ?_)
  · rw [if_pos c_1_1] at hR
    refine lv_tableIn (tgt := 28) hx hb dX6_standsBy_1 (by rw [c_1_1]; decide) (by rw [c_1_1]; decide) (by rw [c_1_1]; rfl) (by decide) ?_
    refine lv_iload_n hx hb dX6_standsBy_28 rfl (lv_at hl 2 rfl) ?_
    refine lv_if_eq (tgt := 40) hx hb dX6_standsBy_29 (by decide) (fun c_29 => ?_) (fun c_29 => ?_)
    · rw [if_pos c_29] at hR
      refine lv_iconst (v := (0 : Int32)) hx hb dX6_standsBy_40 (by decide) ?_
      subst hR
      exact fin _ _ dX6_standsBy_41 (nar_b (Or.inl rfl))
    · rw [if_neg c_29] at hR
      refine lv_iload_n hx hb dX6_standsBy_32 rfl (lv_at hl 3 rfl) ?_
      refine lv_if_eq (tgt := 40) hx hb dX6_standsBy_33 (by decide) (fun c_33 => ?_) (fun c_33 => ?_)
      · rw [if_pos c_33] at hR
        refine lv_iconst (v := (0 : Int32)) hx hb dX6_standsBy_40 (by decide) ?_
        subst hR
        exact fin _ _ dX6_standsBy_41 (nar_b (Or.inl rfl))
      · rw [if_neg c_33] at hR
        refine lv_iconst (v := (1 : Int32)) hx hb dX6_standsBy_36 (by decide) ?_
        refine lv_goto (tgt := 41) hx hb dX6_standsBy_37 (by decide) ?_
        subst hR
        exact fin _ _ dX6_standsBy_41 (nar_b (Or.inr rfl))
  · rw [if_neg c_1_1] at hR
    refine Decidable.byCases (p := a1 = (2 : Int32)) (fun c_1_2 => ?_) (fun c_1_2 => ?_)
    · rw [if_pos c_1_2] at hR
      refine lv_tableIn (tgt := 42) hx hb dX6_standsBy_1 (by rw [c_1_2]; decide) (by rw [c_1_2]; decide) (by rw [c_1_2]; rfl) (by decide) ?_
      refine lv_iload_n hx hb dX6_standsBy_42 rfl (lv_at hl 1 rfl) ?_
      refine lv_if_ne (tgt := 56) hx hb dX6_standsBy_43 (by decide) (fun c_43 => ?_) (fun c_43 => ?_)
      · rw [if_neg c_43] at hR
        refine lv_iconst (v := (1 : Int32)) hx hb dX6_standsBy_56 (by decide) ?_
        refine lv_goto (tgt := 61) hx hb dX6_standsBy_57 (by decide) ?_
        subst hR
        exact fin _ _ dX6_standsBy_61 (nar_b (Or.inr rfl))
      · rw [if_pos c_43] at hR
        refine lv_iload hx hb dX6_standsBy_46 (lv_at hl 4 rfl) ?_
        refine lv_if_ne (tgt := 56) hx hb dX6_standsBy_48 (by decide) (fun c_48 => ?_) (fun c_48 => ?_)
        · rw [if_neg c_48] at hR
          refine lv_iconst (v := (1 : Int32)) hx hb dX6_standsBy_56 (by decide) ?_
          refine lv_goto (tgt := 61) hx hb dX6_standsBy_57 (by decide) ?_
          subst hR
          exact fin _ _ dX6_standsBy_61 (nar_b (Or.inr rfl))
        · rw [if_pos c_48] at hR
          refine lv_iload hx hb dX6_standsBy_51 (lv_at hl 5 rfl) ?_
          refine lv_if_eq (tgt := 60) hx hb dX6_standsBy_53 (by decide) (fun c_53 => ?_) (fun c_53 => ?_)
          · rw [if_pos c_53] at hR
            refine lv_iconst (v := (0 : Int32)) hx hb dX6_standsBy_60 (by decide) ?_
            subst hR
            exact fin _ _ dX6_standsBy_61 (nar_b (Or.inl rfl))
          · rw [if_neg c_53] at hR
            refine lv_iconst (v := (1 : Int32)) hx hb dX6_standsBy_56 (by decide) ?_
            refine lv_goto (tgt := 61) hx hb dX6_standsBy_57 (by decide) ?_
            subst hR
            exact fin _ _ dX6_standsBy_61 (nar_b (Or.inr rfl))
    · rw [if_neg c_1_2] at hR
      refine Decidable.byCases (p := a1 = (3 : Int32)) (fun c_1_3 => ?_) (fun c_1_3 => ?_)
      · rw [if_pos c_1_3] at hR
        refine lv_tableIn (tgt := 62) hx hb dX6_standsBy_1 (by rw [c_1_3]; decide) (by rw [c_1_3]; decide) (by rw [c_1_3]; rfl) (by decide) ?_
        refine lv_iconst (v := (1 : Int32)) hx hb dX6_standsBy_62 (by decide) ?_
        subst hR
        exact fin _ _ dX6_standsBy_63 (nar_b (Or.inr rfl))
      · rw [if_neg c_1_3] at hR
        refine lv_tableOut (tgt := 64) hx hb dX6_standsBy_1 (by have h0 := lv_neT c_1_1 (a := 1) (by decide); have h1 := lv_neT c_1_2 (a := 2) (by decide); have h2 := lv_neT c_1_3 (a := 3) (by decide); omega) (by decide) ?_
        refine lv_iload_n hx hb dX6_standsBy_64 rfl (lv_at hl 1 rfl) ?_
        subst hR
        exact fin _ _ dX6_standsBy_65 (nar_b hz)
theorem stby01 {a1 a2 a3 a4 a5 a6 : Int32} (h : a2 = 0 ∨ a2 = 1) : f_X6_standsBy a1 a2 a3 a4 a5 a6 = 0 ∨ f_X6_standsBy a1 a2 a3 a4 a5 a6 = 1 := by
  unfold f_X6_standsBy
  repeat' split
  all_goals first | exact Or.inl rfl | exact Or.inr rfl | exact h
