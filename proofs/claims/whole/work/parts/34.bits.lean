theorem bt_shl {n i : Nat} (hn : n < 32) (hi : i < 32) (x : Int32) : bt (shl x (nI n)) i = (decide (n ≤ i) && bt x (i - n)) := b_shl n hn x hi
theorem bt_ush {n : Nat} (hn : n < 32) (x : Int32) (i : Nat) : bt (ush x (nI n)) i = bt x (n + i) := b_ushr n hn x i
theorem bt_shr {n i : Nat} (hn : n < 32) (hi : i < 32) (x : Int32) : bt (shr x (nI n)) i = if n + i < 32 then bt x (n + i) else bt x 31 := b_sshr n hn x hi
theorem b_1 : ∀ i, i < 32 → bt 1 i = decide (i = 0) := by decide +kernel
theorem bt_one {n i : Nat} (hn : n < 32) (hi : i < 32) : bt (shl 1 (nI n)) i = decide (i = n) := by
  rw [bt_shl hn hi, b_1 (i - n) (by omega)]
  by_cases h : i = n
  · subst h; simp
  · rw [decide_eq_false h]
    by_cases h2 : n ≤ i
    · rw [decide_eq_true h2, decide_eq_false (by omega)]; rfl
    · rw [decide_eq_false h2]; rfl
theorem bt_not {x : Int32} {i : Nat} (hi : i < 32) : bt (x ^^^ -1) i = !bt x i := by
  rw [b_xor, b_m1 i hi]; cases bt x i <;> rfl
theorem and1 (x : Int32) : (x &&& 1) = if bt x 0 then 1 else 0 := by
  apply b_ext
  intro i hi
  rw [b_and, b_1 i hi]
  by_cases h : i = 0
  · subst h
    cases h2 : bt x 0
    · rw [if_neg (by decide), b_0]; rfl
    · rw [if_pos rfl]; decide
  · rw [decide_eq_false h]
    cases h2 : bt x 0
    · rw [if_neg (by decide), b_0]; simp
    · rw [if_pos rfl, b_1 i hi, decide_eq_false h]; simp
theorem shr1 {n : Nat} (hn : n < 32) (x : Int32) : (shr x (nI n) &&& 1) = if bt x n then 1 else 0 := by
  have h : bt (shr x (nI n)) 0 = bt x n := by rw [bt_shr hn (by omega), if_pos (by omega)]; rfl
  rw [and1, h]
theorem has_bt {n : Nat} (hn : n < 32) (x : Int32) : f_X6_has x (nI n) = if bt x n then 1 else 0 := by
  unfold f_X6_has
  rw [shr1 hn]
  cases bt x n
  · rfl
  · rfl
theorem has_t {n : Nat} (hn : n < 32) (x : Int32) : ¬ f_X6_has x (nI n) = 0 ↔ bt x n = true := by
  rw [has_bt hn]; cases bt x n
  · exact ⟨fun h => absurd rfl h, fun h => by cases h⟩
  · exact ⟨fun _ => rfl, fun _ => by decide⟩
theorem has_f {n : Nat} (hn : n < 32) (x : Int32) : f_X6_has x (nI n) = 0 ↔ bt x n = false := by
  rw [has_bt hn]; cases bt x n
  · exact ⟨fun _ => rfl, fun _ => rfl⟩
  · exact ⟨fun h => absurd h (by decide), fun h => by cases h⟩
theorem bt_nI {k : Nat} (i : Nat) (hk : k < 2 ^ 32) : bt (nI k) i = k.testBit i := by
  show (BitVec.ofNat 32 k).getLsbD i = _
  rw [BitVec.getLsbD_ofNat]
  by_cases h : i < 32
  · simp [h]
  · have : k.testBit i = false := Nat.testBit_lt_two_pow (Nat.lt_of_lt_of_le hk (Nat.pow_le_pow_right (by omega) (by omega)))
    simp [h, this]
theorem nI_bits (x : Int32) : x = nI x.toBitVec.toNat := by
  apply Int32.toBitVec_inj.1
  show x.toBitVec = BitVec.ofNat 32 x.toBitVec.toNat
  simp
theorem nI_16 {x : Int32} (hx : ∀ i, 16 ≤ i → bt x i = false) : ∃ k, k < 65536 ∧ x = nI k := by
  refine ⟨x.toBitVec.toNat, ?_, nI_bits x⟩
  apply Nat.lt_pow_two_of_testBit (n := 16)
  intro i hi
  have := hx i hi
  unfold bt at this
  rw [BitVec.getLsbD] at this
  exact this
/-- the count of bits, in plain numbers -/
def bcN (k : Nat) : Nat :=
  let a := k - ((k / 2) &&& 1431655765)
  let b := (a &&& 858993459) + ((a / 4) &&& 858993459)
  let c := (b + b / 16) &&& 252645135
  let d := c + c / 256
  let e := d + d / 65536
  e &&& 63
def ctN (k : Nat) : Nat := k % 2 + k / 2 % 2 + k / 4 % 2 + k / 8 % 2 + k / 16 % 2 + k / 32 % 2 + k / 64 % 2 + k / 128 % 2 + k / 256 % 2 + k / 512 % 2 + k / 1024 % 2 + k / 2048 % 2 + k / 4096 % 2 + k / 8192 % 2 + k / 16384 % 2 + k / 32768 % 2
def ctA : Nat → Nat → Bool
  | 0, _ => true
  | f + 1, k => Nat.beq (bcN k) (ctN k) && ctA f (k + 1)
theorem ctA_ok : ∀ (f k : Nat), ctA f k = true → ∀ j, j < f → bcN (k + j) = ctN (k + j) := by
  intro f
  induction f with
  | zero => intro k _ j hj; omega
  | succ f ih =>
    intro k h j hj
    rw [ctA, Bool.and_eq_true] at h
    cases j with
    | zero => exact Nat.eq_of_beq_eq_true h.1
    | succ j =>
      have := ih (k + 1) h.2 j (by omega)
      rwa [show k + 1 + j = k + (j + 1) by omega] at this
theorem ctA_0 : ctA 4096 0 = true := by decide +kernel
theorem ctA_1 : ctA 4096 4096 = true := by decide +kernel
theorem ctA_2 : ctA 4096 8192 = true := by decide +kernel
theorem ctA_3 : ctA 4096 12288 = true := by decide +kernel
theorem ctA_4 : ctA 4096 16384 = true := by decide +kernel
theorem ctA_5 : ctA 4096 20480 = true := by decide +kernel
theorem ctA_6 : ctA 4096 24576 = true := by decide +kernel
theorem ctA_7 : ctA 4096 28672 = true := by decide +kernel
theorem ctA_8 : ctA 4096 32768 = true := by decide +kernel
theorem ctA_9 : ctA 4096 36864 = true := by decide +kernel
theorem ctA_10 : ctA 4096 40960 = true := by decide +kernel
theorem ctA_11 : ctA 4096 45056 = true := by decide +kernel
theorem ctA_12 : ctA 4096 49152 = true := by decide +kernel
theorem ctA_13 : ctA 4096 53248 = true := by decide +kernel
theorem ctA_14 : ctA 4096 57344 = true := by decide +kernel
theorem ctA_15 : ctA 4096 61440 = true := by decide +kernel
theorem bcN_ok {k : Nat} (hk : k < 65536) : bcN k = ctN k := by
  have e : 4096 * (k / 4096) + k % 4096 = k := by omega
  have hq : k / 4096 < 16 := by omega
  have hr : k % 4096 < 4096 := by omega
  generalize k / 4096 = q at e hq
  generalize k % 4096 = r at e hr
  subst e
  match q, hq with
  | 0, _ => exact ctA_ok 4096 0 ctA_0 r hr
  | 1, _ => exact ctA_ok 4096 4096 ctA_1 r hr
  | 2, _ => exact ctA_ok 4096 8192 ctA_2 r hr
  | 3, _ => exact ctA_ok 4096 12288 ctA_3 r hr
  | 4, _ => exact ctA_ok 4096 16384 ctA_4 r hr
  | 5, _ => exact ctA_ok 4096 20480 ctA_5 r hr
  | 6, _ => exact ctA_ok 4096 24576 ctA_6 r hr
  | 7, _ => exact ctA_ok 4096 28672 ctA_7 r hr
  | 8, _ => exact ctA_ok 4096 32768 ctA_8 r hr
  | 9, _ => exact ctA_ok 4096 36864 ctA_9 r hr
  | 10, _ => exact ctA_ok 4096 40960 ctA_10 r hr
  | 11, _ => exact ctA_ok 4096 45056 ctA_11 r hr
  | 12, _ => exact ctA_ok 4096 49152 ctA_12 r hr
  | 13, _ => exact ctA_ok 4096 53248 ctA_13 r hr
  | 14, _ => exact ctA_ok 4096 57344 ctA_14 r hr
  | 15, _ => exact ctA_ok 4096 61440 ctA_15 r hr
  | q + 16, h => exact absurd h (by omega)
theorem tbx1 (k i : Nat) : (if k.testBit i then 1 else 0) = k / 2 ^ i % 2 := by
  rw [Nat.testBit_eq_decide_div_mod_eq]
  by_cases h : k / 2 ^ i % 2 = 1
  · rw [decide_eq_true h, h]; rfl
  · rw [decide_eq_false h, show k / 2 ^ i % 2 = 0 by omega]; rfl
theorem ct_tb (k : Nat) : fb_ct (fun i => k.testBit i) 16 = ctN k := by
  simp only [fb_ct, tbx1]
  unfold ctN
  simp only [Nat.zero_add, Nat.reducePow, Nat.div_one]
theorem bit_steps {x a b c d : Int32} (ha : x - (ush x 1 &&& 1431655765) = a) (hb : (a &&& 858993459) + (ush a 2 &&& 858993459) = b) (hc : (b + ush b 4) &&& 252645135 = c) (hd : c + ush c 8 = d) : f_J6_bitCount x = (d + ush d 16) &&& 63 := by
  subst ha; subst hb; subst hc; subst hd; rfl
theorem ush_nI {k s : Nat} (hk : k < 2 ^ 32) (hs : s < 32) : ush (nI k) (nI s) = nI (k / 2 ^ s) := pk_ushrN hk (nI s) s (s_u s hs)
theorem bitN {k : Nat} (hk : k < 65536) : f_J6_bitCount (nI k) = nI (bcN k) := by
  have l1 : (k / 2) &&& 1431655765 ≤ k / 2 := Nat.and_le_left
  have e1 : nI k - (ush (nI k) 1 &&& 1431655765) = nI (k - ((k / 2) &&& 1431655765)) := by
    have h1 : ush (nI k) 1 = nI (k / 2) := ush_nI (s := 1) (by omega) (by omega)
    rw [h1, show (1431655765 : Int32) = nI 1431655765 from rfl, nx_and, pk_sub (by omega)]
  generalize ha : k - ((k / 2) &&& 1431655765) = a at e1
  have hak : a ≤ k := by omega
  have e2 : (nI a &&& 858993459) + (ush (nI a) 2 &&& 858993459) = nI ((a &&& 858993459) + ((a / 4) &&& 858993459)) := by
    have h1 : ush (nI a) 2 = nI (a / 4) := ush_nI (s := 2) (by omega) (by omega)
    rw [h1, show (858993459 : Int32) = nI 858993459 from rfl, nx_and, nx_and, nI_add]
  have l2 : (a &&& 858993459) ≤ a := Nat.and_le_left
  have l3 : ((a / 4) &&& 858993459) ≤ a / 4 := Nat.and_le_left
  generalize hb : (a &&& 858993459) + ((a / 4) &&& 858993459) = b at e2
  have e3 : (nI b + ush (nI b) 4) &&& 252645135 = nI ((b + b / 16) &&& 252645135) := by
    have h1 : ush (nI b) 4 = nI (b / 16) := ush_nI (s := 4) (by omega) (by omega)
    rw [h1, show (252645135 : Int32) = nI 252645135 from rfl, nI_add, nx_and]
  have l4 : (b + b / 16) &&& 252645135 ≤ b + b / 16 := Nat.and_le_left
  generalize hc : (b + b / 16) &&& 252645135 = c at e3
  have e4 : nI c + ush (nI c) 8 = nI (c + c / 256) := by
    have h1 : ush (nI c) 8 = nI (c / 256) := ush_nI (s := 8) (by omega) (by omega)
    rw [h1, nI_add]
  rw [bit_steps e1 e2 e3 e4]
  have h1 : ush (nI (c + c / 256)) 16 = nI ((c + c / 256) / 65536) := ush_nI (s := 16) (by omega) (by omega)
  rw [h1, nI_add, show (63 : Int32) = nI 63 from rfl, nx_and]
  unfold bcN
  dsimp only
  rw [ha, hb, hc]
theorem pop_ok {x : Int32} (hx : ∀ i, 16 ≤ i → bt x i = false) : f_J6_bitCount x = nI (fb_ct (bt x) 16) := by
  obtain ⟨k, hk, rfl⟩ := nI_16 hx
  rw [bitN hk]
  rw [bcN_ok hk, ← ct_tb]
  exact congrArg nI (fb_ct_cong (fun i _ => (bt_nI i (by omega)).symm))
theorem many_l : ∀ (d i : Nat) (x acc : Int32) (k : Nat), i + d ≤ 32 → acc = nI k → f_X6_many_l4 x d i acc = nI (k + fb_ct (fun j => bt x (i + j)) d) := by
  intro d
  induction d with
  | zero => intro i x acc k _ h; rw [f_X6_many_l4_z, h]; rfl
  | succ d ih =>
    intro i x acc k hi h
    rw [f_X6_many_l4_s, shr1 (by omega)]
    have e : fb_ct (fun j => bt x (i + j)) (d + 1) = (if bt x i then 1 else 0) + fb_ct (fun j => bt x (i + 1 + j)) d := by
      have h1 := fb_ct_split (fun j => bt x (i + j)) 1 d
      rw [Nat.add_comm 1 d] at h1
      rw [h1]
      have h2 : fb_ct (fun j => bt x (i + j)) 1 = if bt x i then 1 else 0 := by
        rw [fb_ct_succ]; simp [fb_ct]
      rw [h2]
      exact congrArg _ (fb_ct_cong (fun j _ => by rw [Nat.add_assoc]))
    rw [e]
    cases hb : bt x i
    · rw [if_neg (by decide), if_neg (by decide), Nat.zero_add]
      exact ih (i + 1) x _ k (by omega) (by rw [h]; show nI k + nI 0 = nI k; rw [nI_add]; rfl)
    · rw [if_pos rfl, if_pos rfl, ← Nat.add_assoc]
      exact ih (i + 1) x _ (k + 1) (by omega) (by rw [h]; exact nI_1 k)
theorem many_ok (x : Int32) : f_X6_many x = nI (fb_ct (bt x) 7) := by
  unfold f_X6_many
  rw [many_l 7 0 x 0 0 (by omega) rfl, Nat.zero_add]
  exact congrArg nI (fb_ct_cong (fun j _ => by rw [Nat.zero_add]))
