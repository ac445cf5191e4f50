theorem cellsOf_l {n sp : Nat} {cl kd : Nat → Nat} {plain key stair air : Int32} {cells kinds lies kind : Nat → Int32} (hI : Idea n sp cl kd plain key stair air cells kinds lies kind) (m : Int32) : ∀ (d i : Nat) (acc : Int32), i + d = 7 → ∀ k, k < 32 → (bt (f_X2_cellsOf_l4 cells m d i acc) k = true ↔ bt acc k = true ∨ ∃ p, i ≤ p ∧ p < n ∧ cl p = k ∧ bt m p = true) := by
  have h7 : n ≤ 7 := hI.1
  intro d
  induction d with
  | zero =>
    intro i acc hi k hk
    rw [f_X2_cellsOf_l4_z]
    refine ⟨Or.inl, ?_⟩
    rintro (a | ⟨p, h1, h2, _⟩)
    · exact a
    · omega
  | succ d ih =>
    intro i acc hi k hk
    rw [f_X2_cellsOf_l4_s]
    by_cases hin : i < n
    · have hc := hI.c16 hin
      rw [hI.2.2.2.1 i hin, if_neg (nI_ne9 (by omega)), shr1 (by omega)]
      cases hb : bt m i
      · rw [if_neg (by decide), ih (i + 1) acc (by omega) k hk]
        constructor
        · rintro (a | ⟨p, h1, h2, h3, h4⟩)
          · exact Or.inl a
          · exact Or.inr ⟨p, by omega, h2, h3, h4⟩
        · rintro (a | ⟨p, h1, h2, h3, h4⟩)
          · exact Or.inl a
          · by_cases e : p = i
            · subst e; rw [hb] at h4; cases h4
            · exact Or.inr ⟨p, by omega, h2, h3, h4⟩
      · rw [if_pos (by decide), ih (i + 1) _ (by omega) k hk, b_or, bt_one (by omega) hk, Bool.or_eq_true, decide_eq_true_eq]
        constructor
        · rintro ((a | a) | ⟨p, h1, h2, h3, h4⟩)
          · exact Or.inl a
          · exact Or.inr ⟨i, by omega, hin, a.symm, hb⟩
          · exact Or.inr ⟨p, by omega, h2, h3, h4⟩
        · rintro (a | ⟨p, h1, h2, h3, h4⟩)
          · exact Or.inl (Or.inl a)
          · by_cases e : p = i
            · subst e; exact Or.inl (Or.inr h3.symm)
            · exact Or.inr ⟨p, by omega, h2, h3, h4⟩
    · rw [if_pos (hI.2.2.2.2.1 i (by omega) (by omega)), ih (i + 1) acc (by omega) k hk]
      constructor
      · rintro (a | ⟨p, h1, h2, h3, h4⟩)
        · exact Or.inl a
        · omega
      · rintro (a | ⟨p, h1, h2, h3, h4⟩)
        · exact Or.inl a
        · omega
theorem cellsOf_ok {n sp : Nat} {cl kd : Nat → Nat} {plain key stair air : Int32} {cells kinds lies kind : Nat → Int32} (hI : Idea n sp cl kd plain key stair air cells kinds lies kind) (m : Int32) (c : Nat) : bt (f_X2_cellsOf cells m) c = true ↔ onB n cl (bt m) c := by
  unfold f_X2_cellsOf
  rcases Nat.lt_or_ge c 32 with hc | hc
  · rw [cellsOf_l hI m 7 0 0 (by omega) c hc, b_0]
    constructor
    · rintro (a | ⟨p, _, h2, h3, h4⟩)
      · cases a
      · exact ⟨p, h2, h3, h4⟩
    · rintro ⟨p, h2, h3, h4⟩
      exact Or.inr ⟨p, by omega, h2, h3, h4⟩
  · rw [b_big hc]
    refine ⟨fun a => (by cases a), ?_⟩
    rintro ⟨p, h2, h3, h4⟩
    have := hI.c16 h2
    omega
/-- how many stand of the set m when no pole stands -/
def vS (cl : Nat → Nat) (n : Nat) (lies kind : Nat → Int32) (m : Nat) : Nat := fb_ct (bt (f_X6_standing cl n (upd (fun _ => (0 : Int32)) 5 (nI m)) lies kind)) 7
theorem zero_h (x : Int32) : ∀ c, c < 4 → upd (fun _ => (0 : Int32)) 5 x c = nI ((fun _ => 0) c) ∧ (fun _ => 0 : Nat → Nat) c ≤ 4 := by
  intro c hc
  rw [pk_un (by omega)]; exact ⟨rfl, Nat.zero_le 4⟩
theorem cs_ok {n sp : Nat} {cl kd : Nat → Nat} {plain key stair air : Int32} {cells kinds lies kind : Nat → Int32} (hI : Idea n sp cl kd plain key stair air cells kinds lies kind) (m : Nat) : f_X2_countStanding plain key stair air cells (nI m) = nI (vS cl n lies kind m) := by
  unfold f_X2_countStanding vS
  have hr := stand_ref hI (zero_h (nI m))
  rw [pk_us] at hr
  have hs := stand_cls hI (h := fun _ => 0) (P := 0) (cellsOf_ok hI (nI m)) (fun c _ => by rw [b_0]; simp)
  rw [had_ct hI hs.1 (fun p hp => (hs.2.1 p hp).1), funext (fun p => lfp_one hs.2 hr p)]
theorem vS_ref {n sp : Nat} {cl kd : Nat → Nat} {plain key stair air : Int32} {cells kinds lies kind : Nat → Int32} (hI : Idea n sp cl kd plain key stair air cells kinds lies kind) {m : Nat} {g : Nat → Int32} (h0 : ∀ c, c < 4 → g c = 0) (h5 : g 5 = nI m) : f_X6_many (f_X6_standing cl n g lies kind) = nI (vS cl n lies kind m) := by
  unfold vS
  have hr := stand_ref hI (zero_h (nI m))
  rw [pk_us] at hr
  have hg := stand_ref hI (f := g) (h := fun _ => 0) (fun c hc => ⟨h0 c hc, Nat.zero_le 4⟩)
  rw [h5] at hg
  rw [many_ok, funext (fun p => lfp_one hg hr p)]
theorem vS_mono {n sp : Nat} {cl kd : Nat → Nat} {plain key stair air : Int32} {cells kinds lies kind : Nat → Int32} (hI : Idea n sp cl kd plain key stair air cells kinds lies kind) {m m' : Nat} (h : ∀ p, bt (nI m) p = true → bt (nI m') p = true) : vS cl n lies kind m ≤ vS cl n lies kind m' := by
  have hr := stand_ref hI (zero_h (nI m))
  rw [pk_us] at hr
  have hr' := stand_ref hI (zero_h (nI m'))
  rw [pk_us] at hr'
  unfold vS
  apply fb_ct_sub
  intro k _ hk
  exact hr.2.2 _ (fun p hp hh hs => hr'.2.1 p hp (h p hh) hs) k hk
theorem s34 : ∀ (d i : Nat) (t : Nat → Int32) (k : Nat), f_X6_share_l34 d i t k = if i ≤ k ∧ k < i + d then 0 else t k := by
  intro d
  induction d with
  | zero => intro i t k; rw [f_X6_share_l34_z, if_neg (by omega)]
  | succ d ih =>
    intro i t k
    rw [f_X6_share_l34_s, ih]
    by_cases e : k = i
    · subst e; rw [if_neg (by omega), if_pos (by omega), pk_us]
    · rw [pk_un e]
      by_cases h : i ≤ k ∧ k < i + (d + 1)
      · rw [if_pos h, if_pos (by omega)]
      · rw [if_neg h, if_neg (by omega)]
theorem vals_l {n sp : Nat} {cl kd : Nat → Nat} {plain key stair air : Int32} {cells kinds lies kind : Nat → Int32} (hI : Idea n sp cl kd plain key stair air cells kinds lies kind) (page : Nat → Int32) : ∀ (d i : Nat) (t vl : Nat → Int32) (k : Nat), (f_X6_share_l17 cl n lies kind page d i t vl).2 k = if i ≤ k ∧ k < i + d then nI (vS cl n lies kind k) else vl k := by
  intro d
  induction d with
  | zero => intro i t vl k; rw [f_X6_share_l17_z, if_neg (by omega)]
  | succ d ih =>
    intro i t vl k
    rw [f_X6_share_l17_s, ih]
    by_cases e : k = i
    · subst e
      rw [if_neg (by omega), if_pos (by omega), pk_us]
      refine vS_ref hI (fun c hc => ?_) pk_us
      rw [pk_un (by omega), s34, if_pos (by omega)]
    · rw [pk_un e]
      by_cases h : i ≤ k ∧ k < i + (d + 1)
      · rw [if_pos h, if_pos (by omega)]
      · rw [if_neg h, if_neg (by omega)]
theorem fac_l (a : Int32) : ∀ (d i : Nat) (w : Int32), f_X5_factorial_l4 a d i w = f_X6_ways_l4 a d i w := by
  intro d
  induction d with
  | zero => intro i w; rw [f_X5_factorial_l4_z, f_X6_ways_l4_z]
  | succ d ih => intro i w; rw [f_X5_factorial_l4_s, f_X6_ways_l4_s, ih]
theorem fac_ways (a : Int32) : f_X5_factorial a = f_X6_ways a := fac_l a 70 2 1
def facN : Nat → Nat
  | 0 => 1
  | c + 1 => (c + 1) * facN c
theorem facN_ok : ∀ c, c < 8 → f_X5_factorial (nI c) = nI (facN c) ∧ facN c ≤ 5040 ∧ 1 ≤ facN c := by decide +kernel
theorem facN_pr : ∀ n, n < 8 → ∀ c, c < 8 → c < n → facN c * facN (n - 1 - c) ≤ 720 := by decide +kernel
theorem pop_many {i : Nat} (hi : i < 128) : f_J6_bitCount (nI i) = nI (ct7 i) := by
  have hb : ∀ k, 7 ≤ k → i.testBit k = false := fun k hk => Nat.testBit_lt_two_pow (Nat.lt_of_lt_of_le hi (show 2 ^ 7 ≤ 2 ^ k from Nat.pow_le_pow_right (by omega) hk))
  rw [pop_ok (fun k hk => by rw [bt_nI k (by omega)]; exact hb k (by omega)), ct_cut (T := bt (nI i)) (n := 7) (by omega) (fun p hp => by
    rw [bt_nI p (by omega)] at hp
    refine Classical.byContradiction fun hx => ?_
    rw [hb p (by omega)] at hp; cases hp)]
  exact congrArg nI (fb_ct_cong (fun k _ => bt_nI k (by omega)))
theorem share_l {n sp : Nat} {cl kd : Nat → Nat} {plain key stair air : Int32} {cells kinds lies kind : Nat → Int32} (hI : Idea n sp cl kd plain key stair air cells kinds lies kind) {p : Nat} (hp : p < n) {vl : Nat → Int32} (hv : ∀ k, k < 2 ^ n → vl k = nI (vS cl n lies kind k)) : ∀ (d i s : Nat), i + d = 2 ^ n → s ≤ 5040 * i → f_X5_share_l23 (nI n) plain key stair air cells (nI p) d i (nI s) = f_X6_share_l89 n (nI p) vl d i (nI s) ∧ ∃ A, A < 2 ^ 31 ∧ f_X5_share_l23 (nI n) plain key stair air cells (nI p) d i (nI s) = nI A := by
  have h7 : n ≤ 7 := hI.1
  have h128 : 2 ^ n ≤ 2 ^ 7 := Nat.pow_le_pow_right (by omega) h7
  intro d
  induction d with
  | zero => intro i s hi hs; rw [f_X5_share_l23_z, f_X6_share_l89_z]; exact ⟨rfl, s, by omega, rfl⟩
  | succ d ih =>
    intro i s hi hs
    have hi2 : i < 2 ^ n := by omega
    have hand : nI i &&& shl 1 (nI p) = 0 ↔ i.testBit p = false := by
      constructor
      · intro e
        have : bt (nI i &&& shl 1 (nI p)) p = false := by rw [e, b_0]
        rw [b_and, bt_one (by omega) (by omega), bt_nI p (by omega)] at this
        simpa using this
      · intro e
        apply b_ext
        intro k hk
        rw [b_and, bt_one (by omega) hk, bt_nI k (by omega), b_0]
        by_cases ek : k = p
        · subst ek; rw [e]; rfl
        · rw [decide_eq_false ek]; simp
    have hhas : f_X6_has (nI i) (nI p) = 0 ↔ i.testBit p = false := by rw [has_f (by omega), bt_nI p (by omega)]
    rw [f_X5_share_l23_s, f_X6_share_l89_s, nI_clamp (by omega)]
    by_cases e : i.testBit p = false
    · have h2p : 2 ^ p < 2 ^ n := Nat.pow_lt_pow_right (by omega) hp
      have hor : i ||| 2 ^ p < 2 ^ n := Nat.or_lt_two_pow hi2 h2p
      have eor : nI i ||| shl 1 (nI p) = nI (i ||| 2 ^ p) := by
        apply b_ext
        intro k hk
        rw [b_or, bt_one (by omega) hk, bt_nI k (by omega), bt_nI k (by omega), Nat.testBit_or, Nat.testBit_two_pow]
        by_cases ek : k = p
        · subst ek; simp
        · rw [decide_eq_false ek, decide_eq_false (fun a => ek a.symm)]
      have hmono : vS cl n lies kind i ≤ vS cl n lies kind (i ||| 2 ^ p) := vS_mono hI (fun k hk => by
        rw [bt_nI k (by omega)] at hk ⊢
        rw [Nat.testBit_or, hk]; rfl)
      have hle7 : vS cl n lies kind (i ||| 2 ^ p) ≤ 7 := fb_ct_le _ 7
      have hct : ct7 i < n := by
        have hz : ∀ k, i.testBit k = true → k < n := by
          intro k hk
          refine Classical.byContradiction fun hx => ?_
          rw [Nat.testBit_lt_two_pow (Nat.lt_of_lt_of_le hi2 (Nat.pow_le_pow_right (by omega) (by omega)))] at hk
          cases hk
        have e1 : ct7 i = fb_ct (fun j => i.testBit j) n := ct_cut h7 hz
        have e2 := fb_ct_upd (fun j => i.testBit j) true hp
        have e3 := fb_ct_le (fun k => if k = p then true else i.testBit k) n
        simp only [e, Bool.false_eq_true, if_false, if_true] at e2
        omega
      have hpr := facN_pr n (by omega) (ct7 i) (by omega) hct
      have es : nI n - 1 - nI (ct7 i) = nI (n - 1 - ct7 i) := by
        have : nI n - 1 = nI (n - 1) := pk_sub (b := 1) (by omega)
        rw [this, pk_sub (by omega)]
      rw [if_pos (hand.mpr e), if_pos (hhas.mpr e), eor, cs_ok hI, cs_ok hI, hv _ hor, hv _ hi2, pop_many (by omega), manyN (by omega)]
      unfold f_X5_ordersWith
      rw [es, ← fac_ways, ← fac_ways, (facN_ok (ct7 i) (by omega)).1, (facN_ok (n - 1 - ct7 i) (by omega)).1, pk_sub hmono, pk_mul, pk_mul, pk_mul, nI_add, nI_add, Nat.mul_comm (facN (ct7 i) * facN (n - 1 - ct7 i))]
      refine ih (i + 1) _ (by omega) ?_
      have hx : (vS cl n lies kind (i ||| 2 ^ p) - vS cl n lies kind i) * (facN (ct7 i) * facN (n - 1 - ct7 i)) ≤ 7 * 720 := Nat.mul_le_mul (by omega) hpr
      omega
    · rw [if_neg (fun a => e (hand.mp a)), if_neg (fun a => e (hhas.mp a))]
      exact ih (i + 1) s (by omega) (by omega)
theorem op_share (L sp n na tr : Nat) (cl kd : Nat → Nat) (now rains plain key stair air thrown place readStock readCells readParts soonMany soonWhich kindMany kindFirst restMany restFirst : Int32) (text triedAbout triedIs cells kinds frames rainsB kept keptF keptR lies kind readPart page trial book keptM isKept gains value : Nat → Int32) (seed : Int64) (a1 : Int32) (a2 : Int32) (hz2 : a2 = 0 ∨ a2 = 1) (hC : Core L sp n na tr cl kd now rains plain key stair air text cells kinds frames rainsB triedIs kept keptF keptR lies kind page book keptM isKept) : (f_X5_share n (nI n) plain key stair air cells a1 a2) = (f_X6_share cl n lies kind page trial value a1 a2).1 ∧ LInv now rains (nI L) (nI sp) (nI n) plain key stair air (nI na) (nI tr) text cells kinds frames rainsB triedAbout triedIs kept keptF keptR seed (f_X6_share cl n lies kind page trial value a1 a2).2.1 (nI L) place (nI sp) (nI n) readStock readCells readParts (nI na) (nI tr) soonMany soonWhich kindMany kindFirst restMany restFirst text lies kind readPart page (f_X6_share cl n lies kind page trial value a1 a2).2.2.1 book keptM isKept triedAbout triedIs gains (f_X6_share cl n lies kind page trial value a1 a2).2.2.2 seed := by
  have hI := hC.hI
  have h7 := hI.1
  unfold f_X5_share f_X6_share
  rcases part_cases h7 a1 with ⟨p, hp, rfl, h1, h2⟩ | ⟨h1, h2⟩
  · rw [if_neg h1, if_pos h2]
    refine ⟨?_, linv hC⟩
    have hl : f_X5_share_l23 (nI n) plain key stair air cells (nI p) (2 ^ n) 0 0 = f_X6_share_l89 n (nI p) (f_X6_share_l17 cl n lies kind page (2 ^ n) 0 trial value).2 (2 ^ n) 0 0 ∧ ∃ A, A < 2 ^ 31 ∧ f_X5_share_l23 (nI n) plain key stair air cells (nI p) (2 ^ n) 0 0 = nI A := share_l hI hp (fun k hk => by rw [vals_l hI page, if_pos (by omega)]) (2 ^ n) 0 0 (by omega) (by omega)
    obtain ⟨e, A, hA, eA⟩ := hl
    have hf := facN_ok n (by omega)
    dsimp only
    rw [← e, eA, ← fac_ways, hf.1]
    exact told_ok hA (by omega) hf.2.2 a2
  · rw [if_pos h1, if_neg h2]; exact ⟨rfl, linv hC⟩
