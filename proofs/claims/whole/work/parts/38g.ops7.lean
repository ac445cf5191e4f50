def ct7 (i : Nat) : Nat := fb_ct (fun j => i.testBit j) 7
def cN (x0 x1 x2 x3 : Nat) : Nat := (if x0 = 0 then 0 else 1) + (if x1 = 0 then 0 else 2) + (if x2 = 0 then 0 else 4) + (if x3 = 0 then 0 else 8)
theorem cN_lt (x0 x1 x2 x3 : Nat) : cN x0 x1 x2 x3 < 16 := by
  unfold cN
  by_cases a : x0 = 0 <;> by_cases b : x1 = 0 <;> by_cases c : x2 = 0 <;> by_cases d : x3 = 0 <;> simp [a, b, c, d]
theorem cN_bit (h : Nat → Nat) : ∀ j, j < 4 → (cN (h 0) (h 1) (h 2) (h 3)).testBit j = decide (¬ h j = 0) := by
  intro j hj
  unfold cN
  rcases (show j = 0 ∨ j = 1 ∨ j = 2 ∨ j = 3 by omega) with rfl | rfl | rfl | rfl
  · by_cases a : h 0 = 0 <;> by_cases b : h 1 = 0 <;> by_cases c : h 2 = 0 <;> by_cases d : h 3 = 0 <;> simp only [a, b, c, d, if_true, if_false, not_true, not_false_iff, decide_true, decide_false] <;> rfl
  · by_cases a : h 0 = 0 <;> by_cases b : h 1 = 0 <;> by_cases c : h 2 = 0 <;> by_cases d : h 3 = 0 <;> simp only [a, b, c, d, if_true, if_false, not_true, not_false_iff, decide_true, decide_false] <;> rfl
  · by_cases a : h 0 = 0 <;> by_cases b : h 1 = 0 <;> by_cases c : h 2 = 0 <;> by_cases d : h 3 = 0 <;> simp only [a, b, c, d, if_true, if_false, not_true, not_false_iff, decide_true, decide_false] <;> rfl
  · by_cases a : h 0 = 0 <;> by_cases b : h 1 = 0 <;> by_cases c : h 2 = 0 <;> by_cases d : h 3 = 0 <;> simp only [a, b, c, d, if_true, if_false, not_true, not_false_iff, decide_true, decide_false] <;> rfl
theorem manyN {i : Nat} (hi : i < 2 ^ 32) : f_X6_many (nI i) = nI (ct7 i) := by
  rw [many_ok]
  exact congrArg nI (fb_ct_cong (fun k _ => bt_nI k hi))
theorem cols_l {h : Nat → Nat} {page : Nat → Int32} (hp : ∀ c, c < 4 → page c = nI (h c) ∧ h c ≤ 4) : ∀ (d i : Nat) (acc : Int32), i + d = 4 → ∀ k, k < 32 → bt (f_X6_columnsWith_l4 page d i acc) k = (bt acc k || (decide (i ≤ k) && (decide (k < 4) && decide (¬ h k = 0)))) := by
  intro d
  induction d with
  | zero =>
    intro i acc hi k hk
    rw [f_X6_columnsWith_l4_z]
    by_cases e : k < 4
    · rw [decide_eq_false (show ¬ i ≤ k by omega)]; simp
    · rw [decide_eq_false e]; simp
  | succ d ih =>
    intro i acc hi k hk
    have hpi := hp i (by omega)
    rw [f_X6_columnsWith_l4_s, hpi.1]
    by_cases e : h i = 0
    · rw [e, if_pos (show nI 0 ≤ (0 : Int32) by decide), ih (i + 1) _ (by omega) k hk, b_or, b_0, Bool.or_false]
      by_cases ek : k = i
      · subst ek
        rw [decide_eq_false (show ¬ k + 1 ≤ k by omega), decide_eq_false (show ¬ ¬ h k = 0 by simp [e])]; simp
      · by_cases e2 : i ≤ k
        · rw [decide_eq_true e2, decide_eq_true (show i + 1 ≤ k by omega)]
        · rw [decide_eq_false e2, decide_eq_false (show ¬ i + 1 ≤ k by omega)]
    · rw [if_neg (nI_nle (by omega) (by omega)), ih (i + 1) _ (by omega) k hk, b_or, bt_one (by omega) hk]
      by_cases ek : k = i
      · subst ek
        rw [decide_eq_true (show k < 4 by omega), decide_eq_true e]; simp
      · rw [decide_eq_false ek, Bool.or_false]
        by_cases e2 : i ≤ k
        · rw [decide_eq_true e2, decide_eq_true (show i + 1 ≤ k by omega)]
        · rw [decide_eq_false e2, decide_eq_false (show ¬ i + 1 ≤ k by omega)]
theorem cols_ok {h : Nat → Nat} {page : Nat → Int32} (hp : ∀ c, c < 4 → page c = nI (h c) ∧ h c ≤ 4) : f_X6_columnsWith page = nI (cN (h 0) (h 1) (h 2) (h 3)) := by
  apply b_ext
  intro k hk
  unfold f_X6_columnsWith
  have hC := cN_lt (h 0) (h 1) (h 2) (h 3)
  rw [cols_l hp 4 0 0 (by omega) k hk, b_0, bt_nI k (by omega), decide_eq_true (show 0 ≤ k by omega)]
  by_cases e : k < 4
  · rw [cN_bit h k e, decide_eq_true e]; simp
  · rw [decide_eq_false e, Nat.testBit_lt_two_pow (Nat.lt_of_lt_of_le hC (show 2 ^ 4 ≤ 2 ^ k from Nat.pow_le_pow_right (by omega) (by omega)))]; rfl
def wtN (C i a : Nat) : Nat → Nat → Nat → Nat
  | 0, _, w => w
  | d + 1, j, w => if i.testBit j then (if C.testBit j then wtN C i a d (j + 1) (w * a) else 0) else (if C.testBit j then wtN C i a d (j + 1) (w * (10 - a)) else wtN C i a d (j + 1) w)
theorem wtN_ok : ∀ C, C < 16 → ∀ i, i < 16 → ∀ a, a < 11 → wtN C i a 4 0 1 = (if i &&& (15 - C) = 0 then a ^ ct7 i * (10 - a) ^ (ct7 C - ct7 i) else 0) ∧ wtN C i a 4 0 1 ≤ 10000 := by decide +kernel
theorem sub_ok : ∀ C, C < 16 → ∀ i, i < 16 → ((nI i &&& (nI C ^^^ -1) = 0 ↔ i &&& (15 - C) = 0) ∧ (i &&& (15 - C) = 0 → ct7 i ≤ ct7 C) ∧ ct7 C ≤ 4) := by decide +kernel
theorem sub_bit : ∀ C, C < 16 → ∀ i, i < 16 → i &&& (15 - C) = 0 → ∀ j, j < 4 → i.testBit j = true → C.testBit j = true := by decide +kernel
theorem powerN : ∀ a, a < 11 → ∀ k, k < 5 → f_X6_power (nI a) (nI k) = nI (a ^ k) := by decide +kernel
def bwN (C : Nat) : Nat → Nat → Nat → Nat
  | 0, _, w => w
  | d + 1, j, w => if C.testBit j then bwN C d (j + 1) (w * 10) else bwN C d (j + 1) (w * 1)
theorem bwN_ok : ∀ C, C < 16 → bwN C 4 0 1 = 10 ^ ct7 C := by decide +kernel
theorem weight_l {n sp : Nat} {cl kd h : Nat → Nat} {now : Int32} {page : Nat → Int32} (hF : FRh n sp cl kd h now page) {i a : Nat} (hi : i < 16) (ha : a ≤ 10) : ∀ (d j w : Nat), j + d = 4 → f_X5_weightOf_l5 now (nI i) (nI a) d j (nI w) = nI (wtN (cN (h 0) (h 1) (h 2) (h 3)) i a d j w) := by
  intro d
  induction d with
  | zero => intro j w _; rw [f_X5_weightOf_l5_z]; rfl
  | succ d ih =>
    intro j w hj
    have e10 : (10 : Int32) - nI a = nI (10 - a) := pk_sub (a := 10) ha
    rw [f_X5_weightOf_l5_s, shr1 (by omega), bt_nI j (by omega), canStrike_ok hF (by omega), wtN, cN_bit h j (by omega), e10, pk_mul, pk_mul, ih (j + 1) _ (by omega), ih (j + 1) _ (by omega), ih (j + 1) _ (by omega)]
    cases i.testBit j
    · rw [if_neg (show ¬ (if false = true then (1 : Int32) else 0) = 1 by decide), if_neg (show ¬ false = true by decide)]
      by_cases e : h j = 0
      · rw [if_pos e, if_pos rfl, decide_eq_false (by simp [e])]; rfl
      · rw [if_neg e, if_neg one_ne, decide_eq_true e]; rfl
    · rw [if_pos (show (if true = true then (1 : Int32) else 0) = 1 by decide), if_pos rfl]
      by_cases e : h j = 0
      · rw [if_pos e, if_pos rfl, decide_eq_false (by simp [e])]; rfl
      · rw [if_neg e, if_neg one_ne, decide_eq_true e]; rfl
theorem below_l {n sp : Nat} {cl kd h : Nat → Nat} {now : Int32} {page : Nat → Int32} (hF : FRh n sp cl kd h now page) : ∀ (d j w : Nat), j + d = 4 → f_X5_wet_l32 now d j (nI w) = nI (bwN (cN (h 0) (h 1) (h 2) (h 3)) d j w) := by
  intro d
  induction d with
  | zero => intro j w _; rw [f_X5_wet_l32_z]; rfl
  | succ d ih =>
    intro j w hj
    have m1 : nI w * (1 : Int32) = nI (w * 1) := pk_mul w 1
    have m10 : nI w * (10 : Int32) = nI (w * 10) := pk_mul w 10
    rw [f_X5_wet_l32_s, canStrike_ok hF (by omega), bwN, cN_bit h j (by omega), m1, m10, ih (j + 1) _ (by omega), ih (j + 1) _ (by omega)]
    by_cases e : h j = 0
    · rw [if_pos e, if_pos rfl, decide_eq_false (by simp [e])]; rfl
    · rw [if_neg e, if_neg one_ne, decide_eq_true e]; rfl
/-- the heights after a blow at the columns below j that are in i -/
def hw (h : Nat → Nat) (i j c : Nat) : Nat := if c < j ∧ i.testBit c = true then h c - 1 else h c
theorem hadW_l {n sp : Nat} {cl kd h : Nat → Nat} {now : Int32} {page : Nat → Int32} (hF : FRh n sp cl kd h now page) {i : Nat} (hi : i < 16) : ∀ (d j : Nat) (po : Int32), j + d = 4 → (∀ k, k < 16 → bt po k = decide (k / 4 < hw h i j (k % 4))) → ∀ k, k < 16 → bt (f_X5_hadWithout_l10 now (nI i) d j po) k = decide (k / 4 < hw h i 4 (k % 4)) := by
  intro d
  induction d with
  | zero => intro j po hj hb k hk; rw [f_X5_hadWithout_l10_z, hb k hk, show j = 4 by omega]
  | succ d ih =>
    intro j po hj hb k hk
    have h4 := (hF.1 j (by omega)).2
    rw [f_X5_hadWithout_l10_s, shr1 (by omega), bt_nI j (by omega), canStrike_ok hF (by omega), height_ok hF (by omega)]
    have same : (i.testBit j = false ∨ h j = 0) → ∀ c, hw h i (j + 1) c = hw h i j c := by
      intro hx c
      unfold hw
      by_cases ec : c = j
      · subst ec
        rw [if_neg (show ¬ (c < c ∧ i.testBit c = true) by omega)]
        rcases hx with hx | hx
        · rw [hx, if_neg (by simp)]
        · rw [hx]; split <;> rfl
      · by_cases e2 : c < j
        · have e3 : c < j + 1 := by omega
          simp only [e2, e3]
        · rw [if_neg (fun a => by omega), if_neg (fun a => by omega)]
    cases hbit : i.testBit j
    · rw [if_neg (show ¬ (if false = true then (1 : Int32) else 0) = 1 by decide)]
      exact ih (j + 1) po (by omega) (fun k hk => by rw [hb k hk, same (Or.inl hbit)]) k hk
    · rw [if_pos (show (if true = true then (1 : Int32) else 0) = 1 by decide)]
      by_cases e : h j = 0
      · rw [if_pos e, if_pos rfl]
        exact ih (j + 1) po (by omega) (fun k hk => by rw [hb k hk, same (Or.inr e)]) k hk
      · rw [if_neg e, if_neg one_ne]
        have e1 : nI (h j) - 1 = nI (h j - 1) := pk_sub (b := 1) (by omega)
        rw [e1, cellBit_ok]
        refine ih (j + 1) _ (by omega) (fun k hk => ?_) k hk
        rw [b_and, bt_not (by omega), bt_one (by omega) (by omega), hb k hk]
        unfold hw
        by_cases ek : k % 4 = j
        · rw [if_neg (fun a => by omega), if_pos (show k % 4 < j + 1 ∧ i.testBit (k % 4) = true from ⟨by omega, by rw [ek]; exact hbit⟩), ek]
          by_cases e2 : k = 4 * (h j - 1) + j
          · rw [decide_eq_true e2, decide_eq_false (show ¬ k / 4 < h j - 1 by omega)]; simp
          · rw [decide_eq_false e2]
            by_cases e3 : k / 4 < h j
            · rw [decide_eq_true e3, decide_eq_true (by omega)]; rfl
            · rw [decide_eq_false e3, decide_eq_false (by omega)]; rfl
        · rw [decide_eq_false (show ¬ k = 4 * (h j - 1) + j by omega)]
          by_cases e2 : k % 4 < j
          · have e3 : k % 4 < j + 1 := by omega
            simp only [e2, e3, Bool.not_false, Bool.and_true]
          · rw [if_neg (fun a => by omega), if_neg (fun a => by omega)]; simp
theorem wet75 (i : Nat) (hi : i < 16) : ∀ (d j : Nat) (t : Nat → Int32) (k : Nat), j + d ≤ 4 → f_X6_wet_l75 i d j t k = if j ≤ k ∧ k < j + d then t k - (if i.testBit k then 1 else 0) else t k := by
  intro d
  induction d with
  | zero => intro j t k _; rw [f_X6_wet_l75_z, if_neg (by omega)]
  | succ d ih =>
    intro j t k hj
    rw [f_X6_wet_l75_s, ih (j + 1) _ k (by omega), shr1 (by omega), bt_nI j (by omega)]
    by_cases e : k = j
    · subst e; rw [if_neg (show ¬ (k + 1 ≤ k ∧ k < k + 1 + d) by omega), if_pos (show k ≤ k ∧ k < k + (d + 1) by omega), pk_us]
    · rw [pk_un e]
      by_cases h : j ≤ k ∧ k < j + (d + 1)
      · rw [if_pos h, if_pos (by omega)]
      · rw [if_neg h, if_neg (by omega)]
theorem wet_set {n sp : Nat} {cl kd h : Nat → Nat} {plain key stair air : Int32} {cells kinds lies kind : Nat → Int32} (hI : Idea n sp cl kd plain key stair air cells kinds lies kind) {now : Int32} {page : Nat → Int32} (hF : FRh n sp cl kd h now page) {i : Nat} (hi : i < 16) (hs : i &&& (15 - cN (h 0) (h 1) (h 2) (h 3)) = 0) (t : Nat → Int32) : f_J6_bitCount (f_X5_hadWithout now plain key stair air (nI i)) = f_X6_many ((f_X6_settle cl n lies kind (f_X6_wet_l75 i 4 0 (f_X6_begin page t))).2 5) := by
  unfold f_X5_hadWithout f_X6_settle
  dsimp only
  rw [pk_us]
  have hg : ∀ c, c < 4 → f_X6_wet_l75 i 4 0 (f_X6_begin page t) c = nI (hw h i 4 c) ∧ hw h i 4 c ≤ 4 := by
    intro c hc
    have hpc := hF.1 c hc
    rw [wet75 i hi 4 0 _ c (by omega), if_pos (by omega), begin_at page t c (by omega), hpc.1]
    unfold hw
    by_cases e : i.testBit c = true
    · have hb := sub_bit _ (cN_lt _ _ _ _) i hi hs c hc e
      rw [cN_bit h c hc, decide_eq_true_eq] at hb
      rw [if_pos e, if_pos ⟨hc, e⟩]
      exact ⟨pk_sub (b := 1) (by omega), by omega⟩
    · rw [if_neg e, if_neg (fun a => e a.2)]
      exact ⟨Int32.sub_zero _, hpc.2⟩
  have hr := stand_ref hI hg
  rw [show f_X6_wet_l75 i 4 0 (f_X6_begin page t) 5 = page 5 by rw [wet75 i hi 4 0 _ 5 (by omega), if_neg (by omega), begin_at page t 5 (by omega)]] at hr
  have hst := stand_cls hI (h := hw h i 4) (P := f_X5_hadWithout_l10 now (nI i) 4 0 (f_X1_poles now)) (had_bits (fun p hp => hI.c16 hp) hF) (fun k hk => hadW_l hF hi 4 0 _ (by omega) (fun k hk => by
    rw [poles_bits hF hk]
    unfold hw
    rw [if_neg (fun a => by omega)]) k hk)
  rw [had_ct hI hst.1 (fun p hp => (hst.2.1 p hp).1), many_ok, funext (fun p => lfp_one hst.2 hr p)]
theorem wet_l {n sp : Nat} {cl kd h : Nat → Nat} {plain key stair air : Int32} {cells kinds lies kind : Nat → Int32} (hI : Idea n sp cl kd plain key stair air cells kinds lies kind) {now : Int32} {page : Nat → Int32} (hF : FRh n sp cl kd h now page) (a1 : Int32) {a : Nat} (ha : a ≤ 10) : ∀ (d i s : Nat) (t : Nat → Int32), i + d = 16 → s ≤ 10000 * i → f_X5_wet_l74 now plain key stair air a1 (nI a) d i (nI s) = (f_X6_wet_l51 cl n lies kind page a1 (nI a) d i (nI s) t).1 ∧ ∃ A, A ≤ 160000 ∧ f_X5_wet_l74 now plain key stair air a1 (nI a) d i (nI s) = nI A := by
  intro d
  induction d with
  | zero => intro i s t hi hs; rw [f_X5_wet_l74_z, f_X6_wet_l51_z]; exact ⟨rfl, s, by omega, rfl⟩
  | succ d ih =>
    intro i s t hi hs
    have hC := cN_lt (h 0) (h 1) (h 2) (h 3)
    have hsub := sub_ok _ hC i (by omega)
    have hwt := wtN_ok _ hC i (by omega) a (by omega)
    have hw1 : f_X5_weightOf now (nI i) (nI a) = nI (wtN (cN (h 0) (h 1) (h 2) (h 3)) i a 4 0 1) := weight_l hF (by omega) ha 4 0 1 (by omega)
    rw [f_X5_wet_l74_s, f_X6_wet_l51_s, hw1, cols_ok hF.1, nI_add]
    by_cases e : i &&& (15 - cN (h 0) (h 1) (h 2) (h 3)) = 0
    · rw [if_pos (hsub.1.mpr e), ← wet_set hI hF (by omega) e t, Int32.add_zero]
      have e10 : (10 : Int32) - nI a = nI (10 - a) := pk_sub (a := 10) ha
      have hle := hsub.2.1 e
      rw [manyN (by omega), manyN (by omega), e10, pk_sub hle, powerN a (by omega) _ (by omega), powerN (10 - a) (by omega) _ (by omega), pk_mul, nI_add]
      have hv := hwt.1
      rw [if_pos e] at hv
      rw [← hv]
      by_cases e2 : f_J6_bitCount (f_X5_hadWithout now plain key stair air (nI i)) < a1
      · rw [if_pos e2, if_pos e2]; exact ih (i + 1) s _ (by omega) (by omega)
      · rw [if_neg e2, if_neg e2]; exact ih (i + 1) _ _ (by omega) (by omega)
    · rw [if_neg (fun a => e (hsub.1.mp a))]
      have hv := hwt.1
      rw [if_neg e] at hv
      rw [hv, show s + 0 = s from rfl, ite_self]
      exact ih (i + 1) s t (by omega) (by omega)
theorem op_wet (L sp n na tr : Nat) (cl kd : Nat → Nat) (now rains plain key stair air thrown place readStock readCells readParts soonMany soonWhich kindMany kindFirst restMany restFirst : Int32) (text triedAbout triedIs cells kinds frames rainsB kept keptF keptR lies kind readPart page trial book keptM isKept gains value : Nat → Int32) (seed : Int64) (a1 : Int32) (a2 : Int32) (a3 : Int32) (hz3 : a3 = 0 ∨ a3 = 1) (hC : Core L sp n na tr cl kd now rains plain key stair air text cells kinds frames rainsB triedIs kept keptF keptR lies kind page book keptM isKept) : (f_X5_wet now plain key stair air a1 a2 a3) = (f_X6_wet cl n lies kind page trial a1 a2 a3).1 ∧ LInv now rains (nI L) (nI sp) (nI n) plain key stair air (nI na) (nI tr) text cells kinds frames rainsB triedAbout triedIs kept keptF keptR seed (f_X6_wet cl n lies kind page trial a1 a2 a3).2.1 (nI L) place (nI sp) (nI n) readStock readCells readParts (nI na) (nI tr) soonMany soonWhich kindMany kindFirst restMany restFirst text lies kind readPart page (f_X6_wet cl n lies kind page trial a1 a2 a3).2.2 book keptM isKept triedAbout triedIs gains value seed := by
  have hI := hC.hI
  obtain ⟨h, hF⟩ := hC.hfr
  unfold f_X5_wet f_X6_wet
  rcases in32 a1 (m := 7) (M := 7) (by omega) rfl with ⟨c, hc, rfl, h1⟩ | ⟨h1, h2⟩
  · rw [if_neg h1, if_neg (nI_pos (by omega)), if_neg (show ¬ (7 : Int32) < nI c from nI_nlt (a := 7) hc (by omega))]
    rcases in32 a2 (m := 10) (M := 10) (by omega) rfl with ⟨a, ha, rfl, h3⟩ | ⟨h3, h4⟩
    · rw [if_neg h3, if_neg (nI_pos (by omega)), if_pos (show nI a ≤ (10 : Int32) from nI_le (b := 10) ha (by omega))]
      refine ⟨?_, linv hC⟩
      have hC16 := cN_lt (h 0) (h 1) (h 2) (h 3)
      have h4 := (sub_ok _ hC16 0 (by omega)).2.2
      have hl : f_X5_wet_l74 now plain key stair air (nI c) (nI a) 16 0 0 = (f_X6_wet_l51 cl n lies kind page (nI c) (nI a) 16 0 0 trial).1 ∧ ∃ A, A ≤ 160000 ∧ f_X5_wet_l74 now plain key stair air (nI c) (nI a) 16 0 0 = nI A := wet_l hI hF (nI c) ha 16 0 0 trial (by omega) (by omega)
      obtain ⟨e, A, hA, eA⟩ := hl
      have hb : f_X5_wet_l32 now 4 0 1 = nI (bwN (cN (h 0) (h 1) (h 2) (h 3)) 4 0 1) := below_l hF 4 0 1 (by omega)
      have hp : f_X6_power 10 (nI (ct7 (cN (h 0) (h 1) (h 2) (h 3)))) = nI (10 ^ ct7 (cN (h 0) (h 1) (h 2) (h 3))) := powerN 10 (by omega) _ (by omega)
      have hle : 10 ^ ct7 (cN (h 0) (h 1) (h 2) (h 3)) ≤ 10 ^ 4 := Nat.pow_le_pow_right (by omega) h4
      dsimp only
      rw [← e, eA, hb, bwN_ok _ hC16, cols_ok hF.1, manyN (by omega), hp]
      exact told_ok (by omega) (by omega) (Nat.pow_pos (by omega)) a3
    · rw [if_pos h4]
      by_cases h0 : a2 < 0
      · rw [if_pos h0]; exact ⟨rfl, linv hC⟩
      · rw [if_neg h0, if_neg (fun h5 => by
          rcases h3 with h3 | h3
          · exact h0 h3
          · exact absurd h5 (Int32.not_le.mpr h3))]
        exact ⟨rfl, linv hC⟩
  · rw [if_pos h2]
    by_cases h0 : a1 < 0
    · rw [if_pos h0]; exact ⟨rfl, linv hC⟩
    · rw [if_neg h0, if_pos (by
        rcases h1 with h1 | h1
        · exact absurd h1 h0
        · exact h1)]
      exact ⟨rfl, linv hC⟩
