theorem had_bits {n sp : Nat} {cl kd h : Nat → Nat} {fr : Int32} {pg : Nat → Int32} (hc : ∀ p, p < n → cl p < 16) (hF : FRh n sp cl kd h fr pg) (c : Nat) : bt (f_X1_had fr) c = true ↔ onB n cl (bt (pg 5)) c := by
  unfold f_X1_had
  rw [bt_ush16]
  rcases Nat.lt_or_ge c 16 with h1 | h1
  · exact hF.2.2.2.2.1 c h1
  · rw [b_big (by omega)]
    refine ⟨fun h => (by cases h), ?_⟩
    rintro ⟨p, hp, e, _⟩
    have := hc p hp
    omega
theorem poles_b (fr : Int32) (c : Nat) : bt (f_X1_poles fr) c = (bt fr c && decide (c < 16)) := by
  unfold f_X1_poles
  rw [b_and, b_65535]
theorem poles_bits {n sp : Nat} {cl kd h : Nat → Nat} {fr : Int32} {pg : Nat → Int32} (hF : FRh n sp cl kd h fr pg) {c : Nat} (hc : c < 16) : bt (f_X1_poles fr) c = decide (c / 4 < h (c % 4)) := by
  rw [poles_b, hF.2.2.2.1 c hc, decide_eq_true hc, Bool.and_true]
theorem of_lo (a b : Int32) {c : Nat} (hc : c < 16) : bt (f_X1_of a b) c = bt a c := by
  unfold f_X1_of
  rw [b_or, b_and, b_65535, bt_shl16 _ (by omega), decide_eq_true hc, decide_eq_false (by omega)]
  simp
theorem of_hi (a b : Int32) {c : Nat} (hc : c < 16) : bt (f_X1_of a b) (16 + c) = bt b c := by
  unfold f_X1_of
  rw [b_or, b_and, b_65535, bt_shl16 _ (by omega), decide_eq_false (by omega), decide_eq_true (by omega), show 16 + c - 16 = c by omega]
  simp
theorem h_dec : ∀ c, c < 4 → ∀ x, x < 5 → fb_ct (fun k => decide (k / 4 < x) && decide (k % 4 = c)) 16 = x := by decide +kernel
theorem height_ok {n sp : Nat} {cl kd h : Nat → Nat} {fr : Int32} {pg : Nat → Int32} (hF : FRh n sp cl kd h fr pg) {c : Nat} (hc : c < 4) : f_X1_height fr (nI c) = nI (h c) := by
  unfold f_X1_height
  rw [pop_ok (fun i hi => by rw [b_and, poles_b, decide_eq_false (by omega)]; simp)]
  have e : fb_ct (bt (f_X1_poles fr &&& shl 4369 (nI c))) 16 = fb_ct (fun k => decide (k / 4 < h c) && decide (k % 4 = c)) 16 := by
    apply fb_ct_cong
    intro k hk
    rw [b_and, poles_bits hF hk, bt_shl (by omega) (by omega), b_4369 _ (by omega)]
    by_cases h1 : k % 4 = c
    · rw [h1, decide_eq_true (show c ≤ k by omega), decide_eq_true (show k - c < 16 by omega), decide_eq_true (show (k - c) % 4 = 0 by omega)]
      simp
    · have : ¬ (c ≤ k ∧ (k - c) % 4 = 0) := by omega
      have e2 : (decide (c ≤ k) && (decide (k - c < 16) && decide ((k - c) % 4 = 0))) = false := by
        by_cases h2 : c ≤ k
        · rw [decide_eq_false (show ¬ (k - c) % 4 = 0 by omega)]; simp
        · rw [decide_eq_false h2]; simp
      rw [e2, decide_eq_false h1]; simp
  rw [e, h_dec c hc (h c) (by have := (hF.1 c hc).2; omega)]
theorem col4 : ∀ x, x < 5 → (if 0 < x then 1 else 0) + (if 1 < x then 1 else 0) + (if 2 < x then 1 else 0) + (if 3 < x then 1 else 0) = x := by decide
theorem poles_ct {h : Nat → Nat} (hh : ∀ c, c < 4 → h c ≤ 4) : fb_ct (fun k => decide (k / 4 < h (k % 4))) 16 = h 0 + h 1 + h 2 + h 3 := by
  have c0 := col4 (h 0) (by have := hh 0 (by omega); omega)
  have c1 := col4 (h 1) (by have := hh 1 (by omega); omega)
  have c2 := col4 (h 2) (by have := hh 2 (by omega); omega)
  have c3 := col4 (h 3) (by have := hh 3 (by omega); omega)
  simp only [fb_ct, decide_eq_true_eq, Nat.reduceDiv, Nat.reduceMod]
  generalize (if 0 < h 0 then 1 else 0) = x1 at *
  generalize (if 1 < h 0 then 1 else 0) = x2 at *
  generalize (if 2 < h 0 then 1 else 0) = x3 at *
  generalize (if 3 < h 0 then 1 else 0) = x4 at *
  generalize (if 0 < h 1 then 1 else 0) = y1 at *
  generalize (if 1 < h 1 then 1 else 0) = y2 at *
  generalize (if 2 < h 1 then 1 else 0) = y3 at *
  generalize (if 3 < h 1 then 1 else 0) = y4 at *
  generalize (if 0 < h 2 then 1 else 0) = z1 at *
  generalize (if 1 < h 2 then 1 else 0) = z2 at *
  generalize (if 2 < h 2 then 1 else 0) = z3 at *
  generalize (if 3 < h 2 then 1 else 0) = z4 at *
  generalize (if 0 < h 3 then 1 else 0) = w1 at *
  generalize (if 1 < h 3 then 1 else 0) = w2 at *
  generalize (if 2 < h 3 then 1 else 0) = w3 at *
  generalize (if 3 < h 3 then 1 else 0) = w4 at *
  omega
theorem polesN {n sp : Nat} {cl kd h : Nat → Nat} {fr : Int32} {pg : Nat → Int32} (hF : FRh n sp cl kd h fr pg) : f_J6_bitCount (f_X1_poles fr) = nI (h 0 + h 1 + h 2 + h 3) := by
  rw [pop_ok (fun i hi => by rw [poles_b, decide_eq_false (by omega)]; simp), fb_ct_cong (q := fun k => decide (k / 4 < h (k % 4))) (fun k hk => poles_bits hF hk), poles_ct (fun c hc => (hF.1 c hc).2)]
theorem store_ok {n sp : Nat} {cl kd h : Nat → Nat} {fr : Int32} {pg : Nat → Int32} (hF : FRh n sp cl kd h fr pg) : f_X2_store (nI sp) fr = nI (sp - (h 0 + h 1 + h 2 + h 3)) := by
  unfold f_X2_store
  rw [polesN hF, pk_sub hF.2.1]
theorem refPoles {n sp : Nat} {cl kd h : Nat → Nat} {fr : Int32} {pg : Nat → Int32} (hF : FRh n sp cl kd h fr pg) : f_X6_poles pg = nI (h 0 + h 1 + h 2 + h 3) := by
  unfold f_X6_poles
  rw [(hF.1 0 (by omega)).1, (hF.1 1 (by omega)).1, (hF.1 2 (by omega)).1, (hF.1 3 (by omega)).1, nI_add, nI_add, nI_add]
theorem cell_ct {cl : Nat → Nat} {T : Nat → Bool} : ∀ (n : Nat), (∀ i j, i < n → j < n → cl i = cl j → i = j) → (∀ p, p < n → cl p < 16) → ∀ q : Nat → Bool, (∀ c, c < 16 → (q c = true ↔ onB n cl T c)) → fb_ct q 16 = fb_ct T n := by
  intro n
  induction n with
  | zero =>
    intro _ _ q hq
    exact fb_ct_zero.mpr (fun k hk => by
      cases h : q k
      · rfl
      · obtain ⟨p, hp, _⟩ := (hq k hk).mp h
        omega)
  | succ n ih =>
    intro inj hc q hq
    have e0 := fb_ct_succ T n
    rw [e0]
    have hno : ¬ onB n cl T (cl n) := by
      rintro ⟨p, hp, e, _⟩
      have := inj p n (by omega) (by omega) e
      omega
    have h1 := ih (fun i j hi hj e => inj i j (by omega) (by omega) e) (fun p hp => hc p (by omega)) (fun c => if c = cl n then false else q c) (fun c hc' => by
      by_cases e : c = cl n
      · subst e; rw [if_pos rfl]; exact ⟨fun h => (by cases h), fun h => absurd h hno⟩
      · rw [if_neg e, hq c hc']
        constructor
        · rintro ⟨p, hp, e2, hT⟩
          refine ⟨p, ?_, e2, hT⟩
          by_cases e3 : p = n
          · subst e3; exact absurd e2.symm e
          · omega
        · rintro ⟨p, hp, e2, hT⟩
          exact ⟨p, by omega, e2, hT⟩)
    have h2 := fb_ct_upd q false (hc n (by omega))
    have h3 : q (cl n) = T n := by
      have := hq (cl n) (hc n (by omega))
      cases ha : T n
      · cases hb : q (cl n)
        · rfl
        · obtain ⟨p, hp, e, hT⟩ := this.mp hb
          have := inj p n hp (by omega) e
          subst this
          rw [ha] at hT; cases hT
      · exact this.mpr ⟨n, by omega, rfl, ha⟩
    rw [h3] at h2
    simp only [Bool.false_eq_true, if_false] at h2
    omega
theorem ct_cut {T : Nat → Bool} {n m : Nat} (hn : n ≤ m) (hT : ∀ p, T p = true → p < n) : fb_ct T m = fb_ct T n := by
  have h := fb_ct_split T n (m - n)
  rw [show n + (m - n) = m by omega] at h
  have z : fb_ct (fun k => T (n + k)) (m - n) = 0 := fb_ct_zero.mpr (fun k _ => by
    cases e : T (n + k)
    · rfl
    · have := hT _ e; omega)
  omega
theorem had_ct {n sp : Nat} {cl kd : Nat → Nat} {plain key stair air : Int32} {cells kinds lies kind : Nat → Int32} (hI : Idea n sp cl kd plain key stair air cells kinds lies kind) {H : Int32} {T : Nat → Bool} (hH : ∀ c, bt H c = true ↔ onB n cl T c) (hT : ∀ p, T p = true → p < n) : f_J6_bitCount H = nI (fb_ct T 7) := by
  rw [pop_ok (fun i hi => by
    cases e : bt H i
    · rfl
    · obtain ⟨p, hp, e2, _⟩ := (hH i).mp e
      have := hI.c16 hp
      omega), cell_ct n (fun i j hi hj e => hI.inj hi hj e) (fun p hp => hI.c16 hp) _ (fun c _ => hH c), ct_cut hI.1 hT]
theorem countHad_ok {n sp : Nat} {cl kd h : Nat → Nat} {plain key stair air : Int32} {cells kinds lies kind : Nat → Int32} (hI : Idea n sp cl kd plain key stair air cells kinds lies kind) {fr : Int32} {pg : Nat → Int32} (hF : FRh n sp cl kd h fr pg) : f_X1_countHad fr = f_X6_many (pg 5) := by
  unfold f_X1_countHad
  rw [had_ct hI (had_bits (fun p hp => hI.c16 hp) hF) hF.2.2.2.2.2.1, many_ok]
theorem partsAt_l {n sp : Nat} {cl kd : Nat → Nat} {plain key stair air : Int32} {cells kinds lies kind : Nat → Int32} (hI : Idea n sp cl kd plain key stair air cells kinds lies kind) (H : Int32) : ∀ (d i : Nat) (acc : Int32), i + d = 7 → ∀ k, k < 32 → bt (f_X2_partsAt_l4 cells H d i acc) k = (bt acc k || (decide (i ≤ k) && tp n cl H k)) := by
  have h7 : n ≤ 7 := hI.1
  intro d
  induction d with
  | zero =>
    intro i acc hi k hk
    rw [f_X2_partsAt_l4_z]
    cases e : (decide (i ≤ k) && tp n cl H k)
    · simp
    · rw [Bool.and_eq_true, tp_t, decide_eq_true_eq] at e; omega
  | succ d ih =>
    intro i acc hi k hk
    rw [f_X2_partsAt_l4_s]
    by_cases hin : i < n
    · have hce : cells i = nI (cl i) := hI.2.2.2.1 i hin
      have hc := hI.c16 hin
      rw [hce, if_neg (nI_ne9 (by omega)), shr1 (by omega)]
      cases hb : bt H (cl i)
      · rw [if_neg (by decide), ih (i + 1) acc (by omega) k hk]
        by_cases e : k = i
        · subst e
          rw [decide_eq_false (by omega), decide_eq_true (by omega)]
          have : tp n cl H k = false := by unfold tp; rw [hb]; simp
          rw [this]; simp
        · have : decide (i + 1 ≤ k) = decide (i ≤ k) := by
            by_cases h1 : i ≤ k
            · rw [decide_eq_true h1, decide_eq_true (by omega)]
            · rw [decide_eq_false h1, decide_eq_false (by omega)]
          rw [this]
      · rw [if_pos (by decide), ih (i + 1) _ (by omega) k hk, b_or, bt_one (by omega) hk]
        by_cases e : k = i
        · subst e
          have : tp n cl H k = true := tp_t.mpr ⟨hin, hb⟩
          rw [this]; simp
        · have : decide (i + 1 ≤ k) = decide (i ≤ k) := by
            by_cases h1 : i ≤ k
            · rw [decide_eq_true h1, decide_eq_true (by omega)]
            · rw [decide_eq_false h1, decide_eq_false (by omega)]
          rw [this, decide_eq_false e]; simp
    · have hce : cells i = -9 := hI.2.2.2.2.1 i (by omega) (by omega)
      rw [if_pos hce, ih (i + 1) acc (by omega) k hk]
      have z : ∀ b : Bool, (b && tp n cl H k) = true → k < n := by
        intro b hx
        rw [Bool.and_eq_true, tp_t] at hx; exact hx.2.1
      have z1 : (decide (i + 1 ≤ k) && tp n cl H k) = false := by
        cases e : (decide (i + 1 ≤ k) && tp n cl H k)
        · rfl
        · have := z _ e; rw [Bool.and_eq_true, decide_eq_true_eq] at e; omega
      have z2 : (decide (i ≤ k) && tp n cl H k) = false := by
        cases e : (decide (i ≤ k) && tp n cl H k)
        · rfl
        · have := z _ e; rw [Bool.and_eq_true, decide_eq_true_eq] at e; omega
      rw [z1, z2]
theorem partsAt_ok {n sp : Nat} {cl kd : Nat → Nat} {plain key stair air : Int32} {cells kinds lies kind : Nat → Int32} (hI : Idea n sp cl kd plain key stair air cells kinds lies kind) {H x : Int32} (hH : ∀ c, bt H c = true ↔ onB n cl (bt x) c) (hx : ∀ p, bt x p = true → p < n) : f_X2_partsAt cells H = x := by
  apply b_ext
  intro k hk
  unfold f_X2_partsAt
  rw [partsAt_l hI H 7 0 0 (by omega) k hk, b_0, decide_eq_true (by omega)]
  simp only [Bool.false_or, Bool.true_and]
  cases e : bt x k
  · cases e2 : tp n cl H k
    · rfl
    · rw [tp_t, hH] at e2
      obtain ⟨h1, p, hp, h3, h4⟩ := e2
      rw [hI.inj hp h1 h3, e] at h4; cases h4
  · have hk := hx k e
    exact tp_t.mpr ⟨hk, (hH _).mpr ⟨k, hk, rfl, e⟩⟩
/-- a frame made of poles and of the least closed set is the page that the reference settles -/
theorem FRh_mk {n sp : Nat} {cl kd h : Nat → Nat} {plain key stair air : Int32} {cells kinds lies kind : Nat → Int32} (hI : Idea n sp cl kd plain key stair air cells kinds lies kind) {g : Nat → Int32} {P R : Int32} {T : Nat → Bool} (hg : ∀ c, c < 4 → g c = nI (h c) ∧ h c ≤ 4) (hs : h 0 + h 1 + h 2 + h 3 ≤ sp) (h4 : g 4 = nI (sp - (h 0 + h 1 + h 2 + h 3))) (hP : ∀ c, c < 16 → bt P c = decide (c / 4 < h (c % 4))) (hT : IsLfp n cl kd h (bt (g 5)) T) (hR : ∀ c, c < 16 → (bt R c = true ↔ onB n cl T c)) : FRh n sp cl kd h (f_X1_of P R) (upd g 5 (f_X6_standing cl n g lies kind)) := by
  have hS := stand_ref hI hg
  have e : bt (upd g 5 (f_X6_standing cl n g lies kind) 5) = T := by
    rw [pk_us]
    exact funext (fun p => lfp_one hS hT p)
  refine ⟨fun c hc => ?_, hs, ?_, fun c hc => ?_, fun c hc => ?_, fun p hp => ?_, ?_⟩
  · rw [pk_un (by omega)]; exact hg c hc
  · rw [pk_un (by omega)]; exact h4
  · rw [of_lo _ _ hc]; exact hP c hc
  · rw [of_hi _ _ hc, e]; exact hR c hc
  · rw [e] at hp; exact (hT.1 p hp).1
  · rw [e]; exact lfp_self hT
theorem cellBit_ok (c r : Nat) : f_X1_cellBit (nI c) (nI r) = shl 1 (nI (4 * r + c)) := by
  unfold f_X1_cellBit
  rw [show (4 : Int32) = nI 4 from rfl, pk_mul, nI_add]
def hset (h : Nat → Nat) (c v : Nat) (j : Nat) : Nat := if j = c then v else h j
theorem hset_sum {h : Nat → Nat} {c v : Nat} (hc : c < 4) : hset h c v 0 + hset h c v 1 + hset h c v 2 + hset h c v 3 + h c = h 0 + h 1 + h 2 + h 3 + v := by
  unfold hset
  match c, hc with
  | 0, _ => simp; omega
  | 1, _ => simp; omega
  | 2, _ => simp; omega
  | 3, _ => simp; omega
  | c + 4, h => exact absurd h (by omega)
theorem strike_ok {n sp : Nat} {cl kd h : Nat → Nat} {plain key stair air : Int32} {cells kinds lies kind : Nat → Int32} (hI : Idea n sp cl kd plain key stair air cells kinds lies kind) {fr : Int32} {pg : Nat → Int32} (hF : FRh n sp cl kd h fr pg) {c : Nat} (hc : c < 4) (h1 : 1 ≤ h c) : FRh n sp cl kd (hset h c (h c - 1)) (f_X2_withStruck plain key stair air fr (nI c)) (f_X6_goStrike cl n c lies kind pg).2 := by
  have hs := hset_sum (h := h) (v := h c - 1) hc
  have hh : ∀ j, j < 4 → hset h c (h c - 1) j ≤ 4 := by
    intro j hj; unfold hset
    have a := (hF.1 j hj).2
    have b := (hF.1 c hc).2
    split <;> omega
  unfold f_X2_withStruck f_X6_goStrike f_X6_settle
  have e1 : f_X1_height fr (nI c) - 1 = nI (h c - 1) := by
    rw [height_ok hF hc]; exact pk_sub (b := 1) h1
  rw [e1, cellBit_ok]
  have hP : ∀ k, k < 16 → bt (f_X1_poles fr &&& (shl 1 (nI (4 * (h c - 1) + c)) ^^^ -1)) k = decide (k / 4 < hset h c (h c - 1) (k % 4)) := by
    intro k hk
    have hc4 := (hF.1 c hc).2
    rw [b_and, bt_not (by omega), bt_one (by omega) (by omega), poles_bits hF hk]
    unfold hset
    by_cases e : k % 4 = c
    · rw [if_pos e, e]
      by_cases e2 : k = 4 * (h c - 1) + c
      · rw [decide_eq_true e2, decide_eq_false (show ¬ k / 4 < h c - 1 by omega)]; simp
      · rw [decide_eq_false e2]
        by_cases e3 : k / 4 < h c
        · rw [decide_eq_true e3, decide_eq_true (by omega)]; rfl
        · rw [decide_eq_false e3, decide_eq_false (by omega)]; rfl
    · rw [if_neg e, decide_eq_false (show ¬ k = 4 * (h c - 1) + c by omega)]; simp
  have hst := stand_cls hI (had_bits (fun p hp => hI.c16 hp) hF) hP
  have e5 : (upd (upd pg c (pg c - 1)) 4 ((upd pg c (pg c - 1)) 4 + 1)) 5 = pg 5 := by
    rw [pk_un (by omega), pk_un (by omega)]
  refine FRh_mk hI (fun j hj => ⟨?_, hh j hj⟩) (by have := hF.2.1; omega) ?_ hP (by rw [e5]; exact hst.2) (fun k _ => hst.1 k)
  · rw [pk_un (by omega)]
    unfold hset
    by_cases e : j = c
    · subst e; rw [pk_us, if_pos rfl, (hF.1 j hj).1]; exact pk_sub (b := 1) h1
    · rw [pk_un e, if_neg e, (hF.1 j hj).1]
  · rw [pk_us, pk_un (by omega), hF.2.2.1, nI_1]
    congr 1
    have := hF.2.1
    omega
theorem put_ok {n sp : Nat} {cl kd h : Nat → Nat} {plain key stair air : Int32} {cells kinds lies kind : Nat → Int32} (hI : Idea n sp cl kd plain key stair air cells kinds lies kind) {fr : Int32} {pg : Nat → Int32} (hF : FRh n sp cl kd h fr pg) {c : Nat} (hc : c < 4) (h1 : h c < 4) (h2 : h 0 + h 1 + h 2 + h 3 < sp) : (f_X6_goPut cl n c lies kind pg).1 = 1 ∧ FRh n sp cl kd (hset h c (h c + 1)) (f_X2_withPut plain key stair air fr (nI c)) (f_X6_goPut cl n c lies kind pg).2 := by
  have hs := hset_sum (h := h) (v := h c + 1) hc
  have h9 : sp ≤ 9 := hI.2.1
  have h7 : n ≤ 7 := hI.1
  have hh : ∀ j, j < 4 → hset h c (h c + 1) j ≤ 4 := by
    intro j hj; unfold hset
    have a := (hF.1 j hj).2
    split <;> omega
  have hup : ∀ j, h j ≤ hset h c (h c + 1) j := by
    intro j; unfold hset; split
    · next e => subst e; omega
    · omega
  unfold f_X2_withPut f_X6_goPut
  rw [if_neg (by rw [hF.2.2.1]; exact nI_ne0 (by omega) (by omega)), if_neg (by rw [(hF.1 c hc).1, show (4 : Int32) = nI 4 from rfl, nI_eq (by omega) (by omega)]; omega), height_ok hF hc, cellBit_ok]
  have et : 4 * pg c + nI c = nI (4 * h c + c) := by
    rw [(hF.1 c hc).1, show (4 : Int32) = nI 4 from rfl, pk_mul, nI_add]
  rw [et]
  have hP : ∀ k, k < 16 → bt (f_X1_poles fr ||| shl 1 (nI (4 * h c + c))) k = decide (k / 4 < hset h c (h c + 1) (k % 4)) := by
    intro k hk
    rw [b_or, bt_one (by omega) (by omega), poles_bits hF hk]
    unfold hset
    by_cases e : k % 4 = c
    · rw [if_pos e, e]
      by_cases e2 : k = 4 * h c + c
      · rw [decide_eq_true e2, decide_eq_true (show k / 4 < h c + 1 by omega)]; simp
      · rw [decide_eq_false e2]
        by_cases e3 : k / 4 < h c
        · rw [decide_eq_true e3, decide_eq_true (by omega)]; rfl
        · rw [decide_eq_false e3, decide_eq_false (by omega)]; rfl
    · rw [if_neg e, decide_eq_false (show ¬ k = 4 * h c + c by omega)]; simp
  have hall : ∀ p, p < n → bt (((plain ||| key) ||| stair) ||| air) (cl p) = true := by
    intro p hp
    have hk := (hI.2.2.2.2.2.2.1 p hp).2.2
    rw [b_or, b_or, b_or, Bool.or_eq_true, Bool.or_eq_true, Bool.or_eq_true, hI.plain hp, hI.key hp, hI.stair hp, hI.air hp]
    omega
  have hall2 : ∀ k, k < 32 → bt (((plain ||| key) ||| stair) ||| air) k = true → ∃ p, p < n ∧ cl p = k := by
    intro k hk hx
    rw [b_or, b_or, b_or, Bool.or_eq_true, Bool.or_eq_true, Bool.or_eq_true] at hx
    rcases hx with ((a | a) | a) | a
    · obtain ⟨p, h1, h2, _⟩ := (hI.2.2.2.2.2.2.2.1 k hk).mp a; exact ⟨p, h1, h2⟩
    · obtain ⟨p, h1, h2, _⟩ := (hI.2.2.2.2.2.2.2.2.1 k hk).mp a; exact ⟨p, h1, h2⟩
    · obtain ⟨p, h1, h2, _⟩ := (hI.2.2.2.2.2.2.2.2.2.1 k hk).mp a; exact ⟨p, h1, h2⟩
    · obtain ⟨p, h1, h2, _⟩ := (hI.2.2.2.2.2.2.2.2.2.2 k hk).mp a; exact ⟨p, h1, h2⟩
  /- the new set x of parts: what was had, and the part at the new pole -/
  have main : ∀ x : Int32, (∀ p, bt x p = true ↔ bt (pg 5) p = true ∨ (p < n ∧ cl p = 4 * h c + c)) → FRh n sp cl kd (hset h c (h c + 1)) (f_X1_of (f_X1_poles fr ||| shl 1 (nI (4 * h c + c))) (f_X1_had fr ||| (shl 1 (nI (4 * h c + c)) &&& (((plain ||| key) ||| stair) ||| air)))) (f_X6_settle cl n lies kind (upd (upd (upd pg 5 x) c ((upd pg 5 x) c + 1)) 4 ((upd (upd pg 5 x) c ((upd pg 5 x) c + 1)) 4 - 1))).2 := by
    intro x hx
    unfold f_X6_settle
    have e5 : (upd (upd (upd pg 5 x) c ((upd pg 5 x) c + 1)) 4 ((upd (upd pg 5 x) c ((upd pg 5 x) c + 1)) 4 - 1)) 5 = x := by
      rw [pk_un (by omega), pk_un (by omega), pk_us]
    have hl : IsLfp n cl kd (hset h c (h c + 1)) (bt x) (bt x) := by
      refine ⟨fun p hp => ⟨?_, hp⟩, fun p _ hp _ => hp, fun T' hT p hp => ?_⟩
      · rcases (hx p).mp hp with a | a
        · exact hF.2.2.2.2.2.1 p a
        · exact a.1
      · rcases (hx p).mp hp with a | a
        · refine hF.2.2.2.2.2.2.2.2 T' (fun q hq hh hs => ?_) p a
          exact hT q hq ((hx q).mpr (Or.inl hh)) (std_mono (fun _ h => h) hup hs)
        · refine hT p a.1 hp (Or.inr (Or.inl ?_))
          rw [a.2]
          unfold hset
          rw [if_pos (by omega)]
          omega
    refine FRh_mk hI (T := bt x) (fun j hj => ⟨?_, hh j hj⟩) (by omega) ?_ hP (by rw [e5]; exact hl) (fun k hk => ?_)
    · rw [pk_un (by omega)]
      unfold hset
      by_cases e : j = c
      · subst e; rw [pk_us, if_pos rfl, pk_un (by omega), (hF.1 j hj).1, nI_1]
      · rw [pk_un e, if_neg e, pk_un (by omega), (hF.1 j hj).1]
    · rw [pk_us, pk_un (by omega), pk_un (by omega), hF.2.2.1]
      have : nI (sp - (h 0 + h 1 + h 2 + h 3)) - nI 1 = _ := pk_sub (by omega)
      rw [show (1 : Int32) = nI 1 from rfl, this]
      congr 1
      omega
    · rw [b_or, Bool.or_eq_true, had_bits (fun p hp => hI.c16 hp) hF, b_and, bt_one (by omega) (by omega), Bool.and_eq_true, decide_eq_true_eq]
      constructor
      · rintro (⟨p, a, b, d⟩ | ⟨a, b⟩)
        · exact ⟨p, a, b, (hx p).mpr (Or.inl d)⟩
        · obtain ⟨p, d, e⟩ := hall2 k (by omega) b
          exact ⟨p, d, e, (hx p).mpr (Or.inr ⟨d, by omega⟩)⟩
      · rintro ⟨p, a, b, d⟩
        rcases (hx p).mp d with d | d
        · exact Or.inl ⟨p, a, b, d⟩
        · exact Or.inr ⟨by omega, by rw [← b]; exact hall p a⟩
  rcases hI.at_cases (c := 4 * h c + c) (by omega) with ⟨p, hp, hpc, e⟩ | ⟨hno, e⟩
  · rw [e, if_neg (nI_ne9 (by omega))]
    refine ⟨rfl, main _ (fun q => ?_)⟩
    rcases Nat.lt_or_ge q 32 with hq | hq
    · rw [b_or, bt_one (by omega) hq, Bool.or_eq_true, decide_eq_true_eq]
      constructor
      · rintro (a | a)
        · exact Or.inl a
        · subst a; exact Or.inr ⟨hp, hpc⟩
      · rintro (a | a)
        · exact Or.inl a
        · exact Or.inr (hI.inj a.1 hp (by omega))
    · rw [b_big hq, b_big hq]
      refine ⟨fun a => (by cases a), fun a => ?_⟩
      rcases a with a | a
      · cases a
      · omega
  · rw [e, if_pos rfl]
    refine ⟨rfl, main _ (fun q => ?_)⟩
    rw [b_or, b_0, Bool.or_false]
    refine ⟨Or.inl, fun a => ?_⟩
    rcases a with a | a
    · exact a
    · exact absurd a.2 (hno q a.1)
