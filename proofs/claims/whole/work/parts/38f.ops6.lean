theorem gain_l {n sp : Nat} {cl kd : Nat → Nat} {plain key stair air : Int32} {cells kinds lies kind : Nat → Int32} (hI : Idea n sp cl kd plain key stair air cells kinds lies kind) {c : Nat} (hc : c < 4) (t : Nat → Int32) : ∀ (d i k : Nat), i + d ≤ n → f_X6_gain_l4 c lies t d i (nI k) = nI (k + fb_ct (fun j => decide (cl (i + j) % 4 = c) && bt (t 5) (i + j)) d) := by
  intro d
  induction d with
  | zero => intro i k _; rw [f_X6_gain_l4_z]; rfl
  | succ d ih =>
    intro i k hi
    have h7 := hI.1
    have hl := hI.2.2.1 i (by omega)
    have e1 : jr (lies i) (4 : Int32) = nI (cl i % 4) := by rw [hl.1]; exact jr_nI (d := 4) (by omega) (by omega) (by omega)
    have ec : fb_ct (fun j => decide (cl (i + j) % 4 = c) && bt (t 5) (i + j)) (d + 1) = (if (decide (cl i % 4 = c) && bt (t 5) i) then 1 else 0) + fb_ct (fun j => decide (cl (i + 1 + j) % 4 = c) && bt (t 5) (i + 1 + j)) d := by
      have h1 := fb_ct_split (fun j => decide (cl (i + j) % 4 = c) && bt (t 5) (i + j)) 1 d
      rw [Nat.add_comm 1 d] at h1
      rw [h1]
      have h2 : fb_ct (fun j => decide (cl (i + j) % 4 = c) && bt (t 5) (i + j)) 1 = if (decide (cl i % 4 = c) && bt (t 5) i) then 1 else 0 := by
        rw [fb_ct_succ]; simp [fb_ct]
      rw [h2]
      exact congrArg _ (fb_ct_cong (fun j _ => by rw [Nat.add_assoc]))
    rw [f_X6_gain_l4_s, e1, ec]
    have q : nI (cl i % 4) = nI c ↔ cl i % 4 = c := nI_eq (by omega) (by omega)
    by_cases e : cl i % 4 = c
    · rw [if_pos (q.mpr e), decide_eq_true e, Bool.true_and]
      cases hb : bt (t 5) i
      · rw [if_pos ((has_f (by omega) _).mpr hb), Int32.add_zero, ih (i + 1) k (by omega)]
        simp
      · rw [if_neg ((has_t (by omega) _).mpr hb), nI_1, ih (i + 1) (k + 1) (by omega), if_pos rfl, Nat.add_assoc]
    · rw [if_neg (fun a => e (q.mp a)), Int32.add_zero, ih (i + 1) k (by omega), decide_eq_false e]
      simp
theorem worth_ok {n sp : Nat} {cl kd : Nat → Nat} {plain key stair air : Int32} {cells kinds lies kind : Nat → Int32} (hI : Idea n sp cl kd plain key stair air cells kinds lies kind) {fr : Int32} {t : Nat → Int32} (hF : FR n sp cl kd fr t) {c : Nat} (hc : c < 4) : f_X5_worth fr (nI c) = f_X6_gain n c lies t := by
  obtain ⟨h, hF⟩ := hF
  unfold f_X5_worth f_X6_gain
  rw [height_ok hF hc, (hF.1 c hc).1]
  have e1 : f_X6_gain_l4 c lies t n 0 0 = nI (0 + fb_ct (fun j => decide (cl (0 + j) % 4 = c) && bt (t 5) (0 + j)) n) := gain_l hI hc t n 0 0 (by omega)
  have hb : ∀ k, bt (f_X1_had fr &&& shl 4369 (nI c)) k = true ↔ onB n cl (fun p => decide (p < n) && (decide (cl p % 4 = c) && bt (t 5) p)) k := by
    intro k
    rw [b_and, Bool.and_eq_true, had_bits (fun p hp => hI.c16 hp) hF]
    constructor
    · rintro ⟨⟨p, hp, e, hx⟩, hm⟩
      have hk : cl p < 16 := hI.c16 hp
      have e' : cl p = k := e
      rw [bt_shl (by omega) (by omega), b_4369 _ (by omega), Bool.and_eq_true, Bool.and_eq_true, decide_eq_true_eq, decide_eq_true_eq, decide_eq_true_eq] at hm
      refine ⟨p, hp, e, ?_⟩
      show (decide (p < n) && (decide (cl p % 4 = c) && bt (t 5) p)) = true
      rw [decide_eq_true hp, hx, decide_eq_true (show cl p % 4 = c by omega)]; rfl
    · rintro ⟨p, hp, e, hx⟩
      have hk : cl p < 16 := hI.c16 hp
      rw [Bool.and_eq_true, Bool.and_eq_true, decide_eq_true_eq, decide_eq_true_eq] at hx
      refine ⟨⟨p, hp, e, hx.2.2⟩, ?_⟩
      rw [bt_shl (by omega) (by omega), b_4369 _ (by omega), Bool.and_eq_true, Bool.and_eq_true, decide_eq_true_eq, decide_eq_true_eq, decide_eq_true_eq]
      omega
  rw [e1, had_ct hI hb (fun p hp => by rw [Bool.and_eq_true, decide_eq_true_eq] at hp; exact hp.1), ct_cut hI.1 (fun p hp => by rw [Bool.and_eq_true, decide_eq_true_eq] at hp; exact hp.1), Nat.zero_add, fb_ct_cong (q := fun j => decide (cl (0 + j) % 4 = c) && bt (t 5) (0 + j)) (fun k hk => by rw [decide_eq_true hk, Nat.zero_add]; rfl)]
theorem gains_l {n sp : Nat} {cl kd : Nat → Nat} {plain key stair air : Int32} {cells kinds lies kind : Nat → Int32} (hI : Idea n sp cl kd plain key stair air cells kinds lies kind) {now : Int32} {page : Nat → Int32} (hF : FR n sp cl kd now page) {c1 c2 : Nat} (h1 : c1 < 4) (h2 : c2 < 4) : ∀ (d i : Nat) (t ga : Nat → Int32), i + d ≤ 9 → (∀ k, ¬ (2 * i ≤ k ∧ k < 2 * (i + d)) → (f_X6_rests_l42 cl n lies kind page (nI c1) (nI c2) d i t ga).2 k = ga k) ∧ ∀ x, i ≤ x → x < i + d → (f_X6_rests_l42 cl n lies kind page (nI c1) (nI c2) d i t ga).2 (2 * x) = f_X5_worth (f_X5_withChoices now (nI sp) plain key stair air (nI c1) (nI (x / 3)) (nI c2) (nI (x % 3))) (nI c1) ∧ (f_X6_rests_l42 cl n lies kind page (nI c1) (nI c2) d i t ga).2 (2 * x + 1) = f_X5_worth (f_X5_withChoices now (nI sp) plain key stair air (nI c1) (nI (x / 3)) (nI c2) (nI (x % 3))) (nI c2) := by
  intro d
  induction d with
  | zero => intro i t ga _; rw [f_X6_rests_l42_z]; exact ⟨fun _ _ => rfl, fun x h3 h4 => by omega⟩
  | succ d ih =>
    intro i t ga hi
    rw [f_X6_rests_l42_s, nI_clamp (by omega), nI_clamp (by omega)]
    have hF1 : FR n sp cl kd now (f_X6_begin page t) := FR_congr (fun k hk => begin_at page t k (by omega)) hF
    have hF2 : FR n sp cl kd (f_X5_withChoices now (nI sp) plain key stair air (nI c1) (nI (i / 3)) (nI c2) (nI (i % 3))) (f_X6_chooses cl n c2 lies kind (f_X6_chooses cl n c1 lies kind (f_X6_begin page t) (nI (i / 3))) (nI (i % 3))) := choice_ok hI (choice_ok hI hF1 h1 (by omega)) h2 (by omega)
    rw [← worth_ok hI hF2 h1, ← worth_ok hI hF2 h2]
    obtain ⟨i1, i2⟩ := ih (i + 1) (f_X6_chooses cl n c2 lies kind (f_X6_chooses cl n c1 lies kind (f_X6_begin page t) (nI (i / 3))) (nI (i % 3))) (upd (upd ga (2 * i) (f_X5_worth (f_X5_withChoices now (nI sp) plain key stair air (nI c1) (nI (i / 3)) (nI c2) (nI (i % 3))) (nI c1))) (2 * i + 1) (f_X5_worth (f_X5_withChoices now (nI sp) plain key stair air (nI c1) (nI (i / 3)) (nI c2) (nI (i % 3))) (nI c2))) (by omega)
    refine ⟨fun k hk => ?_, fun x h3 h4 => ?_⟩
    · rw [i1 k (by omega), pk_un (by omega), pk_un (by omega)]
    · by_cases e : x = i
      · subst e
        rw [i1 _ (by omega), i1 _ (by omega), pk_un (by omega), pk_us, pk_us]
        exact ⟨rfl, rfl⟩
      · exact i2 x (by omega) (by omega)
theorem rest134 {now sp plain key stair air a1 a2 : Int32} {ga : Nat → Int32} (hg : ∀ x, x < 9 → ga (2 * x) = f_X5_worth (f_X5_withChoices now sp plain key stair air a1 (nI (x / 3)) a2 (nI (x % 3))) a1 ∧ ga (2 * x + 1) = f_X5_worth (f_X5_withChoices now sp plain key stair air a1 (nI (x / 3)) a2 (nI (x % 3))) a2) {k m : Nat} (hk : k < 3) (hm : m < 3) : ∀ (d j : Nat), j + d = 3 → f_X6_rests_l134 ga (3 * k + m) d j 0 = 0 ∧ f_X6_rests_l134 ga (3 * k + m) d j 1 = f_X5_isRest_l30 now sp plain key stair air a1 a2 (nI k) (nI m) d j := by
  intro d
  induction d with
  | zero => intro j _; rw [f_X6_rests_l134_z, f_X6_rests_l134_z, f_X5_isRest_l30_z]; exact ⟨rfl, rfl⟩
  | succ d ih =>
    intro j hj
    have hi := ih (j + 1) (by omega)
    rw [f_X6_rests_l134_s, f_X6_rests_l134_s, f_X5_isRest_l30_s, if_pos rfl, if_neg one_ne, hi.1, hi.2]
    refine ⟨rfl, ?_⟩
    have g1 := hg (3 * k + m) (by omega)
    have g2 := hg (3 * j + m) (by omega)
    have g3 := hg (3 * k + j) (by omega)
    rw [show (3 * k + m) / 3 = k by omega, show (3 * k + m) % 3 = m by omega] at g1
    rw [show (3 * j + m) / 3 = j by omega, show (3 * j + m) % 3 = m by omega] at g2
    rw [show (3 * k + j) / 3 = k by omega, show (3 * k + j) % 3 = j by omega] at g3
    rw [show (3 * k + m) % 3 = m by omega, show 3 * k + m - m + j = 3 * k + j by omega, g1.1, g1.2, g2.1, g3.2]
    by_cases e : f_X5_worth (f_X5_withChoices now sp plain key stair air a1 (nI k) a2 (nI m)) a1 < f_X5_worth (f_X5_withChoices now sp plain key stair air a1 (nI j) a2 (nI m)) a1
    · rw [if_pos e, if_pos e]
    · rw [if_neg e, if_neg e]
      by_cases e2 : f_X5_worth (f_X5_withChoices now sp plain key stair air a1 (nI k) a2 (nI m)) a2 < f_X5_worth (f_X5_withChoices now sp plain key stair air a1 (nI k) a2 (nI j)) a2
      · rw [if_pos e2, if_neg (Int32.not_le.mpr e2)]
      · rw [if_neg e2, if_pos (Int32.not_lt.mp e2)]
theorem rest50 {now sp plain key stair air a1 a2 : Int32} {ga : Nat → Int32} (hg : ∀ x, x < 9 → ga (2 * x) = f_X5_worth (f_X5_withChoices now sp plain key stair air a1 (nI (x / 3)) a2 (nI (x % 3))) a1 ∧ ga (2 * x + 1) = f_X5_worth (f_X5_withChoices now sp plain key stair air a1 (nI (x / 3)) a2 (nI (x % 3))) a2) {k : Nat} (hk : k < 3) (r : Nat) : ∀ (d j : Nat) (km kf : Int32), j + d = 3 → f_X6_rests_l121 ga (r + d) (3 * k + j) km kf = f_X6_rests_l121 ga r (3 * k + 3) (f_X5_rests_l50 now sp plain key stair air a1 a2 k d j km kf).1 (f_X5_rests_l50 now sp plain key stair air a1 a2 k d j km kf).2 := by
  intro d
  induction d with
  | zero => intro j km kf hj; rw [f_X5_rests_l50_z, show j = 3 by omega]; rfl
  | succ d ih =>
    intro j km kf hj
    have h42 := (rest134 hg hk (show j < 3 by omega) 3 0 (by omega)).2
    rw [← Nat.add_assoc, f_X6_rests_l121_s, f_X5_rests_l50_s, h42, show (3 * k + j) / 3 = k by omega, show (3 * k + j) % 3 = j by omega, Nat.add_assoc]
    unfold f_X5_isRest
    by_cases ea : f_X5_isRest_l30 now sp plain key stair air a1 a2 (nI k) (nI j) 3 0 = 0
    · rw [if_pos ea, if_pos ea, if_pos ea, Int32.add_zero]
      exact ih (j + 1) km kf (by omega)
    · rw [if_neg ea, if_neg ea, if_neg ea, if_neg ea]
      by_cases e0 : km = 0
      · rw [if_pos e0, if_pos e0]; exact ih (j + 1) _ _ (by omega)
      · rw [if_neg e0, if_neg e0]; exact ih (j + 1) _ _ (by omega)
theorem rest41 {now sp plain key stair air a1 a2 : Int32} {ga : Nat → Int32} (hg : ∀ x, x < 9 → ga (2 * x) = f_X5_worth (f_X5_withChoices now sp plain key stair air a1 (nI (x / 3)) a2 (nI (x % 3))) a1 ∧ ga (2 * x + 1) = f_X5_worth (f_X5_withChoices now sp plain key stair air a1 (nI (x / 3)) a2 (nI (x % 3))) a2) : ∀ (D k : Nat) (km kf : Int32), k + D = 3 → f_X6_rests_l121 ga (3 * D) (3 * k) km kf = f_X5_rests_l41 now sp plain key stair air a1 a2 D k km kf := by
  intro D
  induction D with
  | zero => intro k km kf _; rw [f_X5_rests_l41_z]; exact f_X6_rests_l121_z
  | succ D ih =>
    intro k km kf hk
    rw [f_X5_rests_l41_s, ← ih (k + 1) _ _ (by omega)]
    exact rest50 hg (show k < 3 by omega) (3 * D) 3 0 km kf (by omega)
theorem op_rests (L sp n na tr : Nat) (cl kd : Nat → Nat) (now rains plain key stair air thrown place readStock readCells readParts soonMany soonWhich kindMany kindFirst restMany restFirst : Int32) (text triedAbout triedIs cells kinds frames rainsB kept keptF keptR lies kind readPart page trial book keptM isKept gains value : Nat → Int32) (seed : Int64) (a1 : Int32) (a2 : Int32) (a3 : Int32) (hC : Core L sp n na tr cl kd now rains plain key stair air text cells kinds frames rainsB triedIs kept keptF keptR lies kind page book keptM isKept) : (f_X5_rests now (nI sp) plain key stair air a1 a2 a3) = (f_X6_rests cl n restMany restFirst lies kind page trial gains a1 a2 a3).1 ∧ LInv now rains (nI L) (nI sp) (nI n) plain key stair air (nI na) (nI tr) text cells kinds frames rainsB triedAbout triedIs kept keptF keptR seed (f_X6_rests cl n restMany restFirst lies kind page trial gains a1 a2 a3).2.1 (nI L) place (nI sp) (nI n) readStock readCells readParts (nI na) (nI tr) soonMany soonWhich kindMany kindFirst (f_X6_rests cl n restMany restFirst lies kind page trial gains a1 a2 a3).2.2.2.2.1 (f_X6_rests cl n restMany restFirst lies kind page trial gains a1 a2 a3).2.2.2.2.2 text lies kind readPart page (f_X6_rests cl n restMany restFirst lies kind page trial gains a1 a2 a3).2.2.1 book keptM isKept triedAbout triedIs (f_X6_rests cl n restMany restFirst lies kind page trial gains a1 a2 a3).2.2.2.1 value seed := by
  have hI := hC.hI
  unfold f_X5_rests f_X6_rests
  rcases col_cases a1 with ⟨c1, hc1, rfl, h1, h2⟩ | ⟨h1, h2⟩
  · rw [if_neg h1, if_pos h2]
    rcases col_cases a2 with ⟨c2, hc2, rfl, h3, h4⟩ | ⟨h3, h4⟩
    · rw [if_neg h3, if_pos h4]
      by_cases e : nI c1 = nI c2
      · rw [if_pos e, if_pos e]; exact ⟨rfl, linv hC⟩
      · rw [if_neg e, if_neg e]
        rcases count_cases a3 with ⟨h5, h6⟩ | ⟨h5, h6⟩
        · rw [if_pos h5, if_pos h6]; exact ⟨rfl, linv hC⟩
        · rw [if_neg h5, if_neg h6]
          have hg := gains_l hI hC.hfr hc1 hc2 9 0 trial gains (by omega)
          have hs := rest41 (fun x hx => hg.2 x (by omega) (by omega)) 3 0 0 (-9) (by omega)
          rw [show 3 * 3 = 9 from rfl, show 3 * 0 = 0 from rfl] at hs
          rw [hs]
          by_cases e0 : a3 = 0
          · rw [if_pos e0, if_pos e0]; exact ⟨rfl, linv hC⟩
          · rw [if_neg e0, if_neg e0]; exact ⟨rfl, linv hC⟩
    · rw [if_pos h3, if_neg h4]; exact ⟨rfl, linv hC⟩
  · rw [if_pos h1, if_neg h2]; exact ⟨rfl, linv hC⟩
theorem eu_cls : ∀ (k a b d i : Nat), b < 2 ^ k → a < 2 ^ 31 → b < 2 ^ 31 → 2 * k + 1 ≤ d → f_X5_commonDivisor_l7 d i (nI a) (nI b) = nI (Nat.gcd a b) := by
  intro k
  induction k with
  | zero =>
    intro a b d i hb ha hb2 hd
    obtain ⟨d', rfl⟩ : ∃ d', d = d' + 1 := ⟨d - 1, by omega⟩
    rw [show b = 0 by omega, f_X5_commonDivisor_l7_s, if_pos nI_0, Nat.gcd_zero_right]
  | succ k ih =>
    intro a b d i hb ha hb2 hd
    obtain ⟨d', rfl⟩ : ∃ d', d = d' + 1 + 1 := ⟨d - 2, by omega⟩
    rw [f_X5_commonDivisor_l7_s]
    by_cases e : b = 0
    · rw [e, if_pos nI_0, Nat.gcd_zero_right]
    · have hm : a % b < b := Nat.mod_lt _ (by omega)
      rw [if_neg (nI_ne0 (by omega) hb2), jr_nI ha (by omega) hb2, f_X5_commonDivisor_l7_s]
      have g1 : Nat.gcd a b = Nat.gcd b (a % b) := by rw [Nat.gcd_comm a b, Nat.gcd_rec, Nat.gcd_comm]
      by_cases e2 : a % b = 0
      · rw [e2, if_pos nI_0, g1, e2, Nat.gcd_zero_right]
      · have hm2 : b % (a % b) < a % b := Nat.mod_lt _ (by omega)
        have hm3 : b % (a % b) + a % b ≤ b := by
          have h1 := Nat.mod_add_div b (a % b)
          have h2 : 1 ≤ b / (a % b) := Nat.div_pos (by omega) (by omega)
          have h3 : a % b * 1 ≤ a % b * (b / (a % b)) := Nat.mul_le_mul_left _ h2
          omega
        have g2 : Nat.gcd b (a % b) = Nat.gcd (a % b) (b % (a % b)) := by rw [Nat.gcd_comm b (a % b), Nat.gcd_rec, Nat.gcd_comm]
        rw [if_neg (nI_ne0 (by omega) (by omega)), jr_nI hb2 (by omega) (by omega), g1, g2]
        exact ih _ _ _ _ (by rw [Nat.pow_succ] at hb; omega) (by omega) (by omega) (by omega)
theorem eu_ref : ∀ (k a b d : Nat), b < 2 ^ k → a < 2 ^ 31 → b < 2 ^ 31 → 2 * k + 1 ≤ d → f_X6_divisor_l13 d (nI a) (nI b) = nI (Nat.gcd a b) := by
  intro k
  induction k with
  | zero =>
    intro a b d hb ha hb2 hd
    obtain ⟨d', rfl⟩ : ∃ d', d = d' + 1 := ⟨d - 1, by omega⟩
    rw [show b = 0 by omega, f_X6_divisor_l13_s, if_pos nI_0, Nat.gcd_zero_right]
  | succ k ih =>
    intro a b d hb ha hb2 hd
    obtain ⟨d', rfl⟩ : ∃ d', d = d' + 1 + 1 := ⟨d - 2, by omega⟩
    rw [f_X6_divisor_l13_s]
    by_cases e : b = 0
    · rw [e, if_pos nI_0, Nat.gcd_zero_right]
    · have hm : a % b < b := Nat.mod_lt _ (by omega)
      rw [if_neg (nI_ne0 (by omega) hb2), jr_nI ha (by omega) hb2, f_X6_divisor_l13_s]
      have g1 : Nat.gcd a b = Nat.gcd b (a % b) := by rw [Nat.gcd_comm a b, Nat.gcd_rec, Nat.gcd_comm]
      by_cases e2 : a % b = 0
      · rw [e2, if_pos nI_0, g1, e2, Nat.gcd_zero_right]
      · have hm2 : b % (a % b) < a % b := Nat.mod_lt _ (by omega)
        have hm3 : b % (a % b) + a % b ≤ b := by
          have h1 := Nat.mod_add_div b (a % b)
          have h2 : 1 ≤ b / (a % b) := Nat.div_pos (by omega) (by omega)
          have h3 : a % b * 1 ≤ a % b * (b / (a % b)) := Nat.mul_le_mul_left _ h2
          omega
        have g2 : Nat.gcd b (a % b) = Nat.gcd (a % b) (b % (a % b)) := by rw [Nat.gcd_comm b (a % b), Nat.gcd_rec, Nat.gcd_comm]
        rw [if_neg (nI_ne0 (by omega) (by omega)), jr_nI hb2 (by omega) (by omega), g1, g2]
        exact ih _ _ _ (by rw [Nat.pow_succ] at hb; omega) (by omega) (by omega) (by omega)
theorem told_ok {a b : Nat} (ha : a < 2 ^ 31) (hb : b < 16384) (hb1 : 1 ≤ b) (z : Int32) : f_X5_told (nI a) (nI b) z = f_X6_fraction (nI a) (nI b) z := by
  unfold f_X5_told f_X6_fraction f_X5_commonDivisor f_X6_divisor f_X6_divisor_k10
  have hg : 1 ≤ Nat.gcd a b := Nat.gcd_pos_of_pos_right _ (by omega)
  have hg2 : Nat.gcd a b ≤ b := Nat.gcd_le_right _ (by omega)
  rw [eu_cls 14 a b 64 0 (by omega) ha (by omega) (by omega), if_pos (nI_pos' ha), eu_ref 14 a b 10000000 (by omega) ha (by omega) (by omega), if_pos (show (1 : Int32) ≤ nI (Nat.gcd a b) from nI_le (a := 1) hg (by omega))]
