/-- one act of a row: digits 0-3 put, 4-7 strike -/
def stepO (sp plain key stair air fr : Int32) (g : Nat) : Option Int32 := if 4 ≤ g then (if f_X2_canStrike fr (nI (g % 4)) = 0 then none else some (f_X2_withStruck plain key stair air fr (nI (g % 4)))) else (if f_X2_canPut sp fr (nI (g % 4)) = 0 then none else some (f_X2_withPut plain key stair air fr (nI (g % 4))))
def runO (sp plain key stair air : Int32) (num : Nat) : Nat → Int32 → Option Int32
  | 0, fr => some fr
  | k + 1, fr => match stepO sp plain key stair air fr (num / 8 ^ k % 8) with
    | none => none
    | some fr' => runO sp plain key stair air num k fr'
def codeN (num : Nat) : Nat → Nat
  | 0 => 0
  | k + 1 => (num / 8 ^ k % 8 + 1) * 10 ^ k + codeN num k
def okO (sp plain key stair air W : Int32) (k num : Nat) (fr : Int32) : Prop := ∃ fr', runO sp plain key stair air num k fr = some fr' ∧ W &&& (f_X1_had fr' ^^^ -1) = 0
theorem runO_congr {sp plain key stair air : Int32} {a b : Nat} : ∀ (k : Nat) (fr : Int32), (∀ j, j < k → a / 8 ^ j % 8 = b / 8 ^ j % 8) → runO sp plain key stair air a k fr = runO sp plain key stair air b k fr := by
  intro k
  induction k with
  | zero => intro fr _; rfl
  | succ k ih =>
    intro fr h
    rw [runO, runO, h k (by omega)]
    split
    · rfl
    · exact ih _ (fun j hj => h j (by omega))
theorem codeN_congr {a b : Nat} : ∀ (k : Nat), (∀ j, j < k → a / 8 ^ j % 8 = b / 8 ^ j % 8) → codeN a k = codeN b k := by
  intro k
  induction k with
  | zero => intro _; rfl
  | succ k ih =>
    intro h
    rw [codeN, codeN, h k (by omega), ih (fun j hj => h j (by omega))]
theorem dig_low {k g r j : Nat} (hj : j < k) : (8 ^ k * g + r) / 8 ^ j % 8 = r / 8 ^ j % 8 := by
  obtain ⟨e, rfl⟩ : ∃ e, k = j + 1 + e := ⟨k - (j + 1), by omega⟩
  have h1 : 8 ^ (j + 1 + e) * g + r = 8 ^ j * (8 * (8 ^ e * g)) + r := by
    rw [Nat.pow_add, Nat.pow_succ, Nat.mul_assoc, Nat.mul_assoc]
  rw [h1, Nat.mul_add_div (Nat.pow_pos (by omega)), Nat.mul_add_mod]
theorem dig_top {k g r : Nat} (hg : g < 8) (hr : r < 8 ^ k) : (8 ^ k * g + r) / 8 ^ k % 8 = g := by
  rw [Nat.mul_add_div (Nat.pow_pos (by omega)), Nat.div_eq_of_lt hr, Nat.add_zero, Nat.mod_eq_of_lt hg]
theorem okO_succ {sp plain key stair air W : Int32} {k g r : Nat} (hg : g < 8) (hr : r < 8 ^ k) (fr : Int32) : okO sp plain key stair air W (k + 1) (8 ^ k * g + r) fr ↔ ∃ f1, stepO sp plain key stair air fr g = some f1 ∧ okO sp plain key stair air W k r f1 := by
  unfold okO
  rw [runO, dig_top hg hr]
  constructor
  · rintro ⟨f2, h1, h2⟩
    cases hs : stepO sp plain key stair air fr g with
    | none => rw [hs] at h1; cases h1
    | some f1 =>
      rw [hs] at h1
      refine ⟨f1, rfl, f2, ?_, h2⟩
      rw [← runO_congr k f1 (fun j hj => dig_low (g := g) hj)]
      exact h1
  · rintro ⟨f1, h0, f2, h1, h2⟩
    refine ⟨f2, ?_, h2⟩
    rw [h0]
    show runO sp plain key stair air (8 ^ k * g + r) k f1 = some f2
    rw [runO_congr k f1 (fun j hj => dig_low (g := g) hj)]
    exact h1
theorem codeN_succ {k g r : Nat} (hg : g < 8) (hr : r < 8 ^ k) : codeN (8 ^ k * g + r) (k + 1) = (g + 1) * 10 ^ k + codeN r k := by
  rw [codeN, dig_top hg hr, codeN_congr k (fun j hj => dig_low (g := g) hj)]
theorem codeN_lt (num : Nat) : ∀ k, codeN num k < 10 ^ k := by
  intro k
  induction k with
  | zero => rw [codeN]; omega
  | succ k ih =>
    rw [codeN, Nat.pow_succ]
    have h1 : num / 8 ^ k % 8 < 8 := Nat.mod_lt _ (by omega)
    have h2 : (num / 8 ^ k % 8 + 1) * 10 ^ k ≤ 8 * 10 ^ k := Nat.mul_le_mul_right _ (by omega)
    omega
/-- a step of the class and of the reference -/
theorem step_ok {n sp : Nat} {cl kd : Nat → Nat} {plain key stair air : Int32} {cells kinds lies kind : Nat → Int32} (hI : Idea n sp cl kd plain key stair air cells kinds lies kind) {fr : Int32} {t : Nat → Int32} (hF : FR n sp cl kd fr t) {g : Nat} (hg : g < 8) : (stepO (nI sp) plain key stair air fr g = none ∧ (4 ≤ g → t (g % 4) ≤ 0) ∧ (¬ 4 ≤ g → (f_X6_goPut cl n (g % 4) lies kind t).1 = 0)) ∨ (∃ f1, stepO (nI sp) plain key stair air fr g = some f1 ∧ (4 ≤ g → ¬ t (g % 4) ≤ 0 ∧ FR n sp cl kd f1 (f_X6_goStrike cl n (g % 4) lies kind t).2) ∧ (¬ 4 ≤ g → ¬ (f_X6_goPut cl n (g % 4) lies kind t).1 = 0 ∧ FR n sp cl kd f1 (f_X6_goPut cl n (g % 4) lies kind t).2)) := by
  obtain ⟨h, hF⟩ := hF
  have hc : g % 4 < 4 := Nat.mod_lt _ (by omega)
  unfold stepO
  by_cases e : 4 ≤ g
  · rw [if_pos e, canStrike_ok hF hc]
    have h4 := (hF.1 _ hc).2
    by_cases e0 : h (g % 4) = 0
    · rw [if_pos e0, if_pos rfl]
      refine Or.inl ⟨rfl, fun _ => ?_, fun a => absurd e a⟩
      rw [(hF.1 _ hc).1, e0]; decide
    · rw [if_neg e0, if_neg one_ne]
      refine Or.inr ⟨_, rfl, fun _ => ⟨?_, ⟨_, strike_ok hI hF hc (by omega)⟩⟩, fun a => absurd e a⟩
      rw [(hF.1 _ hc).1]; exact nI_nle (by omega) (by omega)
  · rw [if_neg e]
    rcases tryPut hI hF hc with ⟨a, b⟩ | ⟨a, b, d⟩
    · rw [if_pos a]
      exact Or.inl ⟨rfl, fun x => absurd x e, fun _ => by rw [b]⟩
    · rw [if_neg a]
      exact Or.inr ⟨_, rfl, fun x => absurd x e, fun _ => ⟨by rw [b]; exact one_ne, d⟩⟩
theorem step_FR {n sp : Nat} {cl kd : Nat → Nat} {plain key stair air : Int32} {cells kinds lies kind : Nat → Int32} (hI : Idea n sp cl kd plain key stair air cells kinds lies kind) {fr f1 : Int32} {t : Nat → Int32} (hF : FR n sp cl kd fr t) {g : Nat} (hg : g < 8) (hs : stepO (nI sp) plain key stair air fr g = some f1) : ∃ t', FR n sp cl kd f1 t' := by
  rcases step_ok hI hF hg with ⟨a, _⟩ | ⟨f2, a, b, c⟩
  · rw [a] at hs; cases hs
  · rw [a] at hs
    have e : f2 = f1 := by injection hs
    subst e
    by_cases e4 : 4 ≤ g
    · exact ⟨_, (b e4).2⟩
    · exact ⟨_, (c e4).2⟩
/-- the cells that still want a pole -/
def need (W fr : Int32) : Int32 := f_X5_downToGround (W &&& (f_X1_had fr ^^^ -1)) &&& (f_X1_poles fr ^^^ -1)
theorem bt_shrk (x : Int32) (k : Nat) (hk : k < 32) {K : Int32} (hK : K = nI k) {c : Nat} (hc : c + k < 32) : bt (shr x K) c = bt x (c + k) := by
  rw [hK, bt_shr hk (by omega), if_pos (by omega), Nat.add_comm]
theorem need_bit {W : Int32} (fr : Int32) {c : Nat} (hc : c < 16) : bt (need W fr) c = true ↔ (∃ j, j < 4 ∧ bt W (c + 4 * j) = true ∧ bt (f_X1_had fr) (c + 4 * j) = false) ∧ bt (f_X1_poles fr) c = false := by
  unfold need f_X5_downToGround
  rw [b_and, bt_not (by omega), b_or, b_or, b_or, bt_shrk _ 4 (by omega) (K := 4) rfl (by omega), bt_shrk _ 8 (by omega) (K := 8) rfl (by omega), bt_shrk _ 12 (by omega) (K := 12) rfl (by omega)]
  have m : ∀ x, x < 32 → (bt (W &&& (f_X1_had fr ^^^ -1)) x = true ↔ bt W x = true ∧ bt (f_X1_had fr) x = false) := by
    intro x hx
    rw [b_and, bt_not hx, Bool.and_eq_true, Bool.not_eq_true']
  rw [Bool.and_eq_true, Bool.or_eq_true, Bool.or_eq_true, Bool.or_eq_true, Bool.not_eq_true', m c (by omega), m (c + 4) (by omega), m (c + 8) (by omega), m (c + 12) (by omega)]
  constructor
  · rintro ⟨((a | a) | a) | a, b⟩
    · exact ⟨⟨0, by omega, a⟩, b⟩
    · exact ⟨⟨1, by omega, a⟩, b⟩
    · exact ⟨⟨2, by omega, a⟩, b⟩
    · exact ⟨⟨3, by omega, a⟩, b⟩
  · rintro ⟨⟨j, hj, a⟩, b⟩
    rcases (show j = 0 ∨ j = 1 ∨ j = 2 ∨ j = 3 by omega) with rfl | rfl | rfl | rfl
    · exact ⟨Or.inl (Or.inl (Or.inl a)), b⟩
    · exact ⟨Or.inl (Or.inl (Or.inr a)), b⟩
    · exact ⟨Or.inl (Or.inr a), b⟩
    · exact ⟨Or.inr a, b⟩
theorem need_hi {W : Int32} (hW : ∀ c, 16 ≤ c → bt W c = false) (fr : Int32) {c : Nat} (hc : 16 ≤ c) : bt (need W fr) c = false := by
  rcases Nat.lt_or_ge c 32 with h | h
  · unfold need f_X5_downToGround
    have m : ∀ x, 16 ≤ x → bt (W &&& (f_X1_had fr ^^^ -1)) x = false := by
      intro x hx
      rw [b_and, hW x hx]; rfl
    have s4 : bt (shr (W &&& (f_X1_had fr ^^^ -1)) 4) c = false := by
      have : bt (shr (W &&& (f_X1_had fr ^^^ -1)) 4) c = _ := bt_shr (n := 4) (by omega) h _
      rw [this]; split
      · exact m _ (by omega)
      · exact m _ (by omega)
    have s8 : bt (shr (W &&& (f_X1_had fr ^^^ -1)) 8) c = false := by
      have : bt (shr (W &&& (f_X1_had fr ^^^ -1)) 8) c = _ := bt_shr (n := 8) (by omega) h _
      rw [this]; split
      · exact m _ (by omega)
      · exact m _ (by omega)
    have s12 : bt (shr (W &&& (f_X1_had fr ^^^ -1)) 12) c = false := by
      have : bt (shr (W &&& (f_X1_had fr ^^^ -1)) 12) c = _ := bt_shr (n := 12) (by omega) h _
      rw [this]; split
      · exact m _ (by omega)
      · exact m _ (by omega)
    rw [b_and, b_or, b_or, b_or, m c hc, s4, s8, s12]; rfl
  · exact b_big h
theorem needN {W : Int32} (hW : ∀ c, 16 ≤ c → bt W c = false) (fr : Int32) : f_J6_bitCount (need W fr) = nI (fb_ct (bt (need W fr)) 16) := pop_ok (fun i hi => need_hi hW fr hi)
theorem need_good {W fr : Int32} (hg : W &&& (f_X1_had fr ^^^ -1) = 0) : fb_ct (bt (need W fr)) 16 = 0 := by
  apply fb_ct_zero.mpr
  intro c hc
  cases h : bt (need W fr) c
  · rfl
  · obtain ⟨⟨j, hj, a, b⟩, _⟩ := (need_bit fr hc).mp h
    have : bt (W &&& (f_X1_had fr ^^^ -1)) (c + 4 * j) = false := by rw [hg, b_0]
    rw [b_and, bt_not (by omega), a, b] at this
    cases this
theorem poles_of (a b : Int32) {c : Nat} (hc : c < 16) : bt (f_X1_poles (f_X1_of a b)) c = bt a c := by rw [poles_b, of_lo _ _ hc, decide_eq_true hc, Bool.and_true]
theorem had_of (a b : Int32) {c : Nat} (hc : c < 16) : bt (f_X1_had (f_X1_of a b)) c = bt b c := by
  unfold f_X1_had
  rw [bt_ush16, of_hi _ _ hc]
theorem need_step {n sp : Nat} {cl kd : Nat → Nat} {plain key stair air : Int32} {cells kinds lies kind : Nat → Int32} (hI : Idea n sp cl kd plain key stair air cells kinds lies kind) {W : Int32} (hW : ∀ c, 16 ≤ c → bt W c = false) {fr f1 : Int32} {t : Nat → Int32} (hF : FR n sp cl kd fr t) {g : Nat} (hg : g < 8) (hs : stepO (nI sp) plain key stair air fr g = some f1) : fb_ct (bt (need W fr)) 16 ≤ fb_ct (bt (need W f1)) 16 + 1 := by
  obtain ⟨h, hF⟩ := hF
  have hc : g % 4 < 4 := Nat.mod_lt _ (by omega)
  unfold stepO at hs
  by_cases e : 4 ≤ g
  · rw [if_pos e] at hs
    by_cases e0 : f_X2_canStrike fr (nI (g % 4)) = 0
    · rw [if_pos e0] at hs; cases hs
    · rw [if_neg e0] at hs
      have hf : f_X2_withStruck plain key stair air fr (nI (g % 4)) = f1 := by injection hs
      have h1 : 1 ≤ h (g % 4) := by
        refine Classical.byContradiction fun hx => e0 ?_
        rw [canStrike_ok hF hc, if_pos (by omega)]
      have hp := strike_ok hI hF hc h1
      have hsub : ∀ c, bt (f_X1_had f1) c = true → bt (f_X1_had fr) c = true := by
        intro c hx
        rw [← hf] at hx
        have q := (had_bits (fun p hp => hI.c16 hp) hp c).mp hx
        exact (had_bits (fun p hp => hI.c16 hp) hF c).mpr (onB_mono (fun p hp => strike_sub hI hF hc h1 hp) q)
      have hle : fb_ct (bt (need W fr)) 16 ≤ fb_ct (bt (need W f1)) 16 := by
        apply fb_ct_sub
        intro c hc16 hx
        obtain ⟨⟨j, hj, a, b⟩, d⟩ := (need_bit fr hc16).mp hx
        refine (need_bit f1 hc16).mpr ⟨⟨j, hj, a, ?_⟩, ?_⟩
        · cases hy : bt (f_X1_had f1) (c + 4 * j)
          · rfl
          · rw [hsub _ hy] at b; cases b
        · rw [poles_bits hF hc16, decide_eq_false_iff_not] at d
          rw [← hf, poles_bits hp hc16, decide_eq_false_iff_not]
          unfold hset
          split
          · next ee => rw [ee] at d; omega
          · exact d
      omega
  · rw [if_neg e] at hs
    by_cases e0 : f_X2_canPut (nI sp) fr (nI (g % 4)) = 0
    · rw [if_pos e0] at hs; cases hs
    · rw [if_neg e0] at hs
      have hf : f_X2_withPut plain key stair air fr (nI (g % 4)) = f1 := by injection hs
      have h4 : h (g % 4) < 4 := by
        refine Classical.byContradiction fun hx => e0 ?_
        rw [canPut_ok hI.2.1 hF hc, if_neg (fun a => hx a.2)]
      unfold f_X2_withPut at hf
      rw [height_ok hF hc, cellBit_ok] at hf
      have hb16 : 4 * h (g % 4) + g % 4 < 16 := by omega
      generalize hB : 4 * h (g % 4) + g % 4 = B at hf hb16
      have hpo : ∀ c, c < 16 → c ≠ B → bt (f_X1_poles fr) c = false → bt (f_X1_poles f1) c = false := by
        intro c hc16 hne hx
        rw [← hf, poles_of _ _ hc16, b_or, hx, bt_one (by omega) (by omega), decide_eq_false hne]; rfl
      have hha : ∀ c, c < 16 → c ≠ B → bt (f_X1_had fr) c = false → bt (f_X1_had f1) c = false := by
        intro c hc16 hne hx
        rw [← hf, had_of _ _ hc16, b_or, hx, b_and, bt_one (by omega) (by omega), decide_eq_false hne]; rfl
      have key : ∀ c, c < 16 → c ≠ B → bt (need W fr) c = true → bt (need W f1) c = true := by
        intro c hc16 hne hx
        obtain ⟨⟨j, hj, a, b⟩, d⟩ := (need_bit fr hc16).mp hx
        have hlt : c + 4 * j < 16 := by
          refine Classical.byContradiction fun hy => ?_
          rw [hW _ (by omega)] at a; cases a
        refine (need_bit f1 hc16).mpr ⟨⟨j, hj, a, ?_⟩, hpo c hc16 hne d⟩
        by_cases e1 : c + 4 * j = B
        · exfalso
          rw [poles_bits hF hc16, decide_eq_false_iff_not] at d
          have hm : c % 4 = g % 4 := by omega
          rw [hm] at d
          omega
        · exact hha _ hlt e1 b
      have e3 := fb_ct_upd (bt (need W f1)) true (i := B) (n := 16) hb16
      have l : fb_ct (bt (need W fr)) 16 ≤ fb_ct (fun k => if k = B then true else bt (need W f1) k) 16 := by
        apply fb_ct_sub
        intro c hc16 hx
        by_cases ec : c = B
        · rw [if_pos ec]
        · rw [if_neg ec]; exact key c hc16 ec hx
      have : (if (true : Bool) then 1 else 0) = 1 := rfl
      rw [this] at e3
      omega
theorem need_ok {n sp : Nat} {cl kd : Nat → Nat} {plain key stair air : Int32} {cells kinds lies kind : Nat → Int32} (hI : Idea n sp cl kd plain key stair air cells kinds lies kind) {W : Int32} (hW : ∀ c, 16 ≤ c → bt W c = false) : ∀ (k num : Nat) (fr : Int32) (t : Nat → Int32), FR n sp cl kd fr t → okO (nI sp) plain key stair air W k num fr → fb_ct (bt (need W fr)) 16 ≤ k := by
  intro k
  induction k with
  | zero =>
    intro num fr t hF ho
    obtain ⟨f', h1, h2⟩ := ho
    rw [runO] at h1
    have e : fr = f' := by injection h1
    subst e
    rw [need_good h2]; omega
  | succ k ih =>
    intro num fr t hF ho
    obtain ⟨f', h1, h2⟩ := ho
    rw [runO] at h1
    have hg : num / 8 ^ k % 8 < 8 := Nat.mod_lt _ (by omega)
    cases hs : stepO (nI sp) plain key stair air fr (num / 8 ^ k % 8) with
    | none => rw [hs] at h1; cases h1
    | some f1 =>
      rw [hs] at h1
      obtain ⟨t', hF'⟩ := step_FR hI hF hg hs
      have := ih num f1 t' hF' ⟨f', h1, h2⟩
      have := need_step hI hW hF hg hs
      omega
