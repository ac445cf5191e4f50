theorem bt_shl4 (x : Int32) {i : Nat} (hi : i < 32) : bt (shl x (4 : Int32)) i = (decide (4 ≤ i) && bt x (i - 4)) := bt_shl (n := 4) (by omega) hi x
theorem bt_shl1 (x : Int32) {i : Nat} (hi : i < 32) : bt (shl x (1 : Int32)) i = (decide (1 ≤ i) && bt x (i - 1)) := bt_shl (n := 1) (by omega) hi x
theorem bt_shl16 (x : Int32) {i : Nat} (hi : i < 32) : bt (shl x (16 : Int32)) i = (decide (16 ≤ i) && bt x (i - 16)) := bt_shl (n := 16) (by omega) hi x
theorem bt_shr1 (x : Int32) {i : Nat} (hi : i < 31) : bt (shr x (1 : Int32)) i = bt x (i + 1) := by
  have h : bt (shr x (1 : Int32)) i = _ := bt_shr (n := 1) (by omega) (by omega : i < 32) x
  rw [h, if_pos (by omega), Nat.add_comm]
theorem bt_ush16 (x : Int32) (i : Nat) : bt (ush x (16 : Int32)) i = bt x (16 + i) := bt_ush (n := 16) (by omega) x i
theorem b_n4370 : ∀ i, i < 16 → bt (-4370) i = decide (¬ i % 4 = 0) := by decide +kernel
theorem b_n34953 : ∀ i, i < 16 → bt (-34953) i = decide (¬ i % 4 = 3) := by decide +kernel
theorem b_15 : ∀ i, i < 32 → bt 15 i = decide (i < 4) := by decide +kernel
theorem b_4369 : ∀ i, i < 32 → bt 4369 i = (decide (i < 16) && decide (i % 4 = 0)) := by decide +kernel
theorem carried_bits (plain key stair S : Int32) {c : Nat} (hc : c < 16) (h4 : 4 ≤ c) : bt (f_X2_carriedBy plain key stair S) c = true ↔ (bt plain c = true ∧ bt S (c - 4) = true) ∨ (bt key c = true ∧ (c % 4 ≠ 0 ∧ bt S (c - 1) = true) ∧ (c % 4 ≠ 3 ∧ bt S (c + 1) = true)) ∨ (bt stair c = true ∧ (bt S (c - 4) = true ∨ (c % 4 ≠ 0 ∧ bt S (c - 5) = true) ∨ (c % 4 ≠ 3 ∧ bt S (c - 3) = true))) := by
  unfold f_X2_carriedBy
  have e5 : c - 4 - 1 = c - 5 := by omega
  have e6 : c % 4 ≠ 3 → c - 4 + 1 = c - 3 := by omega
  have m0 : ((c - 4) % 4 = 0) ↔ (c % 4 = 0) := by omega
  have m3 : ((c - 4) % 4 = 3) ↔ (c % 4 = 3) := by omega
  have e7 : c - 4 + 1 = c - 3 := by omega
  have z1 : c % 4 ≠ 0 → 1 ≤ c - 4 := by omega
  rw [b_or, b_or, b_and, b_and, b_and, b_and, b_and, b_and, bt_shl4 _ (by omega), bt_shl4 _ (by omega), b_or, b_or, b_and, b_and, bt_shl1 _ (by omega), bt_shl1 _ (by omega), bt_shr1 _ (by omega), bt_shr1 _ (by omega), b_n4370 _ (by omega), b_n4370 _ (by omega), b_n34953 _ (by omega), b_n34953 _ (by omega), e5, e7]
  simp only [Bool.or_eq_true, Bool.and_eq_true, decide_eq_true_eq, m0, m3]
  constructor
  · rintro ((h | h) | h)
    · exact Or.inl ⟨h.1, h.2.2⟩
    · exact Or.inr (Or.inl ⟨h.1.1, ⟨h.1.2.2, h.1.2.1.2⟩, ⟨h.2.2, h.2.1⟩⟩)
    · refine Or.inr (Or.inr ⟨h.1, ?_⟩)
      rcases h.2.2 with (a | a) | a
      · exact Or.inl a
      · exact Or.inr (Or.inl ⟨a.2, a.1.2⟩)
      · exact Or.inr (Or.inr ⟨a.2, a.1⟩)
  · rintro (h | h | h)
    · exact Or.inl (Or.inl ⟨h.1, h4, h.2⟩)
    · exact Or.inl (Or.inr ⟨⟨h.1, ⟨by omega, h.2.1.2⟩, h.2.1.1⟩, h.2.2.2, h.2.2.1⟩)
    · refine Or.inr ⟨h.1, h4, ?_⟩
      rcases h.2 with a | a | a
      · exact Or.inl (Or.inl a)
      · exact Or.inl (Or.inr ⟨⟨z1 a.1, a.2⟩, a.1⟩)
      · exact Or.inr ⟨a.2, a.1⟩
theorem Idea.inj {n sp : Nat} {cl kd : Nat → Nat} {plain key stair air : Int32} {cells kinds lies kind : Nat → Int32} (hI : Idea n sp cl kd plain key stair air cells kinds lies kind) {i j : Nat} (hi : i < n) (hj : j < n) (e : cl i = cl j) : i = j := hI.2.2.2.2.2.1 i j hi hj e
theorem Idea.c16 {n sp : Nat} {cl kd : Nat → Nat} {plain key stair air : Int32} {cells kinds lies kind : Nat → Int32} (hI : Idea n sp cl kd plain key stair air cells kinds lies kind) {p : Nat} (hp : p < n) : cl p < 16 := (hI.2.2.1 p (by have := hI.1; omega)).2
theorem kd_bit {n : Nat} {cl kd : Nat → Nat} {m : Int32} {k : Nat} (inj : ∀ i j, i < n → j < n → cl i = cl j → i = j) (h : ∀ c, c < 32 → (bt m c = true ↔ ∃ j, j < n ∧ cl j = c ∧ kd j = k)) {p : Nat} (hp : p < n) (hc : cl p < 16) : bt m (cl p) = true ↔ kd p = k := by
  rw [h (cl p) (by omega)]
  constructor
  · rintro ⟨j, hj, e, hk⟩
    rw [← inj j p hj hp e]; exact hk
  · intro hk; exact ⟨p, hp, rfl, hk⟩
theorem Idea.plain {n sp : Nat} {cl kd : Nat → Nat} {plain key stair air : Int32} {cells kinds lies kind : Nat → Int32} (hI : Idea n sp cl kd plain key stair air cells kinds lies kind) {p : Nat} (hp : p < n) : bt plain (cl p) = true ↔ kd p = 0 := kd_bit hI.2.2.2.2.2.1 hI.2.2.2.2.2.2.2.1 hp (hI.c16 hp)
theorem Idea.key {n sp : Nat} {cl kd : Nat → Nat} {plain key stair air : Int32} {cells kinds lies kind : Nat → Int32} (hI : Idea n sp cl kd plain key stair air cells kinds lies kind) {p : Nat} (hp : p < n) : bt key (cl p) = true ↔ kd p = 1 := kd_bit hI.2.2.2.2.2.1 hI.2.2.2.2.2.2.2.2.1 hp (hI.c16 hp)
theorem Idea.stair {n sp : Nat} {cl kd : Nat → Nat} {plain key stair air : Int32} {cells kinds lies kind : Nat → Int32} (hI : Idea n sp cl kd plain key stair air cells kinds lies kind) {p : Nat} (hp : p < n) : bt stair (cl p) = true ↔ kd p = 2 := kd_bit hI.2.2.2.2.2.1 hI.2.2.2.2.2.2.2.2.2.1 hp (hI.c16 hp)
theorem Idea.air {n sp : Nat} {cl kd : Nat → Nat} {plain key stair air : Int32} {cells kinds lies kind : Nat → Int32} (hI : Idea n sp cl kd plain key stair air cells kinds lies kind) {p : Nat} (hp : p < n) : bt air (cl p) = true ↔ kd p = 3 := kd_bit hI.2.2.2.2.2.1 hI.2.2.2.2.2.2.2.2.2.2 hp (hI.c16 hp)
/-- the parts whose cell is in S -/
def tp (n : Nat) (cl : Nat → Nat) (S : Int32) (p : Nat) : Bool := decide (p < n) && bt S (cl p)
theorem tp_t {n : Nat} {cl : Nat → Nat} {S : Int32} {p : Nat} : tp n cl S p = true ↔ p < n ∧ bt S (cl p) = true := by
  unfold tp; simp
theorem onB_tp {n : Nat} {cl : Nat → Nat} {hd : Nat → Bool} {S H : Int32} (hH : ∀ c, bt H c = true ↔ onB n cl hd c) (hS : ∀ c, bt S c = true → bt H c = true) (c : Nat) : bt S c = true ↔ onB n cl (tp n cl S) c := by
  constructor
  · intro h
    obtain ⟨p, hp, hc, _⟩ := (hH c).mp (hS c h)
    exact ⟨p, hp, hc, tp_t.mpr ⟨hp, by rw [hc]; exact h⟩⟩
  · rintro ⟨p, hp, hc, h⟩
    rw [← hc]; exact (tp_t.mp h).2
/-- what a step of the class's settling takes -/
theorem carried_std {n sp : Nat} {cl kd : Nat → Nat} {plain key stair air : Int32} {cells kinds lies kind : Nat → Int32} (hI : Idea n sp cl kd plain key stair air cells kinds lies kind) {h : Nat → Nat} {hd : Nat → Bool} {S H : Int32} (hH : ∀ c, bt H c = true ↔ onB n cl hd c) (hS : ∀ c, bt S c = true → bt H c = true) {p : Nat} (hp : p < n) : (bt (f_X2_carriedBy plain key stair S) (cl p) = true → std n cl kd h (tp n cl S) p) ∧ (std n cl kd h (tp n cl S) p → (cl p < 4 ∨ cl p / 4 < h (cl p % 4) ∨ kd p = 3) ∨ bt (f_X2_carriedBy plain key stair S) (cl p) = true) := by
  have hc := hI.c16 hp
  by_cases h4 : cl p < 4
  · exact ⟨fun _ => Or.inl h4, fun _ => Or.inl (Or.inl h4)⟩
  · rw [carried_bits plain key stair S hc (by omega), hI.plain hp, hI.key hp, hI.stair hp, onB_tp hH hS, onB_tp hH hS, onB_tp hH hS, onB_tp hH hS, onB_tp hH hS]
    refine ⟨fun a => Or.inr (Or.inr (Or.inr a)), fun a => ?_⟩
    rcases a with a | a | a | a
    · exact Or.inl (Or.inl a)
    · exact Or.inl (Or.inr (Or.inl a))
    · exact Or.inl (Or.inr (Or.inr a))
    · exact Or.inr a
theorem cls_pass {n sp : Nat} {cl kd : Nat → Nat} {plain key stair air : Int32} {cells kinds lies kind : Nat → Int32} (hI : Idea n sp cl kd plain key stair air cells kinds lies kind) {h : Nat → Nat} {hd : Nat → Bool} {S H : Int32} (hH : ∀ c, bt H c = true ↔ onB n cl hd c) (hS : ∀ c, bt S c = true → bt H c = true) (hB : ∀ p, p < n → hd p = true → (cl p < 4 ∨ cl p / 4 < h (cl p % 4) ∨ kd p = 3) → bt S (cl p) = true) : Pass n cl kd h hd (tp n cl S) (tp n cl (S ||| (H &&& f_X2_carriedBy plain key stair S))) := by
  have hHp : ∀ p, p < n → (bt H (cl p) = true ↔ hd p = true) := by
    intro p hp
    rw [hH]
    constructor
    · rintro ⟨j, hj, e, h⟩; rw [← hI.inj hj hp e]; exact h
    · intro h; exact ⟨p, hp, rfl, h⟩
  have e : ∀ p, tp n cl (S ||| (H &&& f_X2_carriedBy plain key stair S)) p = true ↔ p < n ∧ (bt S (cl p) = true ∨ (bt H (cl p) = true ∧ bt (f_X2_carriedBy plain key stair S) (cl p) = true)) := by
    intro p; rw [tp_t, b_or, b_and, Bool.or_eq_true, Bool.and_eq_true]
  refine ⟨fun p hp => ?_, fun p hp => ?_, fun T' hT hST p hp => ?_, fun p hp hh hs => ?_⟩
  · rw [e]; exact ⟨(tp_t.mp hp).1, Or.inl (tp_t.mp hp).2⟩
  · rw [e] at hp
    rcases hp.2 with a | a
    · exact Or.inl (tp_t.mpr ⟨hp.1, a⟩)
    · exact Or.inr ⟨hp.1, (hHp p hp.1).mp a.1⟩
  · rw [e] at hp
    rcases hp.2 with a | a
    · exact hST p (tp_t.mpr ⟨hp.1, a⟩)
    · exact hT p hp.1 ((hHp p hp.1).mp a.1) (std_mono hST (fun _ => Nat.le_refl _) ((carried_std hI hH hS hp.1).1 a.2))
  · rw [e]
    refine ⟨hp, ?_⟩
    rcases (carried_std hI hH hS hp).2 hs with a | a
    · exact Or.inl (hB p hp hh a)
    · exact Or.inr ⟨(hHp p hp).mpr hh, a⟩
theorem cls_loop {n sp : Nat} {cl kd : Nat → Nat} {plain key stair air : Int32} {cells kinds lies kind : Nat → Int32} (hI : Idea n sp cl kd plain key stair air cells kinds lies kind) {h : Nat → Nat} {hd : Nat → Bool} {H : Int32} (hH : ∀ c, bt H c = true ↔ onB n cl hd c) : ∀ (d i : Nat) (S : Int32), (∀ c, bt S c = true → bt H c = true) → (∀ p, p < n → hd p = true → (cl p < 4 ∨ cl p / 4 < h (cl p % 4) ∨ kd p = 3) → bt S (cl p) = true) → (∀ T', clos n cl kd h hd T' → ∀ p, tp n cl S p = true → T' p = true) → (clos n cl kd h hd (tp n cl S) ∨ 7 ≤ d + fb_ct (tp n cl S) 7) → (∀ c, bt (f_X2_standing_l15 plain key stair H d i S) c = true → bt H c = true) ∧ IsLfp n cl kd h hd (tp n cl (f_X2_standing_l15 plain key stair H d i S)) := by
  intro d
  have fin : ∀ S, (∀ c, bt S c = true → bt H c = true) → (∀ T', clos n cl kd h hd T' → ∀ p, tp n cl S p = true → T' p = true) → clos n cl kd h hd (tp n cl S) → (∀ c, bt S c = true → bt H c = true) ∧ IsLfp n cl kd h hd (tp n cl S) := by
    intro S h1 h3 h4
    refine ⟨h1, fun p hp => ?_, h4, h3⟩
    rw [tp_t] at hp
    refine ⟨hp.1, ?_⟩
    obtain ⟨j, hj, e, hh⟩ := (hH _).mp (h1 _ hp.2)
    rw [← hI.inj hj hp.1 e]; exact hh
  induction d with
  | zero =>
    intro i S h1 h2 h3 h4
    rw [f_X2_standing_l15_z]
    refine fin S h1 h3 ?_
    rcases h4 with h4 | h4
    · exact h4
    · exact full_clos hI.1 (by omega)
  | succ d ih =>
    intro i S h1 h2 h3 h4
    rw [f_X2_standing_l15_s]
    have hP := cls_pass hI hH h1 h2
    have hg := pass_grow hI.1 hP
    by_cases e : S ||| (H &&& f_X2_carriedBy plain key stair S) = S
    · rw [if_pos e]
      refine fin S h1 h3 ?_
      rcases hg with hg | hg
      · exact hg.1
      · rw [e] at hg; omega
    · rw [if_neg e]
      refine ih (i + 1) _ (fun c hc => ?_) (fun p hp hh hb => ?_) (fun T' hT p hp => hP.2.2.1 T' hT (h3 T' hT) p hp) ?_
      · rw [b_or, b_and, Bool.or_eq_true, Bool.and_eq_true] at hc
        rcases hc with a | a
        · exact h1 c a
        · exact a.1
      · rw [b_or, h2 p hp hh hb]; rfl
      · rcases hg with hg | hg
        · left; rw [funext hg.2]; exact hg.1
        · rcases h4 with h4 | h4
          · left
            have : ∀ p, tp n cl (S ||| (H &&& f_X2_carriedBy plain key stair S)) p = tp n cl S p := by
              intro p
              have q1 := hP.1 p
              have q2 := hP.2.2.1 _ h4 (fun p h => h) p
              cases ha : tp n cl S p <;> cases hb : tp n cl (S ||| (H &&& f_X2_carriedBy plain key stair S)) p <;> simp_all
            rw [funext this]; exact h4
          · right; omega
/-- the class's settling is the least closed set -/
theorem stand_cls {n sp : Nat} {cl kd : Nat → Nat} {plain key stair air : Int32} {cells kinds lies kind : Nat → Int32} (hI : Idea n sp cl kd plain key stair air cells kinds lies kind) {h : Nat → Nat} {hd : Nat → Bool} {H P : Int32} (hH : ∀ c, bt H c = true ↔ onB n cl hd c) (hP : ∀ c, c < 16 → bt P c = decide (c / 4 < h (c % 4))) : (∀ c, bt (f_X2_standing plain key stair air H P) c = true ↔ onB n cl (tp n cl (f_X2_standing plain key stair air H P)) c) ∧ IsLfp n cl kd h hd (tp n cl (f_X2_standing plain key stair air H P)) := by
  have hb : ∀ p, p < n → (bt (H &&& ((P ||| 15) ||| air)) (cl p) = true ↔ bt H (cl p) = true ∧ (cl p < 4 ∨ cl p / 4 < h (cl p % 4) ∨ kd p = 3)) := by
    intro p hp
    have hc := hI.c16 hp
    rw [b_and, b_or, b_or, hP _ hc, b_15 _ (by omega), Bool.and_eq_true, Bool.or_eq_true, Bool.or_eq_true, hI.air hp, decide_eq_true_eq, decide_eq_true_eq]
    constructor
    · rintro ⟨a, (b | b) | b⟩
      · exact ⟨a, Or.inr (Or.inl b)⟩
      · exact ⟨a, Or.inl b⟩
      · exact ⟨a, Or.inr (Or.inr b)⟩
    · rintro ⟨a, b | b | b⟩
      · exact ⟨a, Or.inl (Or.inr b)⟩
      · exact ⟨a, Or.inl (Or.inl b)⟩
      · exact ⟨a, Or.inr b⟩
  have hsub : ∀ c, bt (H &&& ((P ||| 15) ||| air)) c = true → bt H c = true := by
    intro c hc; rw [b_and, Bool.and_eq_true] at hc; exact hc.1
  have main := cls_loop hI (h := h) hH 7 0 (H &&& ((P ||| 15) ||| air)) hsub
    (fun p hp hh hx => (hb p hp).mpr ⟨(hH _).mpr ⟨p, hp, rfl, hh⟩, hx⟩)
    (fun T' hT p hp => by
      rw [tp_t] at hp
      have h1 := (hb p hp.1).mp hp.2
      obtain ⟨j, hj, e, hh⟩ := (hH _).mp h1.1
      have := hI.inj hj hp.1 e
      subst this
      refine hT j hj hh ?_
      rcases h1.2 with a | a | a
      · exact Or.inl a
      · exact Or.inr (Or.inl a)
      · exact Or.inr (Or.inr (Or.inl a)))
    (Or.inr (by omega))
  exact ⟨fun c => onB_tp hH main.1 c, main.2⟩
theorem lfp_self {n : Nat} {cl kd h : Nat → Nat} {hd T : Nat → Bool} (hT : IsLfp n cl kd h hd T) : IsLfp n cl kd h T T := by
  refine ⟨fun p hp => ⟨(hT.1 p hp).1, hp⟩, fun p _ hp _ => hp, fun T' hc p hp => ?_⟩
  have h2 : clos n cl kd h hd (fun q => T q && T' q) := by
    intro q hq hh hs
    have s1 : T q = true := hT.2.1 q hq hh (std_mono (fun r hr => by simp at hr; exact hr.1) (fun _ => Nat.le_refl _) hs)
    have s2 : T' q = true := hc q hq s1 (std_mono (fun r hr => by simp at hr; exact hr.2) (fun _ => Nat.le_refl _) hs)
    simp [s1, s2]
  have := hT.2.2 _ h2 p hp
  simp at this
  exact this.2
