theorem partAt_l0 (lies : Nat → Int32) (a : Int32) : ∀ (d i : Nat) (acc : Int32), (∀ j, i ≤ j → j < i + d → ¬ lies j = a) → f_X6_partAt_l5 lies a d i acc = acc := by
  intro d
  induction d with
  | zero => intro i acc _; exact f_X6_partAt_l5_z
  | succ d ih =>
    intro i acc h
    rw [f_X6_partAt_l5_s, if_neg (h i (by omega) (by omega))]
    exact ih (i + 1) acc (fun j h1 h2 => h j (by omega) (by omega))
theorem partAt_l1 (lies : Nat → Int32) (a : Int32) (p : Nat) (hp : lies p = a) : ∀ (d i : Nat) (acc : Int32), i ≤ p → p < i + d → (∀ j, i ≤ j → j < i + d → lies j = a → j = p) → f_X6_partAt_l5 lies a d i acc = nI p := by
  intro d
  induction d with
  | zero => intro i acc h1 h2 _; omega
  | succ d ih =>
    intro i acc h1 h2 hu
    rw [f_X6_partAt_l5_s]
    by_cases e : i = p
    · subst e
      rw [if_pos hp]
      exact partAt_l0 lies a d (i + 1) (nI i) (fun j h3 h4 h5 => by have := hu j (by omega) (by omega) h5; omega)
    · rw [if_neg (fun h => e (hu i (by omega) (by omega) h))]
      exact ih (i + 1) acc (by omega) (by omega) (fun j h3 h4 h5 => hu j (by omega) (by omega) h5)
theorem partAt_none {n : Nat} {lies : Nat → Int32} {a : Int32} (h : ∀ j, j < n → ¬ lies j = a) : f_X6_partAt n lies a = -9 := partAt_l0 lies a n 0 (-9) (fun j _ h2 => h j (by omega))
theorem partAt_some {n p : Nat} {lies : Nat → Int32} {a : Int32} (hp : p < n) (h : lies p = a) (hu : ∀ j, j < n → lies j = a → j = p) : f_X6_partAt n lies a = nI p := partAt_l1 lies a p h n 0 (-9) (by omega) (by omega) (fun j _ h2 => hu j (by omega))
theorem nI_ne9 {p : Nat} (h : p < 2 ^ 31) : ¬ nI p = -9 := by
  intro e
  have h1 := nI_pos h
  rw [e] at h1
  exact h1 (by decide)
theorem Idea.at_cases {n sp : Nat} {cl kd : Nat → Nat} {plain key stair air : Int32} {cells kinds lies kind : Nat → Int32} (hI : Idea n sp cl kd plain key stair air cells kinds lies kind) {c : Nat} (hc : c < 2 ^ 31) : (∃ p, p < n ∧ cl p = c ∧ f_X6_partAt n lies (nI c) = nI p) ∨ ((∀ p, p < n → ¬ cl p = c) ∧ f_X6_partAt n lies (nI c) = -9) := by
  obtain ⟨h7, _, hl, _, _, hinj, _⟩ := hI
  by_cases h : ∃ p, p < n ∧ cl p = c
  · obtain ⟨p, hp, hpc⟩ := h
    refine Or.inl ⟨p, hp, hpc, partAt_some hp (by rw [(hl p (by omega)).1, hpc]) (fun j hj he => ?_)⟩
    have h1 := hl j (by omega)
    rw [h1.1, nI_eq (by omega) hc] at he
    exact hinj j p hj hp (by omega)
  · refine Or.inr ⟨fun p hp he => h ⟨p, hp, he⟩, partAt_none (fun j hj he => ?_)⟩
    have h1 := hl j (by omega)
    rw [h1.1, nI_eq (by omega) hc] at he
    exact h ⟨j, hj, he⟩
theorem isBy_core {n sp : Nat} {cl kd : Nat → Nat} {plain key stair air : Int32} {cells kinds lies kind : Nat → Int32} (hI : Idea n sp cl kd plain key stair air cells kinds lies kind) {t : Nat} (ht : t < 2 ^ 31) (T : Int32) : ¬ (if f_X6_partAt n lies (nI t) = (-9 : Int32) then (0 : Int32) else if f_X6_has T (f_X6_partAt n lies (nI t)) = (0 : Int32) then (0 : Int32) else (1 : Int32)) = 0 ↔ onB n cl (bt T) t := by
  have h7 : n ≤ 7 := hI.1
  rcases hI.at_cases ht with ⟨p, hp, hpc, e⟩ | ⟨hno, e⟩
  · rw [e, if_neg (nI_ne9 (by omega))]
    have hu : onB n cl (bt T) t ↔ bt T p = true := by
      constructor
      · rintro ⟨j, hj, hjc, hT⟩
        have := hI.2.2.2.2.2.1 j p hj hp (by omega)
        rw [← this]; exact hT
      · intro h; exact ⟨p, hp, hpc, h⟩
    rw [hu, ← has_t (by omega : p < 32)]
    by_cases h : f_X6_has T (nI p) = 0
    · rw [if_pos h]; exact ⟨fun h2 => absurd rfl h2, fun h2 => absurd h h2⟩
    · rw [if_neg h]; exact ⟨fun _ => h, fun _ => by decide⟩
  · rw [e, if_pos rfl]
    refine ⟨fun h => absurd rfl h, ?_⟩
    rintro ⟨j, hj, hjc, _⟩
    exact absurd hjc (hno j hj)
theorem by_u : ∀ c, c < 16 → 4 ≤ c → f_X6_noColumn (jr (nI c) 4 + 0) = 0 ∧ (0 : Int32) ≤ nI c / 4 + -1 ∧ 4 * (nI c / 4 + -1) + (jr (nI c) 4 + 0) = nI (c - 4) := by decide +kernel
theorem by_l : ∀ c, c < 16 → 4 ≤ c → ((f_X6_noColumn (jr (nI c) 4 + -1) = 0 ↔ ¬ c % 4 = 0) ∧ (0 : Int32) ≤ nI c / 4 + 0 ∧ 4 * (nI c / 4 + 0) + (jr (nI c) 4 + -1) = nI (c - 1)) := by decide +kernel
theorem by_r : ∀ c, c < 16 → 4 ≤ c → ((f_X6_noColumn (jr (nI c) 4 + 1) = 0 ↔ ¬ c % 4 = 3) ∧ (0 : Int32) ≤ nI c / 4 + 0 ∧ 4 * (nI c / 4 + 0) + (jr (nI c) 4 + 1) = nI (c + 1)) := by decide +kernel
theorem by_ul : ∀ c, c < 16 → 4 ≤ c → ((f_X6_noColumn (jr (nI c) 4 + -1) = 0 ↔ ¬ c % 4 = 0) ∧ (0 : Int32) ≤ nI c / 4 + -1 ∧ (¬ c % 4 = 0 → 4 * (nI c / 4 + -1) + (jr (nI c) 4 + -1) = nI (c - 5))) := by decide +kernel
theorem by_ur : ∀ c, c < 16 → 4 ≤ c → ((f_X6_noColumn (jr (nI c) 4 + 1) = 0 ↔ ¬ c % 4 = 3) ∧ (0 : Int32) ≤ nI c / 4 + -1 ∧ 4 * (nI c / 4 + -1) + (jr (nI c) 4 + 1) = nI (c - 3)) := by decide +kernel
theorem isBy_gen {n sp : Nat} {cl kd : Nat → Nat} {plain key stair air : Int32} {cells kinds lies kind : Nat → Int32} (hI : Idea n sp cl kd plain key stair air cells kinds lies kind) {c t : Nat} {dr dc : Int32} {P : Prop} (ht : t < 2 ^ 31) (T : Int32) (h1 : f_X6_noColumn (jr (nI c) 4 + dc) = 0 ↔ P) (h2 : (0 : Int32) ≤ nI c / 4 + dr) (h3 : P → 4 * (nI c / 4 + dr) + (jr (nI c) 4 + dc) = nI t) : ¬ f_X6_isBy n lies T (nI c) dr dc = 0 ↔ P ∧ onB n cl (bt T) t := by
  unfold f_X6_isBy
  by_cases hP : P
  · rw [if_pos (h1.mpr hP), if_pos h2, h3 hP, isBy_core hI ht]
    exact ⟨fun h => ⟨hP, h⟩, fun h => h.2⟩
  · rw [if_neg (fun h => hP (h1.mp h))]
    exact ⟨fun h => absurd rfl h, fun h => absurd h.1 hP⟩
theorem isBy_u {n sp : Nat} {cl kd : Nat → Nat} {plain key stair air : Int32} {cells kinds lies kind : Nat → Int32} (hI : Idea n sp cl kd plain key stair air cells kinds lies kind) {c : Nat} (hc : c < 16) (h4 : 4 ≤ c) (T : Int32) : ¬ f_X6_isBy n lies T (nI c) (-1) 0 = 0 ↔ onB n cl (bt T) (c - 4) := by
  have h := by_u c hc h4
  rw [isBy_gen hI (P := True) (t := c - 4) (by omega) T ⟨fun _ => trivial, fun _ => h.1⟩ h.2.1 (fun _ => h.2.2)]
  exact ⟨fun h => h.2, fun h => ⟨trivial, h⟩⟩
theorem isBy_l {n sp : Nat} {cl kd : Nat → Nat} {plain key stair air : Int32} {cells kinds lies kind : Nat → Int32} (hI : Idea n sp cl kd plain key stair air cells kinds lies kind) {c : Nat} (hc : c < 16) (h4 : 4 ≤ c) (T : Int32) : ¬ f_X6_isBy n lies T (nI c) 0 (-1) = 0 ↔ c % 4 ≠ 0 ∧ onB n cl (bt T) (c - 1) := by
  have h := by_l c hc h4
  exact isBy_gen hI (by omega) T h.1 h.2.1 (fun _ => h.2.2)
theorem isBy_r {n sp : Nat} {cl kd : Nat → Nat} {plain key stair air : Int32} {cells kinds lies kind : Nat → Int32} (hI : Idea n sp cl kd plain key stair air cells kinds lies kind) {c : Nat} (hc : c < 16) (h4 : 4 ≤ c) (T : Int32) : ¬ f_X6_isBy n lies T (nI c) 0 1 = 0 ↔ c % 4 ≠ 3 ∧ onB n cl (bt T) (c + 1) := by
  have h := by_r c hc h4
  exact isBy_gen hI (by omega) T h.1 h.2.1 (fun _ => h.2.2)
theorem isBy_ul {n sp : Nat} {cl kd : Nat → Nat} {plain key stair air : Int32} {cells kinds lies kind : Nat → Int32} (hI : Idea n sp cl kd plain key stair air cells kinds lies kind) {c : Nat} (hc : c < 16) (h4 : 4 ≤ c) (T : Int32) : ¬ f_X6_isBy n lies T (nI c) (-1) (-1) = 0 ↔ c % 4 ≠ 0 ∧ onB n cl (bt T) (c - 5) := by
  have h := by_ul c hc h4
  exact isBy_gen hI (by omega) T h.1 h.2.1 h.2.2
theorem isBy_ur {n sp : Nat} {cl kd : Nat → Nat} {plain key stair air : Int32} {cells kinds lies kind : Nat → Int32} (hI : Idea n sp cl kd plain key stair air cells kinds lies kind) {c : Nat} (hc : c < 16) (h4 : 4 ≤ c) (T : Int32) : ¬ f_X6_isBy n lies T (nI c) (-1) 1 = 0 ↔ c % 4 ≠ 3 ∧ onB n cl (bt T) (c - 3) := by
  have h := by_ur c hc h4
  exact isBy_gen hI (by omega) T h.1 h.2.1 (fun _ => h.2.2)
theorem standsBy_ok {k : Nat} (hk : k < 4) (a2 a3 a4 a5 a6 : Int32) : ¬ f_X6_standsBy (nI k) a2 a3 a4 a5 a6 = 0 ↔ k = 3 ∨ (k = 0 ∧ ¬ a2 = 0) ∨ (k = 1 ∧ ¬ a3 = 0 ∧ ¬ a4 = 0) ∨ (k = 2 ∧ (¬ a2 = 0 ∨ ¬ a5 = 0 ∨ ¬ a6 = 0)) := by
  unfold f_X6_standsBy
  match k, hk with
  | 0, _ => rw [if_neg (by decide), if_neg (by decide), if_neg (by decide)]; simp
  | 1, _ =>
    rw [if_pos (by decide)]
    by_cases h3 : a3 = 0 <;> by_cases h4 : a4 = 0 <;> simp [h3, h4]
  | 2, _ =>
    rw [if_neg (by decide), if_pos (by decide)]
    by_cases h3 : a2 = 0 <;> by_cases h4 : a5 = 0 <;> by_cases h5 : a6 = 0 <;> simp [h3, h4, h5]
  | 3, _ => rw [if_neg (by decide), if_neg (by decide), if_pos (by decide)]; simp
  | k + 4, h => exact absurd h (by omega)
theorem hasPole_ok {cl h : Nat → Nat} {f : Nat → Int32} (hf : ∀ c, c < 4 → f c = nI (h c) ∧ h c ≤ 4) {p : Nat} (hp : cl p < 16) : ¬ f_X6_hasPole cl p f = 0 ↔ cl p / 4 < h (cl p % 4) := by
  unfold f_X6_hasPole
  have h1 := hf (cl p % 4) (by omega)
  rw [h1.1]
  by_cases h2 : h (cl p % 4) ≤ cl p / 4
  · rw [if_pos (nI_le h2 (by omega))]; exact ⟨fun h => absurd rfl h, fun h => by omega⟩
  · rw [if_neg (nI_ge (by omega) (by omega))]; exact ⟨fun _ => by omega, fun _ => by decide⟩
theorem stands_ok {n sp : Nat} {cl kd : Nat → Nat} {plain key stair air : Int32} {cells kinds lies kind : Nat → Int32} (hI : Idea n sp cl kd plain key stair air cells kinds lies kind) {h : Nat → Nat} {f : Nat → Int32} (hf : ∀ c, c < 4 → f c = nI (h c) ∧ h c ≤ 4) {p : Nat} (hp : p < n) (T : Int32) : ¬ f_X6_stands cl n p f lies kind T = 0 ↔ std n cl kd h (bt T) p := by
  have hc : cl p < 16 := (hI.2.2.1 p (by have := hI.1; omega)).2
  have hk := hI.2.2.2.2.2.2.1 p hp
  unfold f_X6_stands std
  by_cases h4 : cl p < 4
  · rw [if_pos (show nI (cl p) < (4 : Int32) from nI_lt (b := 4) h4 (by omega))]
    exact ⟨fun _ => Or.inl h4, fun _ => by decide⟩
  · rw [if_neg (show ¬ nI (cl p) < (4 : Int32) from nI_nlt (b := 4) (by omega) (by omega))]
    have hpo := hasPole_ok hf hc
    by_cases hq : f_X6_hasPole cl p f = 0
    · rw [if_pos hq, hk.1, standsBy_ok hk.2.2, isBy_u hI hc (by omega), isBy_l hI hc (by omega), isBy_r hI hc (by omega), isBy_ul hI hc (by omega), isBy_ur hI hc (by omega)]
      have hq2 : ¬ cl p / 4 < h (cl p % 4) := fun h2 => (hpo.mpr h2) hq
      constructor
      · intro a; exact Or.inr (Or.inr a)
      · rintro (a | a | a)
        · exact absurd a h4
        · exact absurd a hq2
        · exact a
    · rw [if_neg hq]
      exact ⟨fun _ => Or.inr (Or.inl (hpo.mp hq)), fun _ => by decide⟩
theorem onB_mono {n : Nat} {cl : Nat → Nat} {S T : Nat → Bool} (hS : ∀ p, S p = true → T p = true) {c : Nat} (h : onB n cl S c) : onB n cl T c := by
  obtain ⟨p, h1, h2, h3⟩ := h
  exact ⟨p, h1, h2, hS p h3⟩
theorem std_mono {n : Nat} {cl kd h h' : Nat → Nat} {S T : Nat → Bool} (hS : ∀ p, S p = true → T p = true) (hh : ∀ c, h c ≤ h' c) {p : Nat} (a : std n cl kd h S p) : std n cl kd h' T p := by
  unfold std at *
  rcases a with a | a | a | a | a | a
  · exact Or.inl a
  · exact Or.inr (Or.inl (by have := hh (cl p % 4); omega))
  · exact Or.inr (Or.inr (Or.inl a))
  · exact Or.inr (Or.inr (Or.inr (Or.inl ⟨a.1, onB_mono hS a.2⟩)))
  · exact Or.inr (Or.inr (Or.inr (Or.inr (Or.inl ⟨a.1, ⟨a.2.1.1, onB_mono hS a.2.1.2⟩, ⟨a.2.2.1, onB_mono hS a.2.2.2⟩⟩))))
  · refine Or.inr (Or.inr (Or.inr (Or.inr (Or.inr ⟨a.1, ?_⟩))))
    rcases a.2 with b | b | b
    · exact Or.inl (onB_mono hS b)
    · exact Or.inr (Or.inl ⟨b.1, onB_mono hS b.2⟩)
    · exact Or.inr (Or.inr ⟨b.1, onB_mono hS b.2⟩)
theorem lfp_one {n : Nat} {cl kd h : Nat → Nat} {hd S T : Nat → Bool} (hS : IsLfp n cl kd h hd S) (hT : IsLfp n cl kd h hd T) (p : Nat) : S p = T p := by
  have h1 := hS.2.2 T hT.2.1 p
  have h2 := hT.2.2 S hS.2.1 p
  cases ha : S p <;> cases hb : T p <;> simp_all
/-- one pass of a settling: between S and every closed set above it, and it takes what stands by S -/
def Pass (n : Nat) (cl kd h : Nat → Nat) (hd S S' : Nat → Bool) : Prop := (∀ p, S p = true → S' p = true) ∧ (∀ p, S' p = true → S p = true ∨ (p < n ∧ hd p = true)) ∧ (∀ T', clos n cl kd h hd T' → (∀ p, S p = true → T' p = true) → ∀ p, S' p = true → T' p = true) ∧ (∀ p, p < n → hd p = true → std n cl kd h S p → S' p = true)
/-- a set that grows at each pass is closed after seven -/
theorem pass_grow {n : Nat} {cl kd h : Nat → Nat} {hd S S' : Nat → Bool} (h7 : n ≤ 7) (hP : Pass n cl kd h hd S S') : (clos n cl kd h hd S ∧ ∀ p, S' p = S p) ∨ fb_ct S 7 + 1 ≤ fb_ct S' 7 := by
  by_cases hc : clos n cl kd h hd S
  · refine Or.inl ⟨hc, fun p => ?_⟩
    have h1 := hP.1 p
    have h2 := hP.2.2.1 S hc (fun p h => h) p
    cases ha : S p <;> cases hb : S' p <;> simp_all
  · refine Or.inr ?_
    have : ∃ p, p < n ∧ hd p = true ∧ std n cl kd h S p ∧ ¬ S p = true := by
      refine Classical.byContradiction fun hx => hc (fun p hp hh hs => ?_)
      exact Classical.byContradiction fun hy => hx ⟨p, hp, hh, hs, hy⟩
    obtain ⟨p, hp, hh, hs, hn⟩ := this
    have hS' := hP.2.2.2 p hp hh hs
    have e := fb_ct_upd S true (i := p) (n := 7) (by omega)
    have hf : S p = false := by cases hz : S p <;> simp_all
    rw [hf] at e
    simp only [Bool.false_eq_true, if_false, if_true] at e
    have l : fb_ct (fun k => if k = p then true else S k) 7 ≤ fb_ct S' 7 := by
      apply fb_ct_sub
      intro k hk hx
      by_cases e : k = p
      · rw [e]; exact hS'
      · rw [if_neg e] at hx; exact hP.1 k hx
    omega
theorem full_clos {n : Nat} {cl kd h : Nat → Nat} {hd S : Nat → Bool} (h7 : n ≤ 7) (hS : 7 ≤ fb_ct S 7) : clos n cl kd h hd S := by
  intro p hp _ _
  have := fb_ct_le S 7
  exact (fb_ct_all (n := 7)).mp (by omega) p (by omega)
theorem pass13 {n sp : Nat} {cl kd : Nat → Nat} {plain key stair air : Int32} {cells kinds lies kind : Nat → Int32} (hI : Idea n sp cl kd plain key stair air cells kinds lies kind) {h : Nat → Nat} {f : Nat → Int32} (hf : ∀ c, c < 4 → f c = nI (h c) ∧ h c ≤ 4) : ∀ (d i : Nat) (S : Int32), i + d = n → (∀ p, bt S p = true → bt (f_X6_standing_l13 cl n f lies kind d i S) p = true) ∧ (∀ p, bt (f_X6_standing_l13 cl n f lies kind d i S) p = true → bt S p = true ∨ (p < n ∧ bt (f 5) p = true)) ∧ (∀ T', clos n cl kd h (bt (f 5)) T' → (∀ p, bt S p = true → T' p = true) → ∀ p, bt (f_X6_standing_l13 cl n f lies kind d i S) p = true → T' p = true) ∧ (∀ p, i ≤ p → p < n → bt (f 5) p = true → std n cl kd h (bt S) p → bt (f_X6_standing_l13 cl n f lies kind d i S) p = true) := by
  intro d
  induction d with
  | zero =>
    intro i S hi
    rw [f_X6_standing_l13_z]
    exact ⟨fun p h => h, fun p h => Or.inl h, fun T' _ h => h, fun p h1 h2 => by omega⟩
  | succ d ih =>
    intro i S hi
    have hn : n ≤ 7 := hI.1
    have key : ∃ S', f_X6_standing_l13 cl n f lies kind (d + 1) i S = f_X6_standing_l13 cl n f lies kind d (i + 1) S' ∧ ((S' = S ∧ ¬ (bt (f 5) i = true ∧ std n cl kd h (bt S) i)) ∨ ((∀ k, bt S' k = true ↔ bt S k = true ∨ k = i) ∧ bt (f 5) i = true ∧ std n cl kd h (bt S) i)) := by
      rw [f_X6_standing_l13_s]
      have z : S ||| (0 : Int32) = S := by
        apply b_ext; intro k hk; rw [b_or, b_0]; simp
      by_cases h1 : f_X6_has (f 5) (nI i) = 0
      · rw [if_pos h1, z]
        refine ⟨S, rfl, Or.inl ⟨rfl, fun h2 => ?_⟩⟩
        rw [has_f (by omega)] at h1
        rw [h1] at h2
        cases h2.1
      · rw [if_neg h1]
        have hb := (has_t (by omega) _).mp h1
        have hs := stands_ok hI hf (p := i) (by omega) S
        by_cases h2 : f_X6_stands cl n i f lies kind S = 0
        · rw [if_pos h2, z]
          exact ⟨S, rfl, Or.inl ⟨rfl, fun h3 => hs.mpr h3.2 h2⟩⟩
        · rw [if_neg h2]
          refine ⟨_, rfl, Or.inr ⟨fun k => ?_, hb, hs.mp h2⟩⟩
          rcases Nat.lt_or_ge k 32 with hk | hk
          · rw [b_or, bt_one (by omega) hk]; simp
          · rw [b_big hk, b_big hk]; constructor
            · intro h; cases h
            · rintro (h | h)
              · cases h
              · omega
    obtain ⟨S', e, hS⟩ := key
    rw [e]
    obtain ⟨i1, i2, i3, i4⟩ := ih (i + 1) S' (by omega)
    rcases hS with ⟨rfl, hno⟩ | ⟨hS, hb, hs⟩
    · refine ⟨i1, i2, i3, fun p h1 h2 h3 h4 => ?_⟩
      by_cases hp : p = i
      · subst hp; exact absurd ⟨h3, h4⟩ hno
      · exact i4 p (by omega) h2 h3 h4
    · have sub : ∀ p, bt S p = true → bt S' p = true := fun p h => (hS p).mpr (Or.inl h)
      refine ⟨fun p h => i1 p (sub p h), fun p h => ?_, fun T' hT hST => ?_, fun p h1 h2 h3 h4 => ?_⟩
      · rcases i2 p h with h | h
        · rcases (hS p).mp h with h | rfl
          · exact Or.inl h
          · exact Or.inr ⟨by omega, hb⟩
        · exact Or.inr h
      · refine i3 T' hT (fun p h => ?_)
        rcases (hS p).mp h with h | rfl
        · exact hST p h
        · exact hT p (by omega) hb (std_mono hST (fun _ => Nat.le_refl _) hs)
      · by_cases hp : p = i
        · exact i1 p ((hS p).mpr (Or.inr hp))
        · exact i4 p (by omega) h2 h3 (std_mono sub (fun _ => Nat.le_refl _) h4)
theorem stand_loop {n sp : Nat} {cl kd : Nat → Nat} {plain key stair air : Int32} {cells kinds lies kind : Nat → Int32} (hI : Idea n sp cl kd plain key stair air cells kinds lies kind) {h : Nat → Nat} {f : Nat → Int32} (hf : ∀ c, c < 4 → f c = nI (h c) ∧ h c ≤ 4) : ∀ (d i : Nat) (S : Int32), (∀ p, bt S p = true → p < n ∧ bt (f 5) p = true) → (∀ T', clos n cl kd h (bt (f 5)) T' → ∀ p, bt S p = true → T' p = true) → (clos n cl kd h (bt (f 5)) (bt S) ∨ 7 ≤ d + fb_ct (bt S) 7) → IsLfp n cl kd h (bt (f 5)) (bt (f_X6_standing_l4 cl n f lies kind d i S)) := by
  intro d
  induction d with
  | zero =>
    intro i S h1 h2 h3
    rw [f_X6_standing_l4_z]
    refine ⟨h1, ?_, h2⟩
    rcases h3 with h3 | h3
    · exact h3
    · exact full_clos hI.1 (by omega)
  | succ d ih =>
    intro i S h1 h2 h3
    rw [f_X6_standing_l4_s]
    obtain ⟨p1, p2, p3, p4⟩ := pass13 hI hf n 0 S (by omega)
    have hP : Pass n cl kd h (bt (f 5)) (bt S) (bt (f_X6_standing_l13 cl n f lies kind n 0 S)) := ⟨p1, p2, p3, fun p hp a b => p4 p (by omega) hp a b⟩
    refine ih (i + 1) _ (fun p hp => ?_) (fun T' hT p hp => p3 T' hT (h2 T' hT) p hp) ?_
    · rcases p2 p hp with a | a
      · exact h1 p a
      · exact a
    · rcases pass_grow hI.1 hP with ⟨hc, he⟩ | hg
      · left
        rw [funext he]; exact hc
      · rcases h3 with h3 | h3
        · left
          have : ∀ p, bt (f_X6_standing_l13 cl n f lies kind n 0 S) p = bt S p := by
            intro p
            have q1 := p1 p
            have q2 := p3 _ h3 (fun p h => h) p
            cases ha : bt S p <;> cases hb : bt (f_X6_standing_l13 cl n f lies kind n 0 S) p <;> simp_all
          rw [funext this]; exact h3
        · right; omega
/-- the reference's settling is the least closed set -/
theorem stand_ref {n sp : Nat} {cl kd : Nat → Nat} {plain key stair air : Int32} {cells kinds lies kind : Nat → Int32} (hI : Idea n sp cl kd plain key stair air cells kinds lies kind) {h : Nat → Nat} {f : Nat → Int32} (hf : ∀ c, c < 4 → f c = nI (h c) ∧ h c ≤ 4) : IsLfp n cl kd h (bt (f 5)) (bt (f_X6_standing cl n f lies kind)) := by
  have z : ∀ p, ¬ bt (0 : Int32) p = true := fun p => by rw [b_0]; exact Bool.false_ne_true
  exact stand_loop hI hf 7 0 0 (fun p h => absurd h (z p)) (fun T' _ p h => absurd h (z p)) (Or.inr (by omega))
