def leastSpec (sp plain key stair air W : Int32) (k : Nat) (fr v : Int32) : Prop := (∃ num, num < 8 ^ k ∧ okO sp plain key stair air W k num fr ∧ (∀ m, m < num → ¬ okO sp plain key stair air W k m fr) ∧ v = nI (codeN num k)) ∨ ((∀ m, m < 8 ^ k → ¬ okO sp plain key stair air W k m fr) ∧ v = -9)
theorem l51_step (rec : Int32 → Int32) (sp plain key stair air fr : Int32) (k d g : Nat) (hg : g < 8) : f_lr_s_l51 rec sp plain key stair air fr k (d + 1) (g + 1) = match stepO sp plain key stair air fr g with
    | none => f_lr_s_l51 rec sp plain key stair air fr k d (g + 1 + 1)
    | some f1 => if rec f1 = -9 then f_lr_s_l51 rec sp plain key stair air fr k d (g + 1 + 1) else nI (g + 1) * (f_X5_powerOfTen k).toInt32 + rec f1 := by
  rw [f_lr_s_l51_s, show g + 1 - 1 = g by omega]
  unfold stepO
  by_cases e : 4 ≤ g
  · rw [if_pos e, if_pos (show (4 : Int32) < nI (g + 1) from nI_lt (a := 4) (by omega) (by omega))]
    by_cases e2 : f_X2_canStrike fr (nI (g % 4)) = 0
    · rw [if_pos e2, if_pos e2]
    · rw [if_neg e2, if_neg e2]
  · rw [if_neg e, if_neg (show ¬ (4 : Int32) < nI (g + 1) from nI_nlt (a := 4) (by omega) (by omega))]
    by_cases e2 : f_X2_canPut sp fr (nI (g % 4)) = 0
    · rw [if_pos e2, if_pos e2]
    · rw [if_neg e2, if_neg e2]
theorem pw10k : ∀ k, k ≤ 4 → (f_X5_powerOfTen k).toInt32 = nI (10 ^ k) := by decide +kernel
theorem lr_l {n sp : Nat} {cl kd : Nat → Nat} {plain key stair air : Int32} {cells kinds lies kind : Nat → Int32} (hI : Idea n sp cl kd plain key stair air cells kinds lies kind) {W fr : Int32} {t : Nat → Int32} (hF : FR n sp cl kd fr t) {k : Nat} (hk : k ≤ 3) {rec : Int32 → Int32} (hrec : ∀ f1 t', FR n sp cl kd f1 t' → leastSpec (nI sp) plain key stair air W k f1 (rec f1)) : ∀ (d g : Nat), g + d = 8 → (∃ num, 8 ^ k * g ≤ num ∧ num < 8 ^ k * 8 ∧ okO (nI sp) plain key stair air W (k + 1) num fr ∧ (∀ m, 8 ^ k * g ≤ m → m < num → ¬ okO (nI sp) plain key stair air W (k + 1) m fr) ∧ f_lr_s_l51 rec (nI sp) plain key stair air fr k d (g + 1) = nI (codeN num (k + 1))) ∨ ((∀ m, 8 ^ k * g ≤ m → m < 8 ^ k * 8 → ¬ okO (nI sp) plain key stair air W (k + 1) m fr) ∧ f_lr_s_l51 rec (nI sp) plain key stair air fr k d (g + 1) = -9) := by
  intro d
  induction d with
  | zero =>
    intro g hg
    rw [f_lr_s_l51_z]
    exact Or.inr ⟨fun m h1 h2 => by rw [show g = 8 by omega] at h1; omega, rfl⟩
  | succ d ih =>
    intro g hg
    have hg8 : g < 8 := by omega
    have hi := ih (g + 1) (by omega)
    have hP : 8 ^ k * (g + 1) = 8 ^ k * g + 8 ^ k := Nat.mul_succ _ _
    have hP8 : 8 ^ k * (g + 1) ≤ 8 ^ k * 8 := Nat.mul_le_mul_left _ (by omega)
    rw [hP] at hi hP8
    have blk : ∀ m, 8 ^ k * g ≤ m → m < 8 ^ k * g + 8 ^ k → (okO (nI sp) plain key stair air W (k + 1) m fr ↔ ∃ f1, stepO (nI sp) plain key stair air fr g = some f1 ∧ okO (nI sp) plain key stair air W k (m - 8 ^ k * g) f1) := by
      intro m h1 h2
      have := okO_succ (sp := nI sp) (plain := plain) (key := key) (stair := stair) (air := air) (W := W) (k := k) hg8 (show m - 8 ^ k * g < 8 ^ k by omega) fr
      rwa [show 8 ^ k * g + (m - 8 ^ k * g) = m by omega] at this
    /- nothing in this block -/
    have skip : (∀ m, 8 ^ k * g ≤ m → m < 8 ^ k * g + 8 ^ k → ¬ okO (nI sp) plain key stair air W (k + 1) m fr) → f_lr_s_l51 rec (nI sp) plain key stair air fr k (d + 1) (g + 1) = f_lr_s_l51 rec (nI sp) plain key stair air fr k d (g + 1 + 1) → (∃ num, 8 ^ k * g ≤ num ∧ num < 8 ^ k * 8 ∧ okO (nI sp) plain key stair air W (k + 1) num fr ∧ (∀ m, 8 ^ k * g ≤ m → m < num → ¬ okO (nI sp) plain key stair air W (k + 1) m fr) ∧ f_lr_s_l51 rec (nI sp) plain key stair air fr k (d + 1) (g + 1) = nI (codeN num (k + 1))) ∨ ((∀ m, 8 ^ k * g ≤ m → m < 8 ^ k * 8 → ¬ okO (nI sp) plain key stair air W (k + 1) m fr) ∧ f_lr_s_l51 rec (nI sp) plain key stair air fr k (d + 1) (g + 1) = -9) := by
      intro hno he
      rw [he]
      rcases hi with ⟨num, a1, a2, a3, a4, a5⟩ | ⟨a1, a2⟩
      · refine Or.inl ⟨num, by omega, a2, a3, fun m h1 h2 => ?_, a5⟩
        rcases Nat.lt_or_ge m (8 ^ k * g + 8 ^ k) with h3 | h3
        · exact hno m h1 h3
        · exact a4 m h3 h2
      · refine Or.inr ⟨fun m h1 h2 => ?_, a2⟩
        rcases Nat.lt_or_ge m (8 ^ k * g + 8 ^ k) with h3 | h3
        · exact hno m h1 h3
        · exact a1 m h3 h2
    have hst := l51_step rec (nI sp) plain key stair air fr k d g hg8
    cases hs : stepO (nI sp) plain key stair air fr g with
    | none =>
      rw [hs] at hst
      refine skip (fun m h1 h2 ho => ?_) hst
      obtain ⟨f1, h3, _⟩ := (blk m h1 h2).mp ho
      rw [hs] at h3; cases h3
    | some f1 =>
      rw [hs] at hst
      have hst : f_lr_s_l51 rec (nI sp) plain key stair air fr k (d + 1) (g + 1) = if rec f1 = -9 then f_lr_s_l51 rec (nI sp) plain key stair air fr k d (g + 1 + 1) else nI (g + 1) * (f_X5_powerOfTen k).toInt32 + rec f1 := hst
      obtain ⟨t', hF'⟩ := step_FR hI hF hg8 hs
      rcases hrec f1 t' hF' with ⟨r, b1, b2, b3, b4⟩ | ⟨b1, b2⟩
      · have hcl : codeN r k < 10 ^ k := codeN_lt r k
        have h10 : 10 ^ k ≤ 10 ^ 3 := Nat.pow_le_pow_right (by omega) hk
        rw [b4, if_neg (nI_ne9 (by omega)), pw10k k (by omega), pk_mul, nI_add] at hst
        refine Or.inl ⟨8 ^ k * g + r, by omega, by omega, (blk _ (by omega) (by omega)).mpr ⟨f1, hs, by rw [show 8 ^ k * g + r - 8 ^ k * g = r by omega]; exact b2⟩, fun m h1 h2 ho => ?_, ?_⟩
        · obtain ⟨f2, h3, h4⟩ := (blk m h1 (by omega)).mp ho
          rw [hs] at h3
          have e : f1 = f2 := by injection h3
          subst e
          exact b3 _ (by omega) h4
        · rw [hst, codeN_succ hg8 b1]
      · rw [b2, if_pos rfl] at hst
        refine skip (fun m h1 h2 ho => ?_) hst
        obtain ⟨f2, h3, h4⟩ := (blk m h1 h2).mp ho
        rw [hs] at h3
        have e : f1 = f2 := by injection h3
        subst e
        exact b1 _ (by omega) h4
theorem lr_ok {n sp : Nat} {cl kd : Nat → Nat} {plain key stair air : Int32} {cells kinds lies kind : Nat → Int32} (hI : Idea n sp cl kd plain key stair air cells kinds lies kind) {W : Int32} (hW : ∀ c, 16 ≤ c → bt W c = false) : ∀ (k : Nat), k ≤ 4 → ∀ (fr : Int32) (t : Nat → Int32), FR n sp cl kd fr t → leastSpec (nI sp) plain key stair air W k fr (f_lr (nI sp) plain key stair air W k fr) := by
  intro k
  induction k with
  | zero =>
    intro _ fr t hF
    rw [f_lr, f_lr_z]
    by_cases e : W &&& (f_X1_had fr ^^^ -1) = 0
    · rw [if_pos e]
      exact Or.inl ⟨0, by omega, ⟨fr, rfl, e⟩, fun m hm => by omega, rfl⟩
    · rw [if_neg e]
      refine Or.inr ⟨fun m _ ho => ?_, rfl⟩
      obtain ⟨f', h1, h2⟩ := ho
      rw [runO] at h1
      have e2 : fr = f' := by injection h1
      subst e2
      exact e h2
  | succ k ih =>
    intro hk fr t hF
    rw [f_lr, f_lr_s]
    have hn : f_J6_bitCount (f_X5_downToGround (W &&& (f_X1_had fr ^^^ -1)) &&& (f_X1_poles fr ^^^ -1)) = nI (fb_ct (bt (need W fr)) 16) := needN hW fr
    have hle := fb_ct_le (bt (need W fr)) 16
    rw [hn]
    by_cases e : fb_ct (bt (need W fr)) 16 ≤ k + 1
    · rw [if_pos (nI_le e (by omega))]
      have h := lr_l hI (W := W) hF (k := k) (by omega) (rec := fun z => f_lr (nI sp) plain key stair air W k z) (fun f1 t' hF' => ih (by omega) f1 t' hF') 8 0 (by omega)
      have h8 : 8 ^ (k + 1) = 8 ^ k * 8 := Nat.pow_succ ..
      rcases h with ⟨num, a1, a2, a3, a4, a5⟩ | ⟨a1, a2⟩
      · exact Or.inl ⟨num, by omega, a3, fun m hm => a4 m (by omega) hm, a5⟩
      · exact Or.inr ⟨fun m hm => a1 m (by omega) (by omega), a2⟩
    · rw [if_neg (nI_ge (by omega) (by omega))]
      exact Or.inr ⟨fun m _ ho => e (need_ok hI hW (k + 1) m fr t hF ho), rfl⟩
theorem acts_l {n sp : Nat} {cl kd : Nat → Nat} {plain key stair air : Int32} {cells kinds lies kind : Nat → Int32} (hI : Idea n sp cl kd plain key stair air cells kinds lies kind) (nn num : Nat) : ∀ (d i s : Nat) (fr : Int32) (t : Nat → Int32), i + d = nn → FR n sp cl kd fr t → (runO (nI sp) plain key stair air num d fr = none ∧ (f_X6_actsBy_l11 cl n nn num lies kind d i (nI s) t).1 = 0) ∨ (∃ f1, runO (nI sp) plain key stair air num d fr = some f1 ∧ ¬ (f_X6_actsBy_l11 cl n nn num lies kind d i (nI s) t).1 = 0 ∧ FR n sp cl kd f1 (f_X6_actsBy_l11 cl n nn num lies kind d i (nI s) t).2.2 ∧ (f_X6_actsBy_l11 cl n nn num lies kind d i (nI s) t).2.1 = nI (s * 10 ^ d + codeN num d)) := by
  intro d
  induction d with
  | zero =>
    intro i s fr t hi hF
    rw [f_X6_actsBy_l11_z]
    refine Or.inr ⟨fr, rfl, one_ne, hF, ?_⟩
    show nI s = nI (s * 10 ^ 0 + 0)
    rw [Nat.pow_zero, Nat.mul_one, Nat.add_zero]
  | succ d ih =>
    intro i s fr t hi hF
    rw [f_X6_actsBy_l11_s, show nn - 1 - i = d by omega, runO]
    have hg : num / 8 ^ d % 8 < 8 := Nat.mod_lt _ (by omega)
    have es : (10 : Int32) * nI s + nI (num / 8 ^ d % 8) + 1 = nI (10 * s + num / 8 ^ d % 8 + 1) := by
      rw [show (10 : Int32) = nI 10 from rfl, pk_mul, nI_add, nI_1]
    have ec : (10 * s + num / 8 ^ d % 8 + 1) * 10 ^ d + codeN num d = s * 10 ^ (d + 1) + codeN num (d + 1) := by
      rw [codeN, Nat.pow_succ, Nat.add_assoc (10 * s), Nat.add_mul, Nat.mul_comm 10 s, Nat.mul_assoc, Nat.mul_comm 10 (10 ^ d), Nat.add_assoc]
    rw [es]
    generalize hgg : num / 8 ^ d % 8 = g at *
    rcases step_ok hI hF hg with ⟨a, b, c⟩ | ⟨f1, a, b, c⟩
    · rw [a]
      refine Or.inl ⟨rfl, ?_⟩
      by_cases e : 4 ≤ g
      · rw [if_pos (show (4 : Int32) ≤ nI g from nI_le (a := 4) e (by omega)), if_pos (b e)]
      · rw [if_neg (show ¬ (4 : Int32) ≤ nI g from nI_ge (b := 4) (by omega) (by omega)), if_pos (c e)]
    · rw [a]
      show (runO (nI sp) plain key stair air num d f1 = none ∧ _) ∨ (∃ f2, runO (nI sp) plain key stair air num d f1 = some f2 ∧ _)
      by_cases e : 4 ≤ g
      · rw [if_pos (show (4 : Int32) ≤ nI g from nI_le (a := 4) e (by omega)), if_neg (b e).1, ← ec]
        exact ih (i + 1) _ f1 _ (by omega) (b e).2
      · rw [if_neg (show ¬ (4 : Int32) ≤ nI g from nI_ge (b := 4) (by omega) (by omega)), if_neg (c e).1, ← ec]
        exact ih (i + 1) _ f1 _ (by omega) (c e).2
/-- the wish is had: in cells and in parts -/
theorem wish_ok {n sp : Nat} {cl kd : Nat → Nat} {plain key stair air : Int32} {cells kinds lies kind : Nat → Int32} (hI : Idea n sp cl kd plain key stair air cells kinds lies kind) {a1 : Int32} (ha : ∀ p, bt a1 p = true → p < n) {fr : Int32} {t : Nat → Int32} (hF : FR n sp cl kd fr t) : f_X2_cellsOf cells a1 &&& (f_X1_had fr ^^^ -1) = 0 ↔ a1 &&& (t 5 ^^^ -1) = 0 := by
  obtain ⟨h, hF⟩ := hF
  have h7 := hI.1
  constructor
  · intro e
    apply b_ext
    intro k hk
    rw [b_and, bt_not hk, b_0]
    cases hb : bt a1 k
    · rfl
    · have hkn := ha k hb
      have hc := hI.c16 hkn
      have : bt (f_X2_cellsOf cells a1 &&& (f_X1_had fr ^^^ -1)) (cl k) = false := by rw [e, b_0]
      rw [b_and, bt_not (by omega), (cellsOf_ok hI a1 (cl k)).mpr ⟨k, hkn, rfl, hb⟩, had_p hI hF hkn] at this
      simpa using this
  · intro e
    apply b_ext
    intro k hk
    rw [b_and, bt_not hk, b_0]
    cases hb : bt (f_X2_cellsOf cells a1) k
    · rfl
    · obtain ⟨p, hp, ec, hx⟩ := (cellsOf_ok hI a1 k).mp hb
      subst ec
      have : bt (a1 &&& (t 5 ^^^ -1)) p = false := by rw [e, b_0]
      rw [b_and, bt_not (by omega), hx] at this
      rw [had_p hI hF hp]
      simpa using this
theorem find9 {n sp : Nat} {cl kd : Nat → Nat} {plain key stair air : Int32} {cells kinds lies kind : Nat → Int32} (hI : Idea n sp cl kd plain key stair air cells kinds lies kind) {a1 now : Int32} (ha : ∀ p, bt a1 p = true → p < n) {page : Nat → Int32} (hF : FR n sp cl kd now page) (kk : Int32 → (Nat → Int32) → Int32 × Int32 × (Nat → Int32)) (k : Nat) : ∀ (d i : Nat) (sw : Int32) (t : Nat → Int32), (∃ num, i ≤ num ∧ num < i + d ∧ okO (nI sp) plain key stair air (f_X2_cellsOf cells a1) k num now ∧ (∀ m, i ≤ m → m < num → ¬ okO (nI sp) plain key stair air (f_X2_cellsOf cells a1) k m now) ∧ (f_X6_findSoon_l9 kk cl n lies kind page a1 k d i sw t).1 = nI k ∧ (f_X6_findSoon_l9 kk cl n lies kind page a1 k d i sw t).2.1 = nI (codeN num k)) ∨ ((∀ m, i ≤ m → m < i + d → ¬ okO (nI sp) plain key stair air (f_X2_cellsOf cells a1) k m now) ∧ ∃ sw' t', f_X6_findSoon_l9 kk cl n lies kind page a1 k d i sw t = kk sw' t') := by
  intro d
  induction d with
  | zero =>
    intro i sw t
    rw [f_X6_findSoon_l9_z]
    exact Or.inr ⟨fun m h1 h2 => by omega, sw, t, rfl⟩
  | succ d ih =>
    intro i sw t
    rw [f_X6_findSoon_l9_s]
    have hb : FR n sp cl kd now (f_X6_begin page t) := FR_congr (fun k hk => begin_at page t k (by omega)) hF
    have hx : (runO (nI sp) plain key stair air i k now = none ∧ (f_X6_actsBy cl n k i lies kind page t).1 = 0) ∨ (∃ f1, runO (nI sp) plain key stair air i k now = some f1 ∧ ¬ (f_X6_actsBy cl n k i lies kind page t).1 = 0 ∧ FR n sp cl kd f1 (f_X6_actsBy cl n k i lies kind page t).2.2 ∧ (f_X6_actsBy cl n k i lies kind page t).2.1 = nI (0 * 10 ^ k + codeN i k)) := acts_l hI k i k 0 0 now (f_X6_begin page t) (by omega) hb
    generalize f_X6_actsBy cl n k i lies kind page t = R at hx
    have next : ¬ okO (nI sp) plain key stair air (f_X2_cellsOf cells a1) k i now → (∃ num, i ≤ num ∧ num < i + (d + 1) ∧ okO (nI sp) plain key stair air (f_X2_cellsOf cells a1) k num now ∧ (∀ m, i ≤ m → m < num → ¬ okO (nI sp) plain key stair air (f_X2_cellsOf cells a1) k m now) ∧ (f_X6_findSoon_l9 kk cl n lies kind page a1 k d (i + 1) R.2.1 R.2.2).1 = nI k ∧ (f_X6_findSoon_l9 kk cl n lies kind page a1 k d (i + 1) R.2.1 R.2.2).2.1 = nI (codeN num k)) ∨ ((∀ m, i ≤ m → m < i + (d + 1) → ¬ okO (nI sp) plain key stair air (f_X2_cellsOf cells a1) k m now) ∧ ∃ sw' t', f_X6_findSoon_l9 kk cl n lies kind page a1 k d (i + 1) R.2.1 R.2.2 = kk sw' t') := by
      intro hno
      rcases ih (i + 1) R.2.1 R.2.2 with ⟨num, b1, b2, b3, b4, b5, b6⟩ | ⟨b1, b2⟩
      · refine Or.inl ⟨num, by omega, by omega, b3, fun m h1 h2 => ?_, b5, b6⟩
        by_cases e : m = i
        · subst e; exact hno
        · exact b4 m (by omega) h2
      · refine Or.inr ⟨fun m h1 h2 => ?_, b2⟩
        by_cases e : m = i
        · subst e; exact hno
        · exact b1 m (by omega) (by omega)
    rcases hx with ⟨h1, h2⟩ | ⟨f1, h1, h2, h3, h4⟩
    · rw [if_pos h2]
      refine next (fun ho => ?_)
      obtain ⟨f', h3, _⟩ := ho
      rw [h1] at h3; cases h3
    · rw [if_neg h2]
      have hw := wish_ok hI ha h3
      by_cases e : a1 &&& (R.2.2 5 ^^^ -1) = 0
      · rw [if_pos e]
        refine Or.inl ⟨i, by omega, by omega, ⟨f1, h1, hw.mpr e⟩, fun m h5 h6 => by omega, rfl, ?_⟩
        show R.2.1 = nI (codeN i k)
        rw [h4, Nat.zero_mul, Nat.zero_add]
      · rw [if_neg e]
        refine next (fun ho => ?_)
        obtain ⟨f', h5, h6⟩ := ho
        rw [h1] at h5
        have e2 : f1 = f' := by injection h5
        subst e2
        exact e (hw.mp h6)
theorem find2 {n sp : Nat} {cl kd : Nat → Nat} {plain key stair air : Int32} {cells kinds lies kind : Nat → Int32} (hI : Idea n sp cl kd plain key stair air cells kinds lies kind) {a1 now : Int32} (ha : ∀ p, bt a1 p = true → p < n) {page : Nat → Int32} (hF : FR n sp cl kd now page) : ∀ (d i : Nat) (sw : Int32) (t : Nat → Int32), i + d = 5 → ∀ a2 : Int32, f_X5_soon_l39 now (nI sp) plain key stair air cells a1 a2 d i = if a2 = 0 then (f_X6_findSoon_l2 cl n lies kind page a1 d i sw t).1 else (f_X6_findSoon_l2 cl n lies kind page a1 d i sw t).2.1 := by
  have hW : ∀ c, 16 ≤ c → bt (f_X2_cellsOf cells a1) c = false := by
    intro c hc
    cases hb : bt (f_X2_cellsOf cells a1) c
    · rfl
    · obtain ⟨p, hp, e, _⟩ := (cellsOf_ok hI a1 c).mp hb
      have := hI.c16 hp
      omega
  intro d
  induction d with
  | zero => intro i sw t _ a2; rw [f_X5_soon_l39_z, f_X6_findSoon_l2_z, ite_self]
  | succ d ih =>
    intro i sw t hi a2
    rw [f_X5_soon_l39_s, f_X6_findSoon_l2_s]
    have hl := lr_ok hI hW i (by omega) now page hF
    have hf := find9 hI ha hF (fun zsw9 ztr9 => f_X6_findSoon_l2 cl n lies kind page a1 d (i + 1) zsw9 ztr9) i (8 ^ i) 0 sw t
    rcases hl with ⟨num, b1, b2, b3, b4⟩ | ⟨b1, b2⟩
    · rcases hf with ⟨num', c1, c2, c3, c4, c5, c6⟩ | ⟨c1, c2⟩
      · have e : num = num' := by
          rcases Nat.lt_trichotomy num num' with q | q | q
          · exact absurd b2 (c4 num (by omega) q)
          · exact q
          · exact absurd c3 (b3 num' q)
        subst e
        have hcl : codeN num i < 10 ^ i := codeN_lt num i
        have h10 : 10 ^ i ≤ 10 ^ 4 := Nat.pow_le_pow_right (by omega) (by omega)
        rw [b4, if_neg (nI_ne9 (by omega)), c5, c6]
      · exact absurd b2 (c1 num (by omega) (by omega))
    · rcases hf with ⟨num', c1, c2, c3, c4, c5, c6⟩ | ⟨c1, sw', t', c2⟩
      · exact absurd c3 (b1 num' (by omega))
      · rw [b2, if_pos rfl, c2]
        exact ih (i + 1) sw' t' (by omega) a2
theorem shl_n : ∀ n, n ≤ 7 → shl 1 (nI n) = nI (2 ^ n) := by decide +kernel
theorem op_soon (L sp n na tr : Nat) (cl kd : Nat → Nat) (now rains plain key stair air thrown place readStock readCells readParts soonMany soonWhich kindMany kindFirst restMany restFirst : Int32) (text triedAbout triedIs cells kinds frames rainsB kept keptF keptR lies kind readPart page trial book keptM isKept gains value : Nat → Int32) (seed : Int64) (a1 : Int32) (a2 : Int32) (hC : Core L sp n na tr cl kd now rains plain key stair air text cells kinds frames rainsB triedIs kept keptF keptR lies kind page book keptM isKept) : (f_X5_soon now (nI sp) (nI n) plain key stair air cells a1 a2) = (f_X6_soon cl n soonMany soonWhich lies kind page trial a1 a2).1 ∧ LInv now rains (nI L) (nI sp) (nI n) plain key stair air (nI na) (nI tr) text cells kinds frames rainsB triedAbout triedIs kept keptF keptR seed (f_X6_soon cl n soonMany soonWhich lies kind page trial a1 a2).2.1 (nI L) place (nI sp) (nI n) readStock readCells readParts (nI na) (nI tr) (f_X6_soon cl n soonMany soonWhich lies kind page trial a1 a2).2.2.1 (f_X6_soon cl n soonMany soonWhich lies kind page trial a1 a2).2.2.2.1 kindMany kindFirst restMany restFirst text lies kind readPart page (f_X6_soon cl n soonMany soonWhich lies kind page trial a1 a2).2.2.2.2 book keptM isKept triedAbout triedIs gains value seed := by
  have hI := hC.hI
  have h7 := hI.1
  unfold f_X5_soon f_X6_soon
  have h128 : 2 ^ n ≤ 2 ^ 7 := Nat.pow_le_pow_right (by omega) h7
  have h1n : 1 ≤ 2 ^ n := Nat.pow_pos (by omega)
  have e1 : (nI (2 ^ n) - 1).toInt64.toInt = ((2 ^ n - 1 : Nat) : Int) := by
    have : nI (2 ^ n) - 1 = nI (2 ^ n - 1) := pk_sub (b := 1) h1n
    rw [this, Int32.toInt_toInt64, nI_toInt (by omega)]
  rw [shl_n n h7]
  rcases in32 a1 (m := 2 ^ n - 1) (M := (nI (2 ^ n) - 1).toInt64) (by omega) e1 with ⟨c, hc, rfl, h1⟩ | ⟨h1, h2⟩
  · rw [if_neg h1, if_neg (nI_pos (by omega)), if_neg (nI_ge (by omega) (by omega))]
    rcases count_cases a2 with ⟨h5, h6⟩ | ⟨h5, h6⟩
    · rw [if_pos h5, if_pos h6]; exact ⟨rfl, linv hC⟩
    · rw [if_neg h5, if_neg h6]
      have ha : ∀ p, bt (nI c) p = true → p < n := by
        intro p hp
        rw [bt_nI p (by omega)] at hp
        refine Classical.byContradiction fun hx => ?_
        rw [Nat.testBit_lt_two_pow (Nat.lt_of_lt_of_le (show c < 2 ^ n by omega) (Nat.pow_le_pow_right (by omega) (by omega)))] at hp
        cases hp
      rw [find2 hI ha hC.hfr 5 0 soonWhich trial (by omega) a2]
      unfold f_X6_findSoon
      by_cases e0 : a2 = 0
      · rw [if_pos e0, if_pos e0]; exact ⟨rfl, linv hC⟩
      · rw [if_neg e0, if_neg e0]; exact ⟨rfl, linv hC⟩
  · rw [if_pos h2]
    by_cases h0 : a1 < 0
    · rw [if_pos h0]; exact ⟨rfl, linv hC⟩
    · rw [if_neg h0, if_pos (by
        rcases h1 with h1 | h1
        · exact absurd h1 h0
        · obtain ⟨j, hj, rfl⟩ := nI_of h0
          have := (nI_ltI (by omega) hj).mp h1
          exact nI_le (by omega) hj)]
      exact ⟨rfl, linv hC⟩
