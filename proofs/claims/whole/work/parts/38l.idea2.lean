theorem FR_zero {n sp : Nat} {cl kd : Nat → Nat} {pg : Nat → Int32} (hz : ∀ k, k < 6 → k ≠ 4 → pg k = 0) (h4 : pg 4 = nI sp) : FR n sp cl kd 0 pg := by
  have z5 : pg 5 = 0 := hz 5 (by omega) (by omega)
  have nz : ∀ p, ¬ bt (pg 5) p = true := by
    intro p h
    rw [z5, b_0] at h; cases h
  refine ⟨fun _ => 0, fun c hc => ⟨hz c (by omega) (by omega), Nat.zero_le 4⟩, Nat.zero_le sp, ?_, fun c _ => by rw [b_0]; simp, fun c _ => ?_, fun p hp => absurd hp (nz p), fun p hp => absurd hp (nz p), fun p _ hp => absurd hp (nz p), fun T' _ p hp => absurd hp (nz p)⟩
  · rw [h4]
    exact congrArg nI (Nat.sub_zero sp).symm
  · rw [b_0]
    refine ⟨fun a => (by cases a), ?_⟩
    rintro ⟨p, _, _, hp⟩
    exact absurd hp (nz p)
theorem learn_l {L R : Nat} (hL : L ≤ 32) (h7 : R ≤ 7) (hLR : L = 2 + 3 * R) {text : Nat → Int32} {told : Int32} {ra : Nat → Int32} (hR : Read text R told ra) : ∀ (d i : Nat) (ces kis : Nat → Int32), i + d = 7 → (∀ j, i ≤ j → j < 7 → (f_X2_learn_l27 (nI L) text d i ces kis).1 j = (if j < R then nI (cF text j) else -9) ∧ (f_X2_learn_l27 (nI L) text d i ces kis).2 j = (if j < R then nI (kF text j) else 0)) ∧ (∀ j, j < i → (f_X2_learn_l27 (nI L) text d i ces kis).1 j = ces j ∧ (f_X2_learn_l27 (nI L) text d i ces kis).2 j = kis j) := by
  have hpa : f_X3_parts (nI L) = nI R := by
    unfold f_X3_parts
    have e1 : nI L - 2 = nI (L - 2) := pk_sub (b := 2) (by omega)
    have e2 : nI (L - 2) / (3 : Int32) = nI ((L - 2) / 3) := pk_div (d := 3) (by omega) (by omega) (by omega)
    rw [if_pos (show (2 : Int32) ≤ nI L from nI_le (a := 2) (by omega) (by omega)), e1, e2]
    congr 1; omega
  have hmin : (if (7 : Int32) < nI R then (7 : Int32) else nI R) = nI R := if_neg (show ¬ (7 : Int32) < nI R from nI_nlt (a := 7) h7 (by omega))
  intro d
  induction d with
  | zero => intro i ces kis hi; rw [f_X2_learn_l27_z]; exact ⟨fun j h1 h2 => by omega, fun j _ => ⟨rfl, rfl⟩⟩
  | succ d ih =>
    intro i ces kis hi
    rw [f_X2_learn_l27_s, hpa, hmin]
    have gen : ∀ (x y : Int32), x = (if i < R then nI (cF text i) else -9) → y = (if i < R then nI (kF text i) else 0) → (∀ j, i ≤ j → j < 7 → (f_X2_learn_l27 (nI L) text d (i + 1) (upd ces i x) (upd kis i y)).1 j = (if j < R then nI (cF text j) else -9) ∧ (f_X2_learn_l27 (nI L) text d (i + 1) (upd ces i x) (upd kis i y)).2 j = (if j < R then nI (kF text j) else 0)) ∧ (∀ j, j < i → (f_X2_learn_l27 (nI L) text d (i + 1) (upd ces i x) (upd kis i y)).1 j = ces j ∧ (f_X2_learn_l27 (nI L) text d (i + 1) (upd ces i x) (upd kis i y)).2 j = kis j) := by
      intro x y hx hy
      obtain ⟨i1, i2⟩ := ih (i + 1) (upd ces i x) (upd kis i y) (by omega)
      refine ⟨fun j h1 h2 => ?_, fun j hj => ?_⟩
      · by_cases e : j = i
        · subst e
          rw [(i2 j (by omega)).1, (i2 j (by omega)).2, pk_us, pk_us]
          exact ⟨hx, hy⟩
        · exact i1 j (by omega) h2
      · rw [(i2 j (by omega)).1, (i2 j (by omega)).2, pk_un (by omega), pk_un (by omega)]
        exact ⟨rfl, rfl⟩
    by_cases e : R ≤ i
    · rw [if_pos (nI_le e (by omega))]
      exact gen _ _ (if_neg (by omega)).symm (if_neg (by omega)).symm
    · rw [if_neg (nI_ge (by omega) (by omega))]
      have hr := hR.1 i (by omega)
      refine gen _ _ ?_ ?_
      · rw [if_pos (by omega)]
        unfold f_X3_cellOfPart
        have ep : (2 : Int32) + 3 * nI i + 1 = nI (3 + 3 * i) := by
          rw [show (3 : Int32) = nI 3 from rfl, show (2 : Int32) = nI 2 from rfl, pk_mul, nI_add, nI_1]; congr 1; omega
        rw [ep, letterAt_ok hL (by omega)]; exact hr.1
      · rw [if_pos (by omega)]
        unfold f_X3_kindOfPart
        have ep : (2 : Int32) + 3 * nI i + 2 = nI (4 + 3 * i) := by
          rw [show (3 : Int32) = nI 3 from rfl, show (2 : Int32) = nI 2 from rfl, pk_mul, nI_add, nI_add]; congr 1; omega
        rw [ep, letterAt_ok hL (by omega)]; exact hr.2.2.1
theorem ofKind_l {R : Nat} (h7 : R ≤ 7) {cf kf : Nat → Nat} {ces kis : Nat → Int32} (hc : ∀ j, j < 7 → ces j = (if j < R then nI (cf j) else -9) ∧ kis j = (if j < R then nI (kf j) else 0)) (h16 : ∀ j, j < R → cf j < 16 ∧ kf j < 4) {k : Nat} (hk : k < 4) : ∀ (d i : Nat) (acc : Int32), i + d = 7 → ∀ c, c < 32 → (bt (f_X2_cellsOfKind_l4 ces kis (nI k) d i acc) c = true ↔ bt acc c = true ∨ ∃ j, i ≤ j ∧ j < R ∧ cf j = c ∧ kf j = k) := by
  intro d
  induction d with
  | zero =>
    intro i acc hi c hc'
    rw [f_X2_cellsOfKind_l4_z]
    refine ⟨Or.inl, ?_⟩
    rintro (a | ⟨j, h1, h2, _⟩)
    · exact a
    · omega
  | succ d ih =>
    intro i acc hi c hc'
    have hci := hc i (by omega)
    rw [f_X2_cellsOfKind_l4_s, hci.1, hci.2]
    have skip : (¬ (i < R ∧ kf i = k)) → ((bt acc c = true ∨ ∃ j, i + 1 ≤ j ∧ j < R ∧ cf j = c ∧ kf j = k) ↔ (bt acc c = true ∨ ∃ j, i ≤ j ∧ j < R ∧ cf j = c ∧ kf j = k)) := by
      intro hno
      constructor
      · rintro (a | ⟨j, h1, h2, h3⟩)
        · exact Or.inl a
        · exact Or.inr ⟨j, by omega, h2, h3⟩
      · rintro (a | ⟨j, h1, h2, h3, h4⟩)
        · exact Or.inl a
        · by_cases e : j = i
          · subst e; exact absurd ⟨h2, h4⟩ hno
          · exact Or.inr ⟨j, by omega, h2, h3, h4⟩
    by_cases e : i < R
    · have hb := h16 i e
      rw [if_pos e, if_pos e, if_neg (nI_ne9 (by omega))]
      by_cases e2 : kf i = k
      · rw [if_pos (by rw [e2]), ih (i + 1) _ (by omega) c hc', b_or, bt_one (by omega) hc', Bool.or_eq_true, decide_eq_true_eq]
        constructor
        · rintro ((a | a) | ⟨j, h1, h2, h3⟩)
          · exact Or.inl a
          · exact Or.inr ⟨i, by omega, e, a.symm, e2⟩
          · exact Or.inr ⟨j, by omega, h2, h3⟩
        · rintro (a | ⟨j, h1, h2, h3, h4⟩)
          · exact Or.inl (Or.inl a)
          · by_cases ej : j = i
            · subst ej; exact Or.inl (Or.inr h3.symm)
            · exact Or.inr ⟨j, by omega, h2, h3, h4⟩
      · rw [if_neg (fun a => e2 ((nI_eq (by omega) (by omega)).mp a)), ih (i + 1) _ (by omega) c hc']
        exact skip (fun a => e2 a.2)
    · rw [if_neg e, if_neg e, if_pos rfl, ite_self, ih (i + 1) _ (by omega) c hc']
      exact skip (fun a => e a.1)
theorem ofKind_ok {R : Nat} (h7 : R ≤ 7) {cf kf : Nat → Nat} {ces kis : Nat → Int32} (hc : ∀ j, j < 7 → ces j = (if j < R then nI (cf j) else -9) ∧ kis j = (if j < R then nI (kf j) else 0)) (h16 : ∀ j, j < R → cf j < 16 ∧ kf j < 4) {k : Nat} (hk : k < 4) {K : Int32} (hK : K = nI k) {c : Nat} (hc' : c < 32) : bt (f_X2_cellsOfKind ces kis K) c = true ↔ ∃ j, j < R ∧ cf j = c ∧ kf j = k := by
  unfold f_X2_cellsOfKind
  rw [hK, ofKind_l h7 hc h16 hk 7 0 0 (by omega) c hc', b_0]
  constructor
  · rintro (a | ⟨j, _, h2, h3⟩)
    · cases a
    · exact ⟨j, h2, h3⟩
  · rintro ⟨j, h2, h3⟩
    exact Or.inr ⟨j, by omega, h2, h3⟩
theorem idea81 : ∀ (d i : Nat) (t : Nat → Int32) (k : Nat), f_X6_idea_l81 d i t k = if i ≤ k ∧ k < i + d then 0 else t k := by
  intro d
  induction d with
  | zero => intro i t k; rw [f_X6_idea_l81_z, if_neg (by omega)]
  | succ d ih =>
    intro i t k
    rw [f_X6_idea_l81_s, ih]
    by_cases e : k = i
    · subst e; rw [if_neg (by omega), if_pos (by omega), pk_us]
    · rw [pk_un e]
      by_cases h : i ≤ k ∧ k < i + (d + 1)
      · rw [if_pos h, if_pos (by omega)]
      · rw [if_neg h, if_neg (by omega)]
theorem idea46 : ∀ (d i : Nat) (t : Nat → Int32) (k : Nat), f_X5_idea_l46 d i t k = if i ≤ k ∧ k < i + d then 0 else t k := by
  intro d
  induction d with
  | zero => intro i t k; rw [f_X5_idea_l46_z, if_neg (by omega)]
  | succ d ih =>
    intro i t k
    rw [f_X5_idea_l46_s, ih]
    by_cases e : k = i
    · subst e; rw [if_neg (by omega), if_pos (by omega), pk_us]
    · rw [pk_un e]
      by_cases h : i ≤ k ∧ k < i + (d + 1)
      · rw [if_pos h, if_pos (by omega)]
      · rw [if_neg h, if_neg (by omega)]
theorem idea35 (L : Nat) (rs : Int32) (text ra : Nat → Int32) : ∀ (d i : Nat) (li ki : Nat → Int32) (k : Nat), (f_X6_idea_l35 L rs text ra d i li ki).1 k = (if i ≤ k ∧ k < i + d then (f_X6_readIdea L rs text ra).2.2.2.2.2 (2 * k) else li k) ∧ (f_X6_idea_l35 L rs text ra d i li ki).2 k = (if i ≤ k ∧ k < i + d then (f_X6_readIdea L rs text ra).2.2.2.2.2 (2 * k + 1) else ki k) := by
  intro d
  induction d with
  | zero => intro i li ki k; rw [f_X6_idea_l35_z, if_neg (by omega), if_neg (by omega)]; exact ⟨rfl, rfl⟩
  | succ d ih =>
    intro i li ki k
    rw [f_X6_idea_l35_s, (ih (i + 1) _ _ k).1, (ih (i + 1) _ _ k).2]
    by_cases e : k = i
    · subst e; rw [if_neg (show ¬ (k + 1 ≤ k ∧ k < k + 1 + d) by omega), if_neg (show ¬ (k + 1 ≤ k ∧ k < k + 1 + d) by omega), if_pos (show k ≤ k ∧ k < k + (d + 1) by omega), if_pos (show k ≤ k ∧ k < k + (d + 1) by omega), pk_us, pk_us]; exact ⟨rfl, rfl⟩
    · rw [pk_un e, pk_un e]
      by_cases h : i ≤ k ∧ k < i + (d + 1)
      · rw [if_pos h, if_pos h, if_pos (by omega), if_pos (by omega)]; exact ⟨rfl, rfl⟩
      · rw [if_neg h, if_neg h, if_neg (by omega), if_neg (by omega)]; exact ⟨rfl, rfl⟩
theorem op_idea (L sp n na tr : Nat) (cl kd : Nat → Nat) (now rains plain key stair air thrown place readStock readCells readParts soonMany soonWhich kindMany kindFirst restMany restFirst : Int32) (text triedAbout triedIs cells kinds frames rainsB kept keptF keptR lies kind readPart page trial book keptM isKept gains value : Nat → Int32) (seed : Int64) (hC : Core L sp n na tr cl kd now rains plain key stair air text cells kinds frames rainsB triedIs kept keptF keptR lies kind page book keptM isKept) : (f_X5_idea L now rains (nI L) (nI sp) (nI n) plain key stair air (nI na) text cells kinds kept).1 = (f_X6_idea L (nI sp) (nI n) readStock (nI na) text lies kind readPart page isKept).1 ∧ LInv (f_X5_idea L now rains (nI L) (nI sp) (nI n) plain key stair air (nI na) text cells kinds kept).2.1 (f_X5_idea L now rains (nI L) (nI sp) (nI n) plain key stair air (nI na) text cells kinds kept).2.2.1 (nI L) (f_X5_idea L now rains (nI L) (nI sp) (nI n) plain key stair air (nI na) text cells kinds kept).2.2.2.1 (f_X5_idea L now rains (nI L) (nI sp) (nI n) plain key stair air (nI na) text cells kinds kept).2.2.2.2.1 (f_X5_idea L now rains (nI L) (nI sp) (nI n) plain key stair air (nI na) text cells kinds kept).2.2.2.2.2.1 (f_X5_idea L now rains (nI L) (nI sp) (nI n) plain key stair air (nI na) text cells kinds kept).2.2.2.2.2.2.1 (f_X5_idea L now rains (nI L) (nI sp) (nI n) plain key stair air (nI na) text cells kinds kept).2.2.2.2.2.2.2.1 (f_X5_idea L now rains (nI L) (nI sp) (nI n) plain key stair air (nI na) text cells kinds kept).2.2.2.2.2.2.2.2.1 (f_X5_idea L now rains (nI L) (nI sp) (nI n) plain key stair air (nI na) text cells kinds kept).2.2.2.2.2.2.2.2.2.1 (nI tr) text (f_X5_idea L now rains (nI L) (nI sp) (nI n) plain key stair air (nI na) text cells kinds kept).2.2.2.2.2.2.2.2.2.2.1 (f_X5_idea L now rains (nI L) (nI sp) (nI n) plain key stair air (nI na) text cells kinds kept).2.2.2.2.2.2.2.2.2.2.2.1 frames rainsB triedAbout triedIs (f_X5_idea L now rains (nI L) (nI sp) (nI n) plain key stair air (nI na) text cells kinds kept).2.2.2.2.2.2.2.2.2.2.2.2 keptF keptR seed (f_X6_idea L (nI sp) (nI n) readStock (nI na) text lies kind readPart page isKept).2.1 (nI L) (f_X6_idea L (nI sp) (nI n) readStock (nI na) text lies kind readPart page isKept).2.2.1 (f_X6_idea L (nI sp) (nI n) readStock (nI na) text lies kind readPart page isKept).2.2.2.1 (f_X6_idea L (nI sp) (nI n) readStock (nI na) text lies kind readPart page isKept).2.2.2.2.1 (f_X6_idea L (nI sp) (nI n) readStock (nI na) text lies kind readPart page isKept).2.2.2.2.2.1 (f_X6_idea L (nI sp) (nI n) readStock (nI na) text lies kind readPart page isKept).2.2.2.2.2.2.1 (f_X6_idea L (nI sp) (nI n) readStock (nI na) text lies kind readPart page isKept).2.2.2.2.2.2.2.1 (f_X6_idea L (nI sp) (nI n) readStock (nI na) text lies kind readPart page isKept).2.2.2.2.2.2.2.2.1 (nI tr) soonMany soonWhich kindMany kindFirst restMany restFirst text (f_X6_idea L (nI sp) (nI n) readStock (nI na) text lies kind readPart page isKept).2.2.2.2.2.2.2.2.2.1 (f_X6_idea L (nI sp) (nI n) readStock (nI na) text lies kind readPart page isKept).2.2.2.2.2.2.2.2.2.2.1 (f_X6_idea L (nI sp) (nI n) readStock (nI na) text lies kind readPart page isKept).2.2.2.2.2.2.2.2.2.2.2.1 (f_X6_idea L (nI sp) (nI n) readStock (nI na) text lies kind readPart page isKept).2.2.2.2.2.2.2.2.2.2.2.2.1 trial book keptM (f_X6_idea L (nI sp) (nI n) readStock (nI na) text lies kind readPart page isKept).2.2.2.2.2.2.2.2.2.2.2.2.2 triedAbout triedIs gains value seed := by
  have hL := hC.hL
  have hI := hC.hI
  have hr := read_ok hL text readStock readPart
  unfold f_X5_idea f_X6_idea
  rw [hr.1]
  by_cases e : (f_X6_readIdea L readStock text readPart).1 = -9
  · obtain ⟨S, R, hS, hR7, hLR, e1, e2, e3, hR⟩ := hr.2 e
    rw [if_pos e, if_pos e]
    have i35 := idea35 L readStock text readPart R 0 lies kind
    generalize hX : f_X6_readIdea L readStock text readPart = X at *
    have hl := learn_l hL hR7 hLR hR 7 0 cells kinds (by omega)
    have hce : ∀ j, j < 7 → (f_X2_learn_l27 (nI L) text 7 0 cells kinds).1 j = (if j < R then nI (cF text j) else -9) ∧ (f_X2_learn_l27 (nI L) text 7 0 cells kinds).2 j = (if j < R then nI (kF text j) else 0) := fun j hj => hl.1 j (by omega) hj
    have hpa : f_X3_parts (nI L) = nI R := by
      unfold f_X3_parts
      have e1 : nI L - 2 = nI (L - 2) := pk_sub (b := 2) (by omega)
      have e2 : nI (L - 2) / (3 : Int32) = nI ((L - 2) / 3) := pk_div (d := 3) (by omega) (by omega) (by omega)
      rw [if_pos (show (2 : Int32) ≤ nI L from nI_le (a := 2) (by omega) (by omega)), e1, e2]
      congr 1; omega
    have hmin : (if (7 : Int32) < nI R then (7 : Int32) else nI R) = nI R := if_neg (show ¬ (7 : Int32) < nI R from nI_nlt (a := 7) hR7 (by omega))
    have hl1 : f_X3_letterAt (nI L) text 1 = text 1 := letterAt_ok (i := 1) hL (by omega) text
    have hk1 : f_X2_learn (nI L) text cells kinds = (nI S, nI R, f_X2_cellsOfKind (f_X2_learn_l27 (nI L) text 7 0 cells kinds).1 (f_X2_learn_l27 (nI L) text 7 0 cells kinds).2 0, f_X2_cellsOfKind (f_X2_learn_l27 (nI L) text 7 0 cells kinds).1 (f_X2_learn_l27 (nI L) text 7 0 cells kinds).2 1, f_X2_cellsOfKind (f_X2_learn_l27 (nI L) text 7 0 cells kinds).1 (f_X2_learn_l27 (nI L) text 7 0 cells kinds).2 2, f_X2_cellsOfKind (f_X2_learn_l27 (nI L) text 7 0 cells kinds).1 (f_X2_learn_l27 (nI L) text 7 0 cells kinds).2 3, (f_X2_learn_l27 (nI L) text 7 0 cells kinds).1, (f_X2_learn_l27 (nI L) text 7 0 cells kinds).2) := by
      unfold f_X2_learn
      rw [hpa, hmin, hl1, e1]
    generalize f_X2_learn_l27 (nI L) text 7 0 cells kinds = Y at hce hk1
    rw [hk1]
    have e4 : X.2.2.2.2.1.toNatClampNeg = R := by rw [e3, nI_clamp (by omega)]
    rw [e2, e3, nI_clamp (by omega)]
    have h16 : ∀ j, j < R → cF text j < 16 ∧ kF text j < 4 := fun j hj => ⟨(hR.1 j hj).2.1, (hR.1 j hj).2.2.2.1⟩
    refine ⟨rfl, ?_⟩
    refine ⟨L, S, R, 0, tr, fun j => if j < R then cF text j else cl j, kF text, rfl, rfl, rfl, rfl, rfl, rfl, rfl, rfl, rfl, rfl, rfl, rfl, rfl, rfl, hL, by omega, hC.htr, ?_, ⟨?_, ?_⟩, fun j hj => by omega, fun k hk => ?_, hC.2.2.2.2.2.2.2⟩
    · have cf : ∀ j, j < R → (if j < R then cF text j else cl j) = cF text j := fun j hj => if_pos hj
      have bits : ∀ (k : Nat), (∀ c, (∃ j, j < R ∧ cF text j = c ∧ kF text j = k) ↔ ∃ j, j < R ∧ (if j < R then cF text j else cl j) = c ∧ kF text j = k) := by
        intro k c
        constructor
        · rintro ⟨j, h1, h2⟩; exact ⟨j, h1, by rw [cf j h1]; exact h2⟩
        · rintro ⟨j, h1, h2⟩; rw [cf j h1] at h2; exact ⟨j, h1, h2⟩
      refine ⟨hR7, hS, fun j hj => ?_, fun j hj => ?_, fun j h1 h2 => ?_, fun i j hi hj he => ?_, fun j hj => ?_, fun c hc => ?_, fun c hc => ?_, fun c hc => ?_, fun c hc => ?_⟩
      · dsimp only
        rw [(i35 j).1]
        by_cases ej : j < R
        · rw [if_pos (by omega), if_pos ej]; exact ⟨(hR.1 j ej).2.2.2.2.1, (hR.1 j ej).2.1⟩
        · rw [if_neg (by omega), if_neg ej]; exact hI.2.2.1 j hj
      · dsimp only
        rw [(hce j (by omega)).1, if_pos hj, if_pos hj]
      · dsimp only
        rw [(hce j h2).1, if_neg (by omega)]
      · dsimp only at he
        rw [cf i hi, cf j hj] at he
        exact hR.2.2 i j hi hj he
      · dsimp only
        rw [(i35 j).2, if_pos (by omega), (hce j (by omega)).2, if_pos hj]
        exact ⟨(hR.1 j hj).2.2.2.2.2, rfl, (h16 j hj).2⟩
      · exact (ofKind_ok hR7 hce h16 (k := 0) (by omega) rfl hc).trans (bits 0 c)
      · exact (ofKind_ok hR7 hce h16 (k := 1) (by omega) rfl hc).trans (bits 1 c)
      · exact (ofKind_ok hR7 hce h16 (k := 2) (by omega) rfl hc).trans (bits 2 c)
      · exact (ofKind_ok hR7 hce h16 (k := 3) (by omega) rfl hc).trans (bits 3 c)
    · refine FR_zero (pg := upd (f_X6_idea_l81 7 0 page) 4 (nI S)) (fun k hk h4 => ?_) pk_us
      show upd (f_X6_idea_l81 7 0 page) 4 (nI S) k = 0
      rw [pk_un h4, idea81, if_pos (by omega)]
    · show (0 : Int32) = upd (f_X6_idea_l81 7 0 page) 4 (nI S) 6
      rw [pk_un (by omega), idea81, if_pos (by omega)]
    · show f_X5_idea_l46 2 0 kept k = upd (upd isKept 0 0) 1 0 k ∧ (upd (upd isKept 0 0) 1 0 k = 0 ∨ _)
      have ez : upd (upd isKept 0 0) 1 0 k = 0 := by
        rcases (show k = 0 ∨ k = 1 by omega) with rfl | rfl
        · rw [pk_un (by omega), pk_us]
        · rw [pk_us]
      rw [ez, idea46, if_pos (by omega)]
      exact ⟨rfl, Or.inl rfl⟩
  · rw [if_neg e, if_neg e]
    exact ⟨rfl, linv hC⟩
