/-! layings: an instance is a line (n, stresses, longs), a tune (m, beats, lengths), rules -/
abbrev LI : Type := (Nat × (Nat → Nat) × (Nat → Nat)) × (Nat × (Nat → Nat) × (Nat → Nat)) × (Nat → Nat)
def iN (I : LI) : Nat := I.1.1
def iW (I : LI) : Nat → Nat := I.1.2.1
def iZ (I : LI) : Nat → Nat := I.1.2.2
def iM (I : LI) : Nat := I.2.1.1
def iV (I : LI) : Nat → Nat := I.2.1.2.1
def iQ (I : LI) : Nat → Nat := I.2.1.2.2
def iU (I : LI) : Nat → Nat := I.2.2
/-- in the bounds of the document -/
def LB (I : LI) : Prop := iN I ≤ 9 ∧ iM I ≤ 11 ∧ (∀ i, i < iN I → iW I i ≤ 2) ∧ (∀ j, j < iM I → iV I j ≤ 2) ∧ (∀ k, k < 4 → iU I k ≤ 9) ∧ (∀ i, i < iN I → iZ I i ≤ 1) ∧ (∀ j, j < iM I → iQ I j ≤ 4)
def fitN (I : LI) (i j : Nat) : Nat := iU I 0 * (if iW I i ≤ iV I j then iV I j - iW I i else iW I i - iV I j)
def cst (I : LI) (st i j : Nat) : Nat := if st = 0 then fitN I i j + (if iZ I i = 1 ∧ iQ I j = 1 then iU I 3 else 0) else if st = 1 then iU I 1 else fitN I i (j - 1) + iU I 2
def can (I : LI) (st i j : Nat) : Bool := if st = 0 then decide (i < iN I) && decide (j < iM I) else if st = 1 then decide (0 < i) && decide (j < iM I) else decide (i < iN I) && decide (0 < j)
def di (st : Nat) : Nat := if st = 1 then 0 else 1
def dj (st : Nat) : Nat := if st = 2 then 0 else 1
theorem can0 {I : LI} {i j : Nat} : can I 0 i j = true ↔ i < iN I ∧ j < iM I := by simp [can]
theorem can1 {I : LI} {i j : Nat} : can I 1 i j = true ↔ 0 < i ∧ j < iM I := by simp [can]
theorem can2 {I : LI} {i j : Nat} : can I 2 i j = true ↔ i < iN I ∧ 0 < j := by simp [can]
theorem sOn_di {st : Nat} (h : st < 3) : sOn st = .int (nI (di st)) := by
  rcases (show st = 0 ∨ st = 1 ∨ st = 2 by omega) with rfl | rfl | rfl <;> rfl
theorem nOn_dj {st : Nat} (h : st < 3) : nOn st = .int (nI (dj st)) := by
  rcases (show st = 0 ∨ st = 1 ∨ st = 2 by omega) with rfl | rfl | rfl <;> rfl
theorem di_le (st : Nat) : di st ≤ 1 := by unfold di; split <;> omega
theorem dj_le (st : Nat) : dj st ≤ 1 := by unfold dj; split <;> omega
theorem dij {st : Nat} : 1 ≤ di st + dj st := by unfold di dj; split <;> split <;> omega
theorem can_next {I : LI} {st i j : Nat} (hs : st < 3) (h : can I st i j = true) (hi : i ≤ iN I) (hj : j ≤ iM I) : i + di st ≤ iN I ∧ j + dj st ≤ iM I := by
  rcases (show st = 0 ∨ st = 1 ∨ st = 2 by omega) with rfl | rfl | rfl
  · have := can0.mp h; exact ⟨this.1, this.2⟩
  · have := can1.mp h; exact ⟨hi, this.2⟩
  · have := can2.mp h; exact ⟨this.1, hj⟩
theorem fit_le {I : LI} (hB : LB I) {i j : Nat} (hi : i < iN I) (hj : j < iM I) : fitN I i j ≤ 18 := by
  obtain ⟨-, -, h3, h4, h5, -, -⟩ := hB
  have a := h3 i hi
  have b := h4 j hj
  have c := h5 0 (by decide)
  unfold fitN
  have hd : (if iW I i ≤ iV I j then iV I j - iW I i else iW I i - iV I j) ≤ 2 := by split <;> omega
  calc iU I 0 * (if iW I i ≤ iV I j then iV I j - iW I i else iW I i - iV I j) ≤ 9 * 2 := Nat.mul_le_mul c hd
    _ = 18 := rfl
theorem cst_le {I : LI} (hB : LB I) {st i j : Nat} (hs : st < 3) (h : can I st i j = true) (hi : i ≤ iN I) (hj : j ≤ iM I) : cst I st i j ≤ 27 := by
  have hU := hB.2.2.2.2.1
  have u1 := hU 1 (by decide)
  have u2 := hU 2 (by decide)
  have u3 := hU 3 (by decide)
  rcases (show st = 0 ∨ st = 1 ∨ st = 2 by omega) with rfl | rfl | rfl
  · have hc := can0.mp h
    have := fit_le hB hc.1 hc.2
    show fitN I i j + (if iZ I i = 1 ∧ iQ I j = 1 then iU I 3 else 0) ≤ 27
    split <;> omega
  · simp [cst]; omega
  · have hc := can2.mp h
    have := fit_le hB hc.1 (show j - 1 < iM I by omega)
    simp [cst]; omega
/-- of what is still to come: least cost, greatest cost, ways, ways of the least cost -/
abbrev X4 : Type := Nat × Nat × Nat × Nat
def tk (a : X4) (own : Nat) (t : X4) : X4 := if t.2.2.1 = 0 then a else
  ((if a.2.2.1 = 0 ∨ own + t.1 < a.1 then own + t.1 else a.1),
   (if a.2.2.1 = 0 ∨ a.2.1 < own + t.2.1 then own + t.2.1 else a.2.1),
   a.2.2.1 + t.2.2.1,
   (if a.2.2.1 = 0 ∨ own + t.1 < a.1 then 0 else a.2.2.2) + (if own + t.1 = (if a.2.2.1 = 0 ∨ own + t.1 < a.1 then own + t.1 else a.1) then t.2.2.2 else 0))
def te (I : LI) (i j : Nat) : X4 := (0, 0, (if i = iN I ∧ j = iM I then 1 else 0), (if i = iN I ∧ j = iM I then 1 else 0))
def ts (I : LI) (T : Nat → Nat → X4) (i j st : Nat) (a : X4) : X4 := if can I st i j = true then tk a (cst I st i j) (T (i + di st) (j + dj st)) else a
def tsa (I : LI) (T : Nat → Nat → X4) (i j : Nat) : Nat → X4
  | 0 => te I i j
  | st + 1 => ts I T i j st (tsa I T i j st)
def Tf (I : LI) : Nat → Nat → Nat → X4
  | 0, i, j => te I i j
  | f + 1, i, j => tsa I (Tf I f) i j 3
def TT (I : LI) (i j : Nat) : X4 := Tf I 20 i j
theorem tsa_congr {I : LI} {T T2 : Nat → Nat → X4} {i j : Nat} : ∀ {k : Nat}, (∀ st, st < k → can I st i j = true → T (i + di st) (j + dj st) = T2 (i + di st) (j + dj st)) → tsa I T i j k = tsa I T2 i j k
  | 0, _ => rfl
  | k + 1, h => by
    have h1 : tsa I T i j k = tsa I T2 i j k := tsa_congr (fun st hs => h st (by omega))
    show ts I T i j k (tsa I T i j k) = ts I T2 i j k (tsa I T2 i j k)
    rw [h1]
    unfold ts
    by_cases hc : can I k i j = true
    · rw [if_pos hc, if_pos hc, h k (by omega) hc]
    · rw [if_neg hc, if_neg hc]
theorem Tf_st {I : LI} : ∀ (f i j : Nat), i ≤ iN I → j ≤ iM I → iN I - i + (iM I - j) ≤ f → Tf I (f + 1) i j = Tf I f i j
  | 0, i, j, hi, hj, h => by
    have e1 : i = iN I := by omega
    have e2 : j = iM I := by omega
    show tsa I (Tf I 0) i j 3 = te I i j
    have h0 : can I 0 i j = false := by simp [can, e1]
    have h1 : can I 1 i j = false := by simp [can, e2]
    have h2 : can I 2 i j = false := by simp [can, e1]
    simp [tsa, ts, h0, h1, h2]
  | f + 1, i, j, hi, hj, h => by
    show tsa I (Tf I (f + 1)) i j 3 = tsa I (Tf I f) i j 3
    refine tsa_congr (fun st hs hc => ?_)
    have hn := can_next hs hc hi hj
    have hd := dij (st := st)
    exact Tf_st f _ _ hn.1 hn.2 (by omega)
theorem TT_rec {I : LI} (hB : LB I) {i j : Nat} (hi : i ≤ iN I) (hj : j ≤ iM I) : TT I i j = tsa I (TT I) i j 3 := by
  have h := Tf_st (I := I) 20 i j hi hj (by have := hB.1; have := hB.2.1; omega)
  exact h.symm
theorem tk_wy (a : X4) (own : Nat) (t : X4) : (tk a own t).2.2.1 = a.2.2.1 + t.2.2.1 := by
  unfold tk
  by_cases h : t.2.2.1 = 0
  · rw [if_pos h, h]; rfl
  · rw [if_neg h]
theorem tsa_wy_mono {I : LI} {T : Nat → Nat → X4} {i j : Nat} (st : Nat) : (tsa I T i j st).2.2.1 ≤ (tsa I T i j (st + 1)).2.2.1 := by
  show _ ≤ (ts I T i j st (tsa I T i j st)).2.2.1
  unfold ts
  split
  · rw [tk_wy]; omega
  · omega
theorem tsa_wy_ge {I : LI} {T : Nat → Nat → X4} {i j : Nat} {st : Nat} (hc : can I st i j = true) (hp : (T (i + di st) (j + dj st)).2.2.1 ≠ 0) : (tsa I T i j (st + 1)).2.2.1 ≠ 0 := by
  show (ts I T i j st (tsa I T i j st)).2.2.1 ≠ 0
  unfold ts
  rw [if_pos hc, tk_wy]
  omega
theorem tsa_wy3 {I : LI} {T : Nat → Nat → X4} {i j : Nat} {st : Nat} (hs : st ≤ 3) (h : (tsa I T i j st).2.2.1 ≠ 0) : (tsa I T i j 3).2.2.1 ≠ 0 := by
  have a : (tsa I T i j 0).2.2.1 ≤ (tsa I T i j 1).2.2.1 := tsa_wy_mono 0
  have b : (tsa I T i j 1).2.2.1 ≤ (tsa I T i j 2).2.2.1 := tsa_wy_mono 1
  have d : (tsa I T i j 2).2.2.1 ≤ (tsa I T i j 3).2.2.1 := tsa_wy_mono 2
  rcases (show st = 0 ∨ st = 1 ∨ st = 2 ∨ st = 3 by omega) with rfl | rfl | rfl | rfl <;> omega
/-- in the midst there is always a way on -/
theorem TT_pos {I : LI} (hB : LB I) : ∀ (f i j : Nat), 1 ≤ i → i ≤ iN I → 1 ≤ j → j ≤ iM I → iN I - i + (iM I - j) ≤ f → (TT I i j).2.2.1 ≠ 0
  | 0, i, j, h1, hi, h2, hj, h => by
    rw [TT_rec hB hi hj]
    refine tsa_wy3 (st := 0) (by omega) ?_
    show (te I i j).2.2.1 ≠ 0
    unfold te
    simp [show i = iN I by omega, show j = iM I by omega]
  | f + 1, i, j, h1, hi, h2, hj, h => by
    rw [TT_rec hB hi hj]
    by_cases a : i < iN I
    · refine tsa_wy3 (st := 3) (by omega) (tsa_wy_ge (st := 2) (can2.mpr ⟨a, h2⟩) ?_)
      exact TT_pos hB f (i + 1) (j + 0) (by omega) (by omega) (by omega) (by omega) (by omega)
    · by_cases b : j < iM I
      · refine tsa_wy3 (st := 2) (by omega) (tsa_wy_ge (st := 1) (can1.mpr ⟨h1, b⟩) ?_)
        exact TT_pos hB f (i + 0) (j + 1) (by omega) (by omega) (by omega) (by omega) (by omega)
      · refine tsa_wy3 (st := 0) (by omega) ?_
        show (te I i j).2.2.1 ≠ 0
        unfold te
        simp [show i = iN I by omega, show j = iM I by omega]
theorem TT_p {I : LI} (hB : LB I) {i j : Nat} (h1 : 1 ≤ i) (hi : i ≤ iN I) (h2 : 1 ≤ j) (hj : j ≤ iM I) : (TT I i j).2.2.1 ≠ 0 := TT_pos hB _ i j h1 hi h2 hj (Nat.le_refl _)
/-- bounds of the costs -/
theorem tk_le {a t : X4} {own B : Nat} (ha : a.1 ≤ B ∧ a.2.1 ≤ B) (ht : own + t.1 ≤ B ∧ own + t.2.1 ≤ B) : (tk a own t).1 ≤ B ∧ (tk a own t).2.1 ≤ B := by
  unfold tk
  split
  · exact ha
  · constructor
    · show (if _ then _ else _) ≤ B
      split
      · exact ht.1
      · exact ha.1
    · show (if _ then _ else _) ≤ B
      split
      · exact ht.2
      · exact ha.2
theorem tsa_le {I : LI} {T : Nat → Nat → X4} {i j B : Nat} : ∀ {k : Nat}, (∀ st, st < k → can I st i j = true → cst I st i j + (T (i + di st) (j + dj st)).1 ≤ B ∧ cst I st i j + (T (i + di st) (j + dj st)).2.1 ≤ B) → (tsa I T i j k).1 ≤ B ∧ (tsa I T i j k).2.1 ≤ B
  | 0, _ => ⟨Nat.zero_le _, Nat.zero_le _⟩
  | k + 1, h => by
    have h1 := tsa_le (k := k) (fun st hs => h st (by omega))
    show (ts I T i j k (tsa I T i j k)).1 ≤ B ∧ (ts I T i j k (tsa I T i j k)).2.1 ≤ B
    unfold ts
    split
    · rename_i hc; exact tk_le h1 (h k (by omega) hc)
    · exact h1
theorem TT_le {I : LI} (hB : LB I) : ∀ (f i j : Nat), i ≤ iN I → j ≤ iM I → iN I - i + (iM I - j) ≤ f → (TT I i j).1 ≤ 27 * f ∧ (TT I i j).2.1 ≤ 27 * f
  | 0, i, j, hi, hj, h => by
    rw [TT_rec hB hi hj]
    refine tsa_le (fun st hs hc => ?_)
    have hn := can_next hs hc hi hj
    have hd := dij (st := st)
    omega
  | f + 1, i, j, hi, hj, h => by
    rw [TT_rec hB hi hj]
    refine tsa_le (fun st hs hc => ?_)
    have hn := can_next hs hc hi hj
    have hd := dij (st := st)
    have h1 := TT_le hB f _ _ hn.1 hn.2 (by omega)
    have h2 := cst_le hB hs hc hi hj
    omega
theorem TT_b {I : LI} (hB : LB I) {i j : Nat} (hi : i ≤ iN I) (hj : j ≤ iM I) : (TT I i j).1 ≤ 540 ∧ (TT I i j).2.1 ≤ 540 := TT_le hB 20 i j hi hj (by have := hB.1; have := hB.2.1; omega)
/-- bounds of the ways -/
theorem TT_wy {I : LI} (hB : LB I) : ∀ (f i j : Nat), i ≤ iN I → j ≤ iM I → iN I - i + (iM I - j) ≤ f → (TT I i j).2.2.1 ≤ 3 ^ f
  | 0, i, j, hi, hj, h => by
    have e1 : i = iN I := by omega
    have e2 : j = iM I := by omega
    rw [TT_rec hB hi hj]
    have h0 : can I 0 i j = false := by simp [can, e1]
    have h1 : can I 1 i j = false := by simp [can, e2]
    have h2 : can I 2 i j = false := by simp [can, e1]
    simp [tsa, ts, h0, h1, h2, te]
    split <;> omega
  | f + 1, i, j, hi, hj, h => by
    rw [TT_rec hB hi hj]
    have key : ∀ st, st < 3 → can I st i j = true → (TT I (i + di st) (j + dj st)).2.2.1 ≤ 3 ^ f := fun st hs hc => by
      have hn := can_next hs hc hi hj
      have hd := dij (st := st)
      exact TT_wy hB f _ _ hn.1 hn.2 (by omega)
    have add : ∀ st, st < 3 → (tsa I (TT I) i j (st + 1)).2.2.1 ≤ (tsa I (TT I) i j st).2.2.1 + 3 ^ f := fun st hs => by
      show (ts I (TT I) i j st (tsa I (TT I) i j st)).2.2.1 ≤ _
      unfold ts
      split
      · rename_i hc; rw [tk_wy]; exact Nat.add_le_add_left (key st hs hc) _
      · exact Nat.le_add_right _ _
    have a0 : (tsa I (TT I) i j 1).2.2.1 ≤ (tsa I (TT I) i j 0).2.2.1 + 3 ^ f := add 0 (by decide)
    have a1 : (tsa I (TT I) i j 2).2.2.1 ≤ (tsa I (TT I) i j 1).2.2.1 + 3 ^ f := add 1 (by decide)
    have a2 : (tsa I (TT I) i j 3).2.2.1 ≤ (tsa I (TT I) i j 2).2.2.1 + 3 ^ f := add 2 (by decide)
    have hp : 1 ≤ 3 ^ f := Nat.one_le_pow _ _ (by decide)
    have e3 : 3 ^ (f + 1) = 3 * 3 ^ f := by rw [Nat.pow_succ]; omega
    have ez : (tsa I (TT I) i j 0).2.2.1 = (if i = iN I ∧ j = iM I then 1 else 0) := rfl
    by_cases he : i = iN I ∧ j = iM I
    · have h0 : can I 0 i j = false := by simp [can, he.1]
      have h1 : can I 1 i j = false := by simp [can, he.2]
      have h2 : can I 2 i j = false := by simp [can, he.1]
      have e : (tsa I (TT I) i j 3).2.2.1 = 1 := by
        rw [show tsa I (TT I) i j 3 = te I i j by simp [tsa, ts, h0, h1, h2]]
        show (if i = iN I ∧ j = iM I then 1 else 0) = 1
        exact if_pos he
      omega
    · rw [if_neg he] at ez
      omega
