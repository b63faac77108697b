/-! the class's own way of reckoning against the table TT -/
def lres (a : X4) : Int32 := if a.2.2.1 = 0 then -6 else nI a.1
theorem nI_m6 {n : Nat} (h : n < 2 ^ 31) : nI n ≠ -6 := by
  intro e
  have h1 := congrArg Int32.toInt e
  rw [nI_toInt h] at h1
  have h2 : (-6 : Int32).toInt = -6 := by decide
  omega
theorem lres_p {a : X4} (h : a.2.2.1 ≠ 0) : lres a = nI a.1 := if_neg h
theorem lres_tk {a t : X4} {own : Nat} (ht : t.2.2.1 ≠ 0) (hb : own + t.1 < 2 ^ 31) (ha : a.1 < 2 ^ 31) : (if nI (own + t.1) ≠ -6 ∧ (lres a = -6 ∨ nI (own + t.1) < lres a) then nI (own + t.1) else lres a) = lres (tk a own t) := by
  have e1 : lres (tk a own t) = nI (if a.2.2.1 = 0 ∨ own + t.1 < a.1 then own + t.1 else a.1) := by
    rw [lres_p (by rw [tk_wy]; omega)]
    unfold tk
    rw [if_neg ht]
  rw [e1]
  by_cases h0 : a.2.2.1 = 0
  · rw [if_pos ⟨nI_m6 hb, Or.inl (if_pos h0)⟩, if_pos (Or.inl h0)]
  · rw [lres_p h0]
    by_cases hl : own + t.1 < a.1
    · rw [if_pos ⟨nI_m6 hb, Or.inr (nI_lt hl ha)⟩, if_pos (Or.inr hl)]
    · rw [if_neg (fun q => q.2.elim (fun q => nI_m6 ha q) (fun q => nI_nlt (by omega) hb q)), if_neg (fun q => q.elim h0 hl)]
theorem tsa_b {I : LI} (hB : LB I) {i j : Nat} (hi : i ≤ iN I) (hj : j ≤ iM I) {k : Nat} (hk : k ≤ 3) : (tsa I (TT I) i j k).1 ≤ 567 ∧ (tsa I (TT I) i j k).2.1 ≤ 567 := by
  refine tsa_le (fun st hs hc => ?_)
  have hn := can_next (by omega) hc hi hj
  have h1 := TT_b hB hn.1 hn.2
  have h2 := cst_le hB (by omega) hc hi hj
  omega
def dmn (I : LI) (a b : Nat) : Prop := (1 ≤ a ∧ a ≤ iN I ∧ 1 ≤ b ∧ b ≤ iM I) ∨ (a = 0 ∧ b = 0)
def hasL (I : LI) : Prop := (iN I = 0 ↔ iM I = 0)
theorem dmn_le {I : LI} {i j : Nat} (h : dmn I i j) : i ≤ iN I ∧ j ≤ iM I := by
  rcases h with ⟨_, h1, _, h2⟩ | ⟨h1, h2⟩
  · exact ⟨h1, h2⟩
  · omega
theorem dmn_next {I : LI} {st i j : Nat} (hs : st < 3) (hd : dmn I i j) (hc : can I st i j = true) : 1 ≤ i + di st ∧ i + di st ≤ iN I ∧ 1 ≤ j + dj st ∧ j + dj st ≤ iM I := by
  have hl := dmn_le hd
  have hn := can_next hs hc hl.1 hl.2
  rcases hd with hd | ⟨h1, h2⟩
  · omega
  · subst h1; subst h2
    rcases (show st = 0 ∨ st = 1 ∨ st = 2 by omega) with rfl | rfl | rfl
    · have e1 : di 0 = 1 := rfl
      have e2 : dj 0 = 1 := rfl
      omega
    · have := can1.mp hc; omega
    · have := can2.mp hc; omega
theorem dmn_d {I : LI} {st i j : Nat} (hs : st < 3) (hd : dmn I i j) (hc : can I st i j = true) : dmn I (i + di st) (j + dj st) := Or.inl (dmn_next hs hd hc)
theorem TT_d {I : LI} (hB : LB I) (hL : hasL I) {i j : Nat} (hd : dmn I i j) : (TT I i j).2.2.1 ≠ 0 := by
  rcases hd with ⟨a, b, c, d⟩ | ⟨h1, h2⟩
  · exact TT_p hB a b c d
  · subst h1; subst h2
    rw [TT_rec hB (Nat.zero_le _) (Nat.zero_le _)]
    by_cases h : iN I = 0
    · have h2 := hL.mp h
      refine tsa_wy3 (st := 0) (by omega) ?_
      show (if 0 = iN I ∧ 0 = iM I then 1 else 0) ≠ 0
      rw [if_pos (by omega)]; decide
    · have h2 : ¬ iM I = 0 := fun q => h (hL.mpr q)
      refine tsa_wy3 (st := 1) (by omega) (tsa_wy_ge (st := 0) (can0.mpr ⟨by omega, by omega⟩) ?_)
      exact TT_p hB (by decide) (by show 0 + 1 ≤ _; omega) (by decide) (by show 0 + 1 ≤ _; omega)
theorem TT_dn {I : LI} (hB : LB I) {st i j : Nat} (hs : st < 3) (hd : dmn I i j) (hc : can I st i j = true) : (TT I (i + di st) (j + dj st)).2.2.1 ≠ 0 := by
  have h := dmn_next hs hd hc
  exact TT_p hB h.1 h.2.1 h.2.2.1 h.2.2.2
/-- the ways of cost c0, step by step -/
def cla (I : LI) (i j c0 : Nat) : Nat → Nat
  | 0 => if i = iN I ∧ j = iM I then 1 else 0
  | st + 1 => cla I i j c0 st + (if can I st i j = true then (if cst I st i j + (TT I (i + di st) (j + dj st)).1 = c0 then (TT I (i + di st) (j + dj st)).2.2.2 else 0) else 0)
theorem cla_ok {I : LI} (hB : LB I) {i j : Nat} (hd : dmn I i j) (he : ¬ (i = iN I ∧ j = iM I)) : ∀ {k : Nat}, k ≤ 3 → ((tsa I (TT I) i j k).2.2.1 = 0 → ∀ c0, cla I i j c0 k = 0) ∧ ((tsa I (TT I) i j k).2.2.1 ≠ 0 → cla I i j (tsa I (TT I) i j k).1 k = (tsa I (TT I) i j k).2.2.2 ∧ ∀ c0, c0 < (tsa I (TT I) i j k).1 → cla I i j c0 k = 0)
  | 0, _ => by
    refine ⟨fun _ c0 => if_neg he, fun h => ?_⟩
    exact absurd (if_neg he) h
  | k + 1, hk => by
    obtain ⟨h1, h2⟩ := cla_ok hB hd he (k := k) (by omega)
    have e3 : ∀ c0, cla I i j c0 (k + 1) = cla I i j c0 k + (if can I k i j = true then (if cst I k i j + (TT I (i + di k) (j + dj k)).1 = c0 then (TT I (i + di k) (j + dj k)).2.2.2 else 0) else 0) := fun _ => rfl
    have e4 : tsa I (TT I) i j (k + 1) = ts I (TT I) i j k (tsa I (TT I) i j k) := rfl
    by_cases hc : can I k i j = true
    · have ht := TT_dn hB (show k < 3 by omega) hd hc
      have e5 : tsa I (TT I) i j (k + 1) = tk (tsa I (TT I) i j k) (cst I k i j) (TT I (i + di k) (j + dj k)) := by rw [e4]; unfold ts; rw [if_pos hc]
      generalize tsa I (TT I) i j k = a at *
      generalize TT I (i + di k) (j + dj k) = t at *
      generalize cst I k i j = own at *
      refine ⟨fun h => ?_, fun _ => ?_⟩
      · rw [e5, tk_wy] at h; omega
      · have e6 : tk a own t = ((if a.2.2.1 = 0 ∨ own + t.1 < a.1 then own + t.1 else a.1), (if a.2.2.1 = 0 ∨ a.2.1 < own + t.2.1 then own + t.2.1 else a.2.1), a.2.2.1 + t.2.2.1, (if a.2.2.1 = 0 ∨ own + t.1 < a.1 then 0 else a.2.2.2) + (if own + t.1 = (if a.2.2.1 = 0 ∨ own + t.1 < a.1 then own + t.1 else a.1) then t.2.2.2 else 0)) := by unfold tk; rw [if_neg ht]
        rw [e5, e6]
        show cla I i j (if a.2.2.1 = 0 ∨ own + t.1 < a.1 then own + t.1 else a.1) (k + 1) = (if a.2.2.1 = 0 ∨ own + t.1 < a.1 then 0 else a.2.2.2) + (if own + t.1 = (if a.2.2.1 = 0 ∨ own + t.1 < a.1 then own + t.1 else a.1) then t.2.2.2 else 0) ∧ ∀ c0, c0 < (if a.2.2.1 = 0 ∨ own + t.1 < a.1 then own + t.1 else a.1) → cla I i j c0 (k + 1) = 0
        by_cases hx : a.2.2.1 = 0 ∨ own + t.1 < a.1
        · rw [if_pos hx, if_pos hx, if_pos rfl]
          refine ⟨?_, fun c0 h => ?_⟩
          · rw [e3, if_pos hc, if_pos rfl]
            congr 1
            by_cases h0 : a.2.2.1 = 0
            · exact h1 h0 _
            · exact (h2 h0).2 _ (hx.resolve_left h0)
          · rw [e3, if_pos hc, if_neg (by omega)]
            by_cases h0 : a.2.2.1 = 0
            · rw [h1 h0]
            · rw [(h2 h0).2 c0 (by have := hx.resolve_left h0; omega)]
        · have h0 : ¬ a.2.2.1 = 0 := fun q => hx (Or.inl q)
          rw [if_neg hx, if_neg hx]
          refine ⟨?_, fun c0 h => ?_⟩
          · rw [e3, if_pos hc, (h2 h0).1]
          · rw [e3, if_pos hc, if_neg (fun q => hx (Or.inr (by omega))), (h2 h0).2 c0 h]
    · have e5 : tsa I (TT I) i j (k + 1) = tsa I (TT I) i j k := by rw [e4]; unfold ts; rw [if_neg hc]
      rw [e5]
      refine ⟨fun h c0 => ?_, fun h => ⟨?_, fun c0 hc0 => ?_⟩⟩
      · rw [e3, if_neg hc]; exact h1 h c0
      · rw [e3, if_neg hc]; exact (h2 h).1
      · rw [e3, if_neg hc]; exact (h2 h).2 c0 hc0
theorem end_can {I : LI} {st i j : Nat} (hs : st < 3) (he : i = iN I ∧ j = iM I) : can I st i j = false := by
  rcases (show st = 0 ∨ st = 1 ∨ st = 2 by omega) with rfl | rfl | rfl <;> simp [can, he.1, he.2]
theorem cla_fin {I : LI} (hB : LB I) (hL : hasL I) {i j : Nat} (hd : dmn I i j) : cla I i j (TT I i j).1 3 = (TT I i j).2.2.2 := by
  have hl := dmn_le hd
  by_cases he : i = iN I ∧ j = iM I
  · have h0 := end_can (st := 0) (by decide) he
    have h1 := end_can (st := 1) (by decide) he
    have h2 := end_can (st := 2) (by decide) he
    rw [TT_rec hB hl.1 hl.2]
    simp [cla, tsa, ts, h0, h1, h2, te]
  · have h := (cla_ok hB hd he (k := 3) (by decide)).2 (by rw [← TT_rec hB hl.1 hl.2]; exact TT_d hB hL hd)
    rw [← TT_rec hB hl.1 hl.2] at h
    exact h.1
/-- the greatest cost, as Math.max has it -/
theorem mo_tk {I : LI} {i j k : Nat} (hz : (tsa I (TT I) i j k).2.2.1 = 0 → (tsa I (TT I) i j k).2.1 = 0) {own : Nat} {t : X4} (ht : t.2.2.1 ≠ 0) : (tk (tsa I (TT I) i j k) own t).2.1 = if (tsa I (TT I) i j k).2.1 < own + t.2.1 then own + t.2.1 else (tsa I (TT I) i j k).2.1 := by
  unfold tk
  rw [if_neg ht]
  show (if _ ∨ _ then _ else _) = _
  by_cases h0 : (tsa I (TT I) i j k).2.2.1 = 0
  · rw [if_pos (Or.inl h0), hz h0]
    split <;> omega
  · by_cases h : (tsa I (TT I) i j k).2.1 < own + t.2.1
    · rw [if_pos (Or.inr h), if_pos h]
    · rw [if_neg (fun q => q.elim h0 h), if_neg h]
theorem mo_z {I : LI} {i j : Nat} : ∀ {k : Nat}, (tsa I (TT I) i j k).2.2.1 = 0 → (tsa I (TT I) i j k).2.1 = 0
  | 0, _ => rfl
  | k + 1, h => by
    have e4 : tsa I (TT I) i j (k + 1) = ts I (TT I) i j k (tsa I (TT I) i j k) := rfl
    rw [e4] at h ⊢
    unfold ts at h ⊢
    by_cases hc : can I k i j = true
    · rw [if_pos hc] at h ⊢
      rw [tk_wy] at h
      unfold tk
      rw [if_pos (by omega)]
      exact mo_z (by omega)
    · rw [if_neg hc] at h ⊢
      exact mo_z h
/-- the next step of LEAST -/
def nxok (I : LI) (i j st : Nat) : Bool := can I st i j && decide (cst I st i j + (TT I (i + di st) (j + dj st)).1 = (TT I i j).1)
def snx (I : LI) (i j : Nat) : Option Nat := ffst (fun st => !(nxok I i j st)) 3
theorem ffst_f {ok : Nat → Bool} : ∀ {n j : Nat}, ffst ok n = some j → ok j = false ∧ ∀ k, k < j → ok k = true
  | 0, j, h => by cases h
  | n + 1, j, h => by
    unfold ffst at h
    cases hf : ffst ok n with
    | some i => rw [hf] at h; cases h; exact ffst_f hf
    | none =>
      rw [hf] at h
      by_cases ho : ok n = true
      · simp [ho] at h
      · simp [ho] at h; subst h; exact ⟨by simpa using ho, ffst_all hf⟩
theorem snx_s {I : LI} {i j st : Nat} (h : snx I i j = some st) : st < 3 ∧ can I st i j = true ∧ cst I st i j + (TT I (i + di st) (j + dj st)).1 = (TT I i j).1 := by
  have h1 := ffst_lt h
  have h2 := (ffst_f h).1
  simp [nxok] at h2
  exact ⟨h1, h2.1, h2.2⟩
theorem snx_i {I : LI} {i j st : Nat} (hs : st < 3) (h : nxok I i j st = true) (hb : ∀ k, k < st → nxok I i j k = false) : snx I i j = some st := ffst_s (by simp [h]) (fun k hk => by simp [hb k hk]) hs
theorem snx_n {I : LI} {i j : Nat} (hb : ∀ k, k < 3 → nxok I i j k = false) : snx I i j = none := ffst_n (fun k hk => by simp [hb k hk])
theorem tsa_att {I : LI} {T : Nat → Nat → X4} {i j : Nat} (he : ¬ (i = iN I ∧ j = iM I)) : ∀ {k : Nat}, (tsa I T i j k).2.2.1 ≠ 0 → ∃ st, st < k ∧ can I st i j = true ∧ cst I st i j + (T (i + di st) (j + dj st)).1 = (tsa I T i j k).1
  | 0, h => absurd (if_neg he) h
  | k + 1, h => by
    have e4 : tsa I T i j (k + 1) = ts I T i j k (tsa I T i j k) := rfl
    rw [e4] at h ⊢
    unfold ts at h ⊢
    by_cases hc : can I k i j = true
    · rw [if_pos hc] at h ⊢
      by_cases ht : (T (i + di k) (j + dj k)).2.2.1 = 0
      · unfold tk at h ⊢
        rw [if_pos ht] at h ⊢
        obtain ⟨st, a, b, c⟩ := tsa_att he h
        exact ⟨st, by omega, b, c⟩
      · unfold tk
        rw [if_neg ht]
        show ∃ st, st < k + 1 ∧ can I st i j = true ∧ cst I st i j + (T (i + di st) (j + dj st)).1 = (if (tsa I T i j k).2.2.1 = 0 ∨ cst I k i j + (T (i + di k) (j + dj k)).1 < (tsa I T i j k).1 then cst I k i j + (T (i + di k) (j + dj k)).1 else (tsa I T i j k).1)
        by_cases hx : (tsa I T i j k).2.2.1 = 0 ∨ cst I k i j + (T (i + di k) (j + dj k)).1 < (tsa I T i j k).1
        · rw [if_pos hx]; exact ⟨k, by omega, hc, rfl⟩
        · rw [if_neg hx]
          obtain ⟨st, a, b, c⟩ := tsa_att he (k := k) (fun q => hx (Or.inl q))
          exact ⟨st, by omega, b, c⟩
    · rw [if_neg hc] at h ⊢
      obtain ⟨st, a, b, c⟩ := tsa_att he h
      exact ⟨st, by omega, b, c⟩
theorem snx_end {I : LI} {i j : Nat} (he : i = iN I ∧ j = iM I) : snx I i j = none := snx_n (fun k hk => by unfold nxok; rw [end_can hk he]; rfl)
theorem snx_ne {I : LI} (hB : LB I) (hL : hasL I) {i j : Nat} (hd : dmn I i j) (he : ¬ (i = iN I ∧ j = iM I)) : snx I i j ≠ none := by
  intro h
  have hl := dmn_le hd
  have hr := TT_rec hB hl.1 hl.2
  obtain ⟨st, a, b, c⟩ := tsa_att he (k := 3) (by rw [← hr]; exact TT_d hB hL hd)
  have := ffst_all h st a
  rw [← hr] at c
  simp [nxok, b, c] at this
/-- the way of LEAST: where one is after k steps, which step is the k-th -/
def pth (I : LI) : Nat → Nat × Nat
  | 0 => (0, 0)
  | k + 1 => match snx I (pth I k).1 (pth I k).2 with
    | some st => ((pth I k).1 + di st, (pth I k).2 + dj st)
    | none => pth I k
def sta (I : LI) (k : Nat) : Nat := (snx I (pth I k).1 (pth I k).2).getD 0
def tln (I : LI) : Nat := (ffst (fun k => (snx I (pth I k).1 (pth I k).2).isSome) 21).getD 21
def fo (I : LI) (y : Nat) : Nat → Option Nat
  | 0 => none
  | k + 1 => if (fo I y k).isNone ∧ (pth I (k + 1)).2 = y + 1 then some ((pth I (k + 1)).1 - 1) else fo I y k
def ho (I : LI) (y : Nat) : Nat → Nat
  | 0 => 0
  | k + 1 => ho I y k + (if (pth I (k + 1)).2 = y + 1 then 1 else 0)
theorem pth_s {I : LI} {k st : Nat} (h : snx I (pth I k).1 (pth I k).2 = some st) : pth I (k + 1) = ((pth I k).1 + di st, (pth I k).2 + dj st) := by
  show (match snx I (pth I k).1 (pth I k).2 with
    | some st => ((pth I k).1 + di st, (pth I k).2 + dj st)
    | none => pth I k) = _
  rw [h]
theorem pth_d {I : LI} : ∀ (k : Nat), dmn I (pth I k).1 (pth I k).2
  | 0 => Or.inr ⟨rfl, rfl⟩
  | k + 1 => by
    cases h : snx I (pth I k).1 (pth I k).2 with
    | some st =>
      rw [pth_s h]
      have hs := snx_s h
      exact dmn_d hs.1 (pth_d k) hs.2.1
    | none =>
      have e : pth I (k + 1) = pth I k := by
        show (match snx I (pth I k).1 (pth I k).2 with
          | some st => ((pth I k).1 + di st, (pth I k).2 + dj st)
          | none => pth I k) = _
        rw [h]
      rw [e]; exact pth_d k
theorem pth_sum {I : LI} : ∀ {k : Nat}, (∀ x, x < k → snx I (pth I x).1 (pth I x).2 ≠ none) → k ≤ (pth I k).1 + (pth I k).2
  | 0, _ => Nat.zero_le _
  | k + 1, h => by
    have h1 := pth_sum (k := k) (fun x hx => h x (by omega))
    cases hs : snx I (pth I k).1 (pth I k).2 with
    | some st => rw [pth_s hs]; have := dij (st := st); show k + 1 ≤ _ + di st + (_ + dj st); omega
    | none => exact absurd hs (h k (by omega))
theorem tln_at {I : LI} {k : Nat} (hk : k < 21) (h : ∀ x, x < k → snx I (pth I x).1 (pth I x).2 ≠ none) (hn : snx I (pth I k).1 (pth I k).2 = none) : tln I = k := by
  unfold tln
  rw [ffst_s (j := k) (by simp [hn]) (fun x hx => by have := h x hx; cases hq : snx I (pth I x).1 (pth I x).2 with | none => exact absurd hq this | some st => rfl) hk]
  rfl
/-- within 20 steps the end is reached -/
theorem pth_end {I : LI} (hB : LB I) {k : Nat} (h : ∀ x, x < k → snx I (pth I x).1 (pth I x).2 ≠ none) : k ≤ 20 := by
  have h1 := pth_sum h
  have h2 := dmn_le (pth_d (I := I) k)
  have := hB.1
  have := hB.2.1
  omega
