/-! the loom: trace, and what it tells -/
theorem nI_m1 {n : Nat} (h : n < 2 ^ 31) : ¬ nI n = -1 := by
  intro e
  have h1 := congrArg Int32.toInt e
  rw [nI_toInt h] at h1
  have h2 : (-1 : Int32).toInt = -1 := by decide
  omega
def fores (o : Option Nat) : Int32 := match o with
  | some a => nI a
  | none => -6
theorem fo_b {I : LI} (hB : LB I) {y : Nat} : ∀ {k a : Nat}, fo I y k = some a → a ≤ 9
  | 0, a, h => by cases h
  | k + 1, a, h => by
    unfold fo at h
    by_cases hc : (fo I y k).isNone ∧ (pth I (k + 1)).2 = y + 1
    · rw [if_pos hc] at h
      cases h
      have := (dmn_le (pth_d (I := I) (k + 1))).1
      have := hB.1
      omega
    · rw [if_neg hc] at h
      exact fo_b hB h
theorem fores_n {I : LI} (hB : LB I) {y k : Nat} (h : fores (fo I y k) = -6) : fo I y k = none := by
  cases hf : fo I y k with
  | none => rfl
  | some a =>
    rw [hf] at h
    have := fo_b hB hf
    exact absurd h (nI_m6 (by omega))
theorem fores_s {I : LI} {y k : Nat} (h : ¬ fores (fo I y k) = -6) : (fo I y k).isNone = false := by
  cases hf : fo I y k with
  | none => rw [hf] at h; exact absurd rfl h
  | some a => rfl
def TRI (σ : Mem) (I : LI) (t : Nat) : Prop := σ 85 8 = nI t ∧ (∀ x, x < t → σ 87 x = nI (sta I x)) ∧ ∀ y, y < 11 → σ 88 y = fores (fo I y t) ∧ σ 89 y = nI (ho I y t)
def Frs (σ τ : Mem) : Prop := ∀ k, (k < 85 ∨ k = 86 ∨ 134 ≤ k) → τ k = σ k
def Frq (σ τ : Mem) : Prop := ∀ k, k ≠ 85 → k ≠ 87 → k ≠ 88 → k ≠ 89 → τ k = σ k
theorem Frq.rf {σ : Mem} : Frq σ σ := fun _ _ _ _ _ => rfl
theorem Frq.set {σ τ : Mem} {k f : Nat} {x : Int32} (h : Frq σ τ) (hk : k = 85 ∨ k = 87 ∨ k = 88 ∨ k = 89) : Frq σ (mset τ k f x) := fun j a b c d => by rw [mset_n (by omega)]; exact h j a b c d
theorem Frq.s {σ τ : Mem} (h : Frq σ τ) : Frs σ τ := fun k hk => h k (by omega) (by omega) (by omega) (by omega)
theorem Frt.s {σ τ : Mem} {lo hi : Nat} (h : Frt lo hi σ τ) (h1 : 94 ≤ lo) (h2 : hi ≤ 134) : Frs σ τ := fun k hk => h k (by omega)
theorem Frs.tr {σ τ υ : Mem} (h : Frs σ τ) (g : Frs τ υ) : Frs σ υ := fun k a => (g k a).trans (h k a)
theorem Frs.rf {σ : Mem} : Frs σ σ := fun _ _ => rfl
theorem LM.kq {σ τ : Mem} {I : LI} (h : LM σ I) (f : Frq σ τ) : LM τ I := h.keep (fun k hk => f k (by omega) (by omega) (by omega) (by omega))
theorem LM.ks {σ τ : Mem} {I : LI} (h : LM σ I) (f : Frs σ τ) : LM τ I := h.keep (fun k hk => f k (by omega))
theorem WT.kq {σ τ : Mem} {I : LI} (h : WT σ I) (f : Frq σ τ) : WT τ I := fun a b hd => by rw [f _ (by omega) (by omega) (by omega) (by omega)]; exact h a b hd
theorem trc_a {υ : Mem} {I : LI} {t st : Nat} (hB : LB I) (hs : snx I (pth I t).1 (pth I t).2 = some st) (hv : TRI υ I t) (h1 : 1 ≤ (pth I t).2 + dj st) (hc : fores (fo I ((pth I t).2 + dj st - 1) t) = -6) : TRI (mset (mset (mset (mset υ 87 t (nI st)) 85 8 (nI (t + 1))) 88 ((pth I t).2 + dj st - 1) (nI ((pth I t).1 + di st - 1))) 89 ((pth I t).2 + dj st - 1) (nI (ho I ((pth I t).2 + dj st - 1) t + 1))) I (t + 1) := by
  have hp := pth_s hs
  obtain ⟨a1, a2, a3⟩ := hv
  refine ⟨?_, fun x hx => ?_, fun y hy => ⟨?_, ?_⟩⟩
  · rw [mset_n (by decide), mset_n (by decide), mset_ss]
  · rw [mset_n (by decide), mset_n (by decide), mset_n (by decide)]
    by_cases e : x = t
    · subst e; rw [mset_ss]; unfold sta; rw [hs]; rfl
    · rw [mset_sn e]; exact a2 x (by omega)
  · rw [mset_n (by decide)]
    have ef : fo I y (t + 1) = if (fo I y t).isNone ∧ (pth I (t + 1)).2 = y + 1 then some ((pth I (t + 1)).1 - 1) else fo I y t := rfl
    rw [ef, hp]
    by_cases e : y = (pth I t).2 + dj st - 1
    · subst e
      rw [mset_ss, if_pos ⟨by rw [fores_n hB hc]; rfl, by show (pth I t).2 + dj st = _; omega⟩]; rfl
    · rw [mset_sn e, mset_n (by decide), mset_n (by decide), if_neg (fun q => e (by have := q.2; simp only at this; omega))]
      exact (a3 y hy).1
  · have eh : ho I y (t + 1) = ho I y t + (if (pth I (t + 1)).2 = y + 1 then 1 else 0) := rfl
    rw [eh, hp]
    by_cases e : y = (pth I t).2 + dj st - 1
    · subst e
      rw [mset_ss, if_pos (by show (pth I t).2 + dj st = _; omega)]
    · rw [mset_sn e, mset_n (by decide), mset_n (by decide), mset_n (by decide), if_neg (fun q => e (by simp only at q; omega))]
      exact (a3 y hy).2
theorem trc_b {υ : Mem} {I : LI} {t st : Nat} (hs : snx I (pth I t).1 (pth I t).2 = some st) (hv : TRI υ I t) (h1 : 1 ≤ (pth I t).2 + dj st) (hc : ¬ fores (fo I ((pth I t).2 + dj st - 1) t) = -6) : TRI (mset (mset (mset υ 87 t (nI st)) 85 8 (nI (t + 1))) 89 ((pth I t).2 + dj st - 1) (nI (ho I ((pth I t).2 + dj st - 1) t + 1))) I (t + 1) := by
  have hp := pth_s hs
  obtain ⟨a1, a2, a3⟩ := hv
  refine ⟨?_, fun x hx => ?_, fun y hy => ⟨?_, ?_⟩⟩
  · rw [mset_n (by decide), mset_ss]
  · rw [mset_n (by decide), mset_n (by decide)]
    by_cases e : x = t
    · subst e; rw [mset_ss]; unfold sta; rw [hs]; rfl
    · rw [mset_sn e]; exact a2 x (by omega)
  · rw [mset_n (by decide), mset_n (by decide), mset_n (by decide)]
    have ef : fo I y (t + 1) = if (fo I y t).isNone ∧ (pth I (t + 1)).2 = y + 1 then some ((pth I (t + 1)).1 - 1) else fo I y t := rfl
    rw [ef, hp]
    by_cases e : y = (pth I t).2 + dj st - 1
    · subst e
      rw [if_neg (fun q => by rw [fores_s hc] at q; exact absurd q.1 (by decide))]
      exact (a3 _ hy).1
    · rw [if_neg (fun q => e (by have := q.2; simp only at this; omega))]
      exact (a3 y hy).1
  · have eh : ho I y (t + 1) = ho I y t + (if (pth I (t + 1)).2 = y + 1 then 1 else 0) := rfl
    rw [eh, hp]
    by_cases e : y = (pth I t).2 + dj st - 1
    · subst e
      rw [mset_ss, if_pos (by show (pth I t).2 + dj st = _; omega)]
    · rw [mset_sn e, mset_n (by decide), mset_n (by decide), if_neg (fun q => e (by simp only at q; omega))]
      exact (a3 y hy).2
def sN (x : Nat) : Nat := if x = 111 then 0 else if x = 104 then 1 else 2
theorem sN_lt (x : Nat) : sN x < 3 := by unfold sN; split; decide; split <;> decide
theorem stp_sN {x : Nat} (h : isS x = true) : stp x = nI (sN x) := by
  unfold stp sN
  by_cases h1 : x = 111
  · simp [h1]
  · by_cases h2 : x = 104
    · simp [h2]
    · by_cases h3 : x = 115
      · simp [h3]
      · simp [isS, h1, h2, h3] at h
/-- what a row of steps costs -/
def cofs (I : LI) (g : Nat → Nat) : Nat → Option (Nat × Nat × Nat)
  | 0 => some (0, 0, 0)
  | k + 1 => match cofs I g k with
    | none => none
    | some (i, j, s) => if can I (sN (g k)) i j = true then some (i + di (sN (g k)), j + dj (sN (g k)), s + cst I (sN (g k)) i j) else none
def cres (I : LI) (g : Nat → Nat) (n : Nat) : Int32 := match cofs I g n with
  | none => -5
  | some (i, j, s) => if i = iN I ∧ j = iM I then nI s else -5
theorem cofs_s {I : LI} {g : Nat → Nat} {k i j s : Nat} (h : cofs I g k = some (i, j, s)) (hc : can I (sN (g k)) i j = true) : cofs I g (k + 1) = some (i + di (sN (g k)), j + dj (sN (g k)), s + cst I (sN (g k)) i j) := by
  unfold cofs; rw [h]; simp [hc]
theorem cofs_n {I : LI} {g : Nat → Nat} {k i j s : Nat} (h : cofs I g k = some (i, j, s)) (hc : ¬ can I (sN (g k)) i j = true) : ∀ (d : Nat), cofs I g (k + 1 + d) = none
  | 0 => by show cofs I g (k + 1) = none; unfold cofs; rw [h]; simp [hc]
  | d + 1 => by
    show cofs I g (k + 1 + d + 1) = none
    unfold cofs; rw [cofs_n h hc d]
/-- is an int a place among n? -/
abbrev inR (x : Int32) (n : Nat) : Prop := 0 ≤ x.toInt ∧ x.toInt < n
theorem inR_of {x : Int32} {n : Nat} (h : inR x n) (hn : n < 2 ^ 31) : ∃ j, j < n ∧ x = nI j := vp_in_of (vp_in_iff.mpr h) hn
theorem inR_nI {k n : Nat} (hk : k < 2 ^ 31) : inR (nI k) n ↔ k < n := by
  unfold inR
  rw [nI_toInt hk]
  omega
theorem inR_w (x : Int32) {n : Nat} (hn : n < 2 ^ 30) : (nI 0 ≤ x ∧ x ≤ nI n - nI 1) = inR x n := by
  have h1 : (nI n - nI 1).toInt = (n : Int) - 1 := pk_sub_toInt hn (by decide)
  have h0 : (nI 0).toInt = 0 := by decide
  rw [Int32.le_iff_toInt_le, Int32.le_iff_toInt_le, h1, h0]
  unfold inR
  exact propext ⟨fun h => ⟨h.1, by omega⟩, fun h => ⟨h.1, by omega⟩⟩
theorem c_withinR (l : Launch) (G : GG) {σ : Mem} (x : Int32) {n : Nat} (hn : n < 2 ^ 30) : Ci l G yX4_isWithin cX4_isWithin 3 (some .boolean) 0 0 [.int x, .int (nI 0), .int (nI n - nI 1)] σ (fun r τ => r = (if inR x n then 1 else 0) ∧ τ = σ) := by
  have h := c_isWithin l G (σ := σ) x (nI 0) (nI n - nI 1)
  simp only [inR_w x hn] at h
  exact h
set_option maxHeartbeats 4000000 in
set_option maxRecDepth 100000 in
theorem c_trace (l : Launch) (G : GG) {σ : Mem} {I : LI} (hB : LB I) (hL : hasL I) (hM : LM σ I) (hW : WT σ I) : Cv l G yX1_trace cX1_trace 5 3 72 [.ref (gad G 85)] σ (fun τ => TRI τ I (tln I) ∧ Frq σ τ) := by
  refine Cv.of (own := RX1) (by decide) rfl (Nat.le_of_ble_eq_true rfl) (fun p e s m args below meth c ls H locs X hl hh => ?_)
  have hb1 := hB.1
  have hb2 := hB.2.1
  have lp : ∀ (k t : Nat), 20 - t = k → t ≤ 20 → (∀ x, x < t → snx I (pth I x).1 (pth I x).2 ≠ none) → ∀ (υ : Mem), TRI υ I t → Frq σ υ → ∀ (ls : Array Slot) (H : Heap) (locs : List Loc), lv_has ls 5 [(3, .int (nI t)), (2, .int (nI ((pth I t).2))), (1, .int (nI ((pth I t).1))), (0, .ref (gad G 85))] → HH G s υ H locs → WV l G p e s m args below meth c 3 72 (fun τ => TRI τ I (tln I) ∧ Frq σ τ) H locs (F0 m 40 ls []) := by
    intro km
    induction km using Nat.strongRecOn with
    | ind km ih =>
      intro t hk ht hx υ hv hf ls H locs hl hh
      have hpd := dmn_le (pth_d (I := I) t)
      refine lv_iload_n X.x X.b dX1_trace_40 rfl (lv_at hl 0 rfl) ?_
      refine lv_bipush (v := nI 20) X.x X.b dX1_trace_41 (by decide) ?_
      refine lv_icmp_ge (tgt := 139) X.x X.b dX1_trace_43 (by decide) (fun c_1 => ?_) (fun c_1 => ?_)
      · have c_1 : 20 ≤ t := (nI_leI (a := 20) (b := t) (by omega) (by omega)).mp c_1
        exact f_vret X hh (by have e9 : snx I (pth I t).1 (pth I t).2 = none := Classical.byContradiction (fun q9 => absurd (pth_end hB (k := t + 1) (fun x h9 => if e8 : x = t then (by subst e8; exact q9) else hx x (by omega))) (by omega)); rw [tln_at (by omega) hx e9]; exact ⟨hv, hf⟩) dX1_trace_139
      · have c_1 : ¬ 20 ≤ t := fun q9 => c_1 ((nI_leI (a := 20) (b := t) (by omega) (by omega)).mpr q9)
        refine lv_aload_n X.x X.b dX1_trace_46 rfl (lv_at hl 3 rfl) ?_
        refine lv_iload_n X.x X.b dX1_trace_47 rfl (lv_at hl 2 rfl) ?_
        refine lv_iload_n X.x X.b dX1_trace_48 rfl (lv_at hl 1 rfl) ?_
        refine f_calli X hh (c_leastStepFrom l G (i := (pth I t).1) (j := (pth I t).2) hB (hM.kq hf) (hW.kq hf) (pth_d t)) mf_yX1_leastStepFrom ki_yX1_leastStepFrom kl_yX1_leastStepFrom km_X1_158 (sh_85 G _) (by decide) rfl rfl hl.1 [] rfl (Nat.le_of_ble_eq_true rfl) ⟨by decide, by decide⟩ ⟨Nat.zero_le _, Nat.zero_le _⟩ dX1_trace_49 (fun r τ H locs hq hh => ?_)
        obtain ⟨rfl, hτ⟩ := hq
        rw [hτ] at hh
        clear hτ
        rcases hs9 : snx I (pth I t).1 (pth I t).2 with _ | st
        · have hl9 : tln I = t := tln_at (by omega) hx hs9
          refine lv_istore (lv' := [(4, .int ((-1))), (3, .int (nI t)), (2, .int (nI ((pth I t).2))), (1, .int (nI ((pth I t).1))), (0, .ref (gad G 85))]) X.x X.b dX1_trace_52 hl (by decide) rfl (fun ls hl => ?_)
          refine lv_iload X.x X.b dX1_trace_54 (lv_at hl 0 rfl) ?_
          refine lv_iconst (v := (-1)) X.x X.b dX1_trace_56 (by decide) ?_
          refine lv_icmp_ne (tgt := 61) X.x X.b dX1_trace_57 (by decide) (fun h9 => absurd (show _ by decide) h9) (fun _ => ?_)
          exact f_vret X hh (by rw [hl9]; exact ⟨hv, hf⟩) dX1_trace_60
        · have hs8 := snx_s hs9
          have hd8 := dmn_next hs8.1 (pth_d t) hs8.2.1
          refine lv_istore (lv' := [(4, .int (nI st)), (3, .int (nI t)), (2, .int (nI ((pth I t).2))), (1, .int (nI ((pth I t).1))), (0, .ref (gad G 85))]) X.x X.b dX1_trace_52 hl (by decide) rfl (fun ls hl => ?_)
          refine lv_iload X.x X.b dX1_trace_54 (lv_at hl 0 rfl) ?_
          refine lv_iconst (v := (-1)) X.x X.b dX1_trace_56 (by decide) ?_
          refine lv_icmp_ne (tgt := 61) X.x X.b dX1_trace_57 (by decide) (fun _ => ?_) (fun h9 => absurd h9 (nI_m1 (by omega)))
          refine lv_iload_n X.x X.b dX1_trace_61 rfl (lv_at hl 3 rfl) ?_
          refine f_get1 X hh dX1_trace_62 ?_
          refine lv_iload X.x X.b dX1_trace_65 (lv_at hl 0 rfl) ?_
          refine f_ti1 X hh (j := st) rfl (by omega) (v := .int (nI (di st))) (sOn_di (by omega)) dX1_trace_67 ?_
          refine f_iadd X (z := nI ((pth I t).1 + di st)) (nI_add ((pth I t).1) (di st)) dX1_trace_68 ?_
          refine lv_istore_n (lv' := [(1, .int (nI ((pth I t).1 + di st))), (4, .int (nI st)), (3, .int (nI t)), (2, .int (nI ((pth I t).2))), (0, .ref (gad G 85))]) X.x X.b dX1_trace_69 rfl hl (by decide) rfl (fun ls hl => ?_)
          refine lv_iload_n X.x X.b dX1_trace_70 rfl (lv_at hl 3 rfl) ?_
          refine f_get2 X hh dX1_trace_71 ?_
          refine lv_iload X.x X.b dX1_trace_74 (lv_at hl 1 rfl) ?_
          refine f_ti2 X hh (j := st) rfl (by omega) (v := .int (nI (dj st))) (nOn_dj (by omega)) dX1_trace_76 ?_
          refine f_iadd X (z := nI ((pth I t).2 + dj st)) (nI_add ((pth I t).2) (dj st)) dX1_trace_77 ?_
          refine lv_istore_n (lv' := [(2, .int (nI ((pth I t).2 + dj st))), (1, .int (nI ((pth I t).1 + di st))), (4, .int (nI st)), (3, .int (nI t)), (0, .ref (gad G 85))]) X.x X.b dX1_trace_78 rfl hl (by decide) rfl (fun ls hl => ?_)
          refine lv_aload_n X.x X.b dX1_trace_79 rfl (lv_at hl 4 rfl) ?_
          refine f_get X hh (v := .ref (gad G 87)) (sh_85 G _) (by decide) rfl in_X1 7 (by decide) kf_X1_41 rfl dX1_trace_80 ?_
          refine lv_iload_n X.x X.b dX1_trace_83 rfl (lv_at hl 3 rfl) ?_
          refine lv_iload X.x X.b dX1_trace_84 (lv_at hl 2 rfl) ?_
          refine f_iast X hh (j := t) (sh_87 G) (by decide) rfl (by omega) (by decide) dX1_trace_86 (fun H locs hh => ?_)
          refine lv_aload_n X.x X.b dX1_trace_87 rfl (lv_at hl 4 rfl) ?_
          refine lv_dup X.x X.b dX1_trace_88 rfl ?_
          refine f_geti X hh (x := nI t) (sh_85 G _) (by decide) rfl in_X1 8 (by decide) kf_X1_44 rfl (by rw [mset_n (show 85 ≠ 87 by omega)]; exact hv.1) dX1_trace_89 ?_
          refine lv_iconst (v := nI 1) X.x X.b dX1_trace_92 (by decide) ?_
          refine f_iadd X (z := nI (t + 1)) (nI_add t 1) dX1_trace_93 ?_
          refine f_put X hh (x := nI (t + 1)) (sh_85 G _) (by decide) rfl in_X1 8 (sh_85 G _) tyX1 tyX1_ok nmX1 (by decide) kf_X1_44 rfl (by decide +kernel) (Nat.le_of_ble_eq_true rfl) dX1_trace_94 (fun H locs hh => ?_)
          refine lv_aload_n X.x X.b dX1_trace_97 rfl (lv_at hl 4 rfl) ?_
          refine f_get X hh (v := .ref (gad G 88)) (sh_85 G _) (by decide) rfl in_X1 9 (by decide) kf_X1_48 rfl dX1_trace_98 ?_
          refine lv_iload_n X.x X.b dX1_trace_101 rfl (lv_at hl 0 rfl) ?_
          refine lv_iconst (v := nI 1) X.x X.b dX1_trace_102 (by decide) ?_
          refine f_isub X (z := nI ((pth I t).2 + dj st - 1)) (pk_sub (a := (pth I t).2 + dj st) (b := 1) (by omega)) dX1_trace_103 ?_
          refine f_ialdx X hh (j := (pth I t).2 + dj st - 1) (y := fores (fo I ((pth I t).2 + dj st - 1) t)) (sh_88 G _) (by decide) rfl (by omega) (by decide) (by rw [mset_n (show 88 ≠ 85 by omega), mset_n (show 88 ≠ 87 by omega)]; exact (hv.2.2 _ (by omega)).1) dX1_trace_104 ?_
          refine lv_bipush (v := (-6)) X.x X.b dX1_trace_105 (by decide) ?_
          refine lv_icmp_ne (tgt := 121) X.x X.b dX1_trace_107 (by decide) (fun c_4 => ?_) (fun c_4 => ?_)
          · refine lv_aload_n X.x X.b dX1_trace_121 rfl (lv_at hl 4 rfl) ?_
            refine f_get X hh (v := .ref (gad G 89)) (sh_85 G _) (by decide) rfl in_X1 10 (by decide) kf_X1_51 rfl dX1_trace_122 ?_
            refine lv_iload_n X.x X.b dX1_trace_125 rfl (lv_at hl 0 rfl) ?_
            refine lv_iconst (v := nI 1) X.x X.b dX1_trace_126 (by decide) ?_
            refine f_isub X (z := nI ((pth I t).2 + dj st - 1)) (pk_sub (a := (pth I t).2 + dj st) (b := 1) (by omega)) dX1_trace_127 ?_
            refine lv_dup2_11 X.x X.b dX1_trace_128 rfl rfl ?_
            refine f_ialdx X hh (j := (pth I t).2 + dj st - 1) (y := nI (ho I ((pth I t).2 + dj st - 1) t)) (sh_89 G _) (by decide) rfl (by omega) (by decide) (by rw [mset_n (show 89 ≠ 85 by omega), mset_n (show 89 ≠ 87 by omega)]; exact (hv.2.2 _ (by omega)).2) dX1_trace_129 ?_
            refine lv_iconst (v := nI 1) X.x X.b dX1_trace_130 (by decide) ?_
            refine f_iadd X (z := nI (ho I ((pth I t).2 + dj st - 1) t + 1)) (nI_add (ho I ((pth I t).2 + dj st - 1) t) 1) dX1_trace_131 ?_
            refine f_iast X hh (j := (pth I t).2 + dj st - 1) (sh_89 G) (by decide) rfl (by omega) (by decide) dX1_trace_132 (fun H locs hh => ?_)
            refine lv_iinc (v := nI (t + 1)) (lv' := [(3, .int (nI (t + 1))), (2, .int (nI ((pth I t).2 + dj st))), (1, .int (nI ((pth I t).1 + di st))), (4, .int (nI st)), (0, .ref (gad G 85))]) X.x X.b dX1_trace_133 hl (k := 3) rfl (nI_1 t) (by decide) rfl (fun ls hl => ?_)
            refine lv_goto (tgt := 40) X.x X.b dX1_trace_136 (by decide) ?_
            refine ih (20 - (t + 1)) (by omega) (t + 1) rfl (by omega) (fun x h9 => ?_) _ (trc_b hs9 hv (by omega) c_4) (((hf.set (by omega)).set (by omega)).set (by omega)) ls H locs ?_ hh
            · by_cases e8 : x = t
              · subst e8; rw [hs9]; intro q9; cases q9
              · exact hx x (by omega)
            · rw [pth_s hs9]; exact lv_sub hl [0, 1, 2, 4] rfl
          · refine lv_aload_n X.x X.b dX1_trace_110 rfl (lv_at hl 4 rfl) ?_
            refine f_get X hh (v := .ref (gad G 88)) (sh_85 G _) (by decide) rfl in_X1 9 (by decide) kf_X1_48 rfl dX1_trace_111 ?_
            refine lv_iload_n X.x X.b dX1_trace_114 rfl (lv_at hl 0 rfl) ?_
            refine lv_iconst (v := nI 1) X.x X.b dX1_trace_115 (by decide) ?_
            refine f_isub X (z := nI ((pth I t).2 + dj st - 1)) (pk_sub (a := (pth I t).2 + dj st) (b := 1) (by omega)) dX1_trace_116 ?_
            refine lv_iload_n X.x X.b dX1_trace_117 rfl (lv_at hl 1 rfl) ?_
            refine lv_iconst (v := nI 1) X.x X.b dX1_trace_118 (by decide) ?_
            refine f_isub X (z := nI ((pth I t).1 + di st - 1)) (pk_sub (a := (pth I t).1 + di st) (b := 1) (by omega)) dX1_trace_119 ?_
            refine f_iast X hh (j := (pth I t).2 + dj st - 1) (sh_88 G) (by decide) rfl (by omega) (by decide) dX1_trace_120 (fun H locs hh => ?_)
            refine lv_aload_n X.x X.b dX1_trace_121 rfl (lv_at hl 4 rfl) ?_
            refine f_get X hh (v := .ref (gad G 89)) (sh_85 G _) (by decide) rfl in_X1 10 (by decide) kf_X1_51 rfl dX1_trace_122 ?_
            refine lv_iload_n X.x X.b dX1_trace_125 rfl (lv_at hl 0 rfl) ?_
            refine lv_iconst (v := nI 1) X.x X.b dX1_trace_126 (by decide) ?_
            refine f_isub X (z := nI ((pth I t).2 + dj st - 1)) (pk_sub (a := (pth I t).2 + dj st) (b := 1) (by omega)) dX1_trace_127 ?_
            refine lv_dup2_11 X.x X.b dX1_trace_128 rfl rfl ?_
            refine f_ialdx X hh (j := (pth I t).2 + dj st - 1) (y := nI (ho I ((pth I t).2 + dj st - 1) t)) (sh_89 G _) (by decide) rfl (by omega) (by decide) (by rw [mset_n (show 89 ≠ 88 by omega), mset_n (show 89 ≠ 85 by omega), mset_n (show 89 ≠ 87 by omega)]; exact (hv.2.2 _ (by omega)).2) dX1_trace_129 ?_
            refine lv_iconst (v := nI 1) X.x X.b dX1_trace_130 (by decide) ?_
            refine f_iadd X (z := nI (ho I ((pth I t).2 + dj st - 1) t + 1)) (nI_add (ho I ((pth I t).2 + dj st - 1) t) 1) dX1_trace_131 ?_
            refine f_iast X hh (j := (pth I t).2 + dj st - 1) (sh_89 G) (by decide) rfl (by omega) (by decide) dX1_trace_132 (fun H locs hh => ?_)
            refine lv_iinc (v := nI (t + 1)) (lv' := [(3, .int (nI (t + 1))), (2, .int (nI ((pth I t).2 + dj st))), (1, .int (nI ((pth I t).1 + di st))), (4, .int (nI st)), (0, .ref (gad G 85))]) X.x X.b dX1_trace_133 hl (k := 3) rfl (nI_1 t) (by decide) rfl (fun ls hl => ?_)
            refine lv_goto (tgt := 40) X.x X.b dX1_trace_136 (by decide) ?_
            refine ih (20 - (t + 1)) (by omega) (t + 1) rfl (by omega) (fun x h9 => ?_) _ (trc_a hB hs9 hv (by omega) c_4) ((((hf.set (by omega)).set (by omega)).set (by omega)).set (by omega)) ls H locs ?_ hh
            · by_cases e8 : x = t
              · subst e8; rw [hs9]; intro q9; cases q9
              · exact hx x (by omega)
            · rw [pth_s hs9]; exact lv_sub hl [0, 1, 2, 4] rfl
  have lp1 : ∀ (k i : Nat), 11 - i = k → i ≤ 11 → ∀ (υ : Mem), (∀ y, y < i → υ 88 y = -6 ∧ υ 89 y = nI 0) → Frq σ υ → ∀ (ls : Array Slot) (H : Heap) (locs : List Loc), lv_has ls 5 [(1, .int (nI i)), (0, .ref (gad G 85))] → HH G s υ H locs → WV l G p e s m args below meth c 3 72 (fun τ => TRI τ I (tln I) ∧ Frq σ τ) H locs (F0 m 2 ls []) := by
    intro km
    induction km using Nat.strongRecOn with
    | ind km ih =>
      intro i hk hi υ hv hf ls H locs hl hh
      refine lv_iload_n X.x X.b dX1_trace_2 rfl (lv_at hl 0 rfl) ?_
      refine lv_bipush (v := nI 11) X.x X.b dX1_trace_3 (by decide) ?_
      refine lv_icmp_ge (tgt := 29) X.x X.b dX1_trace_5 (by decide) (fun c_5 => ?_) (fun c_5 => ?_)
      · have c_5 : 11 ≤ i := (nI_leI (a := 11) (b := i) (by omega) (by omega)).mp c_5
        refine lv_aload_n X.x X.b dX1_trace_29 rfl (lv_at hl 1 rfl) ?_
        refine lv_iconst (v := nI 0) X.x X.b dX1_trace_30 (by decide) ?_
        refine f_put X hh (x := nI 0) (sh_85 G _) (by decide) rfl in_X1 8 (sh_85 G _) tyX1 tyX1_ok nmX1 (by decide) kf_X1_44 rfl (by decide +kernel) (Nat.le_of_ble_eq_true rfl) dX1_trace_31 (fun H locs hh => ?_)
        refine lv_iconst (v := nI 0) X.x X.b dX1_trace_34 (by decide) ?_
        refine lv_istore_n (lv' := [(1, .int (nI 0)), (0, .ref (gad G 85))]) X.x X.b dX1_trace_35 rfl hl (by decide) rfl (fun ls hl => ?_)
        refine lv_iconst (v := nI 0) X.x X.b dX1_trace_36 (by decide) ?_
        refine lv_istore_n (lv' := [(2, .int (nI 0)), (1, .int (nI 0)), (0, .ref (gad G 85))]) X.x X.b dX1_trace_37 rfl hl (by decide) rfl (fun ls hl => ?_)
        refine lv_iconst (v := nI 0) X.x X.b dX1_trace_38 (by decide) ?_
        refine lv_istore_n (lv' := [(3, .int (nI 0)), (2, .int (nI 0)), (1, .int (nI 0)), (0, .ref (gad G 85))]) X.x X.b dX1_trace_39 rfl hl (by decide) rfl (fun ls hl => ?_)
        refine lp 20 0 rfl (by omega) (fun x h9 => absurd h9 (Nat.not_lt_zero _)) _ ⟨mset_ss, fun x h9 => absurd h9 (Nat.not_lt_zero _), fun y hy => ⟨?_, ?_⟩⟩ (hf.set (by omega)) ls H locs (lv_sub hl [0, 1, 2, 3] rfl) hh
        · rw [mset_n (by decide)]; exact (hv y (by omega)).1
        · rw [mset_n (by decide)]; exact (hv y (by omega)).2
      · have c_5 : ¬ 11 ≤ i := fun q9 => c_5 ((nI_leI (a := 11) (b := i) (by omega) (by omega)).mpr q9)
        refine lv_aload_n X.x X.b dX1_trace_8 rfl (lv_at hl 1 rfl) ?_
        refine f_get X hh (v := .ref (gad G 88)) (sh_85 G _) (by decide) rfl in_X1 9 (by decide) kf_X1_48 rfl dX1_trace_9 ?_
        refine lv_iload_n X.x X.b dX1_trace_12 rfl (lv_at hl 0 rfl) ?_
        refine lv_bipush (v := (-6)) X.x X.b dX1_trace_13 (by decide) ?_
        refine f_iast X hh (j := i) (sh_88 G) (by decide) rfl (by omega) (by decide) dX1_trace_15 (fun H locs hh => ?_)
        refine lv_aload_n X.x X.b dX1_trace_16 rfl (lv_at hl 1 rfl) ?_
        refine f_get X hh (v := .ref (gad G 89)) (sh_85 G _) (by decide) rfl in_X1 10 (by decide) kf_X1_51 rfl dX1_trace_17 ?_
        refine lv_iload_n X.x X.b dX1_trace_20 rfl (lv_at hl 0 rfl) ?_
        refine lv_iconst (v := nI 0) X.x X.b dX1_trace_21 (by decide) ?_
        refine f_iast X hh (j := i) (sh_89 G) (by decide) rfl (by omega) (by decide) dX1_trace_22 (fun H locs hh => ?_)
        refine lv_iinc (v := nI (i + 1)) (lv' := [(1, .int (nI (i + 1))), (0, .ref (gad G 85))]) X.x X.b dX1_trace_23 hl (k := 0) rfl (nI_1 i) (by decide) rfl (fun ls hl => ?_)
        refine lv_goto (tgt := 2) X.x X.b dX1_trace_26 (by decide) ?_
        refine ih (11 - (i + 1)) (by omega) (i + 1) rfl (by omega) _ (fun y hy => ?_) ((hf.set (by omega)).set (by omega)) ls H locs (lv_sub hl [0, 1] rfl) hh
        by_cases e9 : y = i
        · subst e9; exact ⟨by rw [mset_n (by decide), mset_ss], mset_ss⟩
        · exact ⟨by rw [mset_n (by decide), mset_sn e9]; exact (hv y (by omega)).1, by rw [mset_sn e9, mset_n (by decide)]; exact (hv y (by omega)).2⟩
  have hl : lv_has ls 5 [(0, .ref (gad G 85))] := hl
  refine lv_iconst (v := nI 0) X.x X.b dX1_trace_0 (by decide) ?_
  refine lv_istore_n (lv' := [(1, .int (nI 0)), (0, .ref (gad G 85))]) X.x X.b dX1_trace_1 rfl hl (by decide) rfl (fun ls hl => ?_)
  exact lp1 11 0 rfl (by omega) σ (fun y hy => absurd hy (Nat.not_lt_zero _)) Frq.rf ls H locs (lv_sub hl [0, 1] rfl) hh
set_option maxHeartbeats 4000000 in
set_option maxRecDepth 100000 in
theorem c_costOf (l : Launch) (G : GG) {σ : Mem} {I : LI} {n : Nat} {g : Nat → Nat} (hB : LB I) (hM : LM σ I) (hp : PD σ n g) (hS : ∀ i, i < n → isS (g i) = true) : Ci l G yX1_costOf cX1_costOf 7 (some .int) 2 48 [.ref (gad G 85), .ref (gad G 83)] σ (fun r τ => r = cres I g n ∧ τ = σ) := by
  refine Ci.of (own := RX1) (by decide) rfl (Nat.le_of_ble_eq_true rfl) (fun p e s m args below meth c ls H locs X hl hh => ?_)
  have hb1 := hB.1
  have hb2 := hB.2.1
  have hn := hp.2.1
  have lp : ∀ (k t i j q : Nat), n - t = k → t ≤ n → cofs I g t = some (i, j, q) → i ≤ iN I → j ≤ iM I → ∀ (ls : Array Slot) (H : Heap) (locs : List Loc), lv_has ls 7 [(5, .int (nI t)), (4, .int (nI q)), (3, .int (nI j)), (2, .int (nI i)), (0, .ref (gad G 85)), (1, .ref (gad G 83))] → HH G s σ H locs → WI l G p e s m args below meth c 2 48 (fun r τ => r = cres I g n ∧ τ = σ) H locs (F0 m 10 ls []) := by
    intro km
    induction km using Nat.strongRecOn with
    | ind km ih =>
      intro t i j q hk ht hc hi hj ls H locs hl hh
      refine lv_iload X.x X.b dX1_costOf_10 (lv_at hl 0 rfl) ?_
      refine lv_aload_n X.x X.b dX1_costOf_12 rfl (lv_at hl 5 rfl) ?_
      refine f_geti X hh (x := nI n) (sh_83 G _) (by decide) rfl in_X2 1 (by decide) kf_X1_91 rfl hp.1 dX1_costOf_13 ?_
      refine lv_icmp_ge (tgt := 78) X.x X.b dX1_costOf_16 (by decide) (fun c_1 => ?_) (fun c_1 => ?_)
      · have c_1 : n ≤ t := (nI_leI (a := n) (b := t) (by omega) (by omega)).mp c_1
        refine lv_aload_n X.x X.b dX1_costOf_78 rfl (lv_at hl 4 rfl) ?_
        refine lv_iload_n X.x X.b dX1_costOf_79 rfl (lv_at hl 3 rfl) ?_
        refine lv_iload_n X.x X.b dX1_costOf_80 rfl (lv_at hl 2 rfl) ?_
        refine f_calli X hh (c_isEnd l G (i := i) (j := j) hB hM (by omega) (by omega)) mf_yX1_isEnd ki_yX1_isEnd kl_yX1_isEnd km_X1_111 (sh_85 G _) (by decide) rfl rfl hl.1 [] rfl (Nat.le_of_ble_eq_true rfl) ⟨by decide, by decide⟩ ⟨Nat.zero_le _, Nat.zero_le _⟩ dX1_costOf_81 (fun r τ H locs hq hh => ?_)
        obtain ⟨rfl, hτ⟩ := hq
        rw [hτ] at hh
        clear hτ
        by_cases c_2 : i = iN I ∧ j = iM I
        · rw [show (if i = iN I ∧ j = iM I then (1 : Int32) else 0) = 1 from if_pos c_2]
          refine lv_if_eq (tgt := 92) X.x X.b dX1_costOf_84 (by decide) (fun h9 => absurd h9 (by decide)) (fun _ => ?_)
          refine lv_iload X.x X.b dX1_costOf_87 (lv_at hl 1 rfl) ?_
          refine lv_goto (tgt := 94) X.x X.b dX1_costOf_89 (by decide) ?_
          exact f_iret X hh ⟨by obtain rfl : t = n := (by omega); unfold cres; rw [hc]; exact (if_pos c_2).symm, rfl⟩ dX1_costOf_94
        · rw [show (if i = iN I ∧ j = iM I then (1 : Int32) else 0) = 0 from if_neg c_2]
          refine lv_if_eq (tgt := 92) X.x X.b dX1_costOf_84 (by decide) (fun _ => ?_) (fun h9 => absurd (show _ by decide) h9)
          refine lv_bipush (v := (-5)) X.x X.b dX1_costOf_92 (by decide) ?_
          exact f_iret X hh ⟨by obtain rfl : t = n := (by omega); unfold cres; rw [hc]; exact (if_neg c_2).symm, rfl⟩ dX1_costOf_94
      · have c_1 : ¬ n ≤ t := fun q9 => c_1 ((nI_leI (a := n) (b := t) (by omega) (by omega)).mpr q9)
        refine lv_aload_n X.x X.b dX1_costOf_19 rfl (lv_at hl 5 rfl) ?_
        refine lv_iload X.x X.b dX1_costOf_20 (lv_at hl 0 rfl) ?_
        refine f_calli X hh (c_stepAt l G (i := t) hp (by omega)) mf_yX2_stepAt ki_yX2_stepAt kl_yX2_stepAt km_X1_94 (sh_83 G _) (by decide) rfl rfl hl.1 [] rfl (Nat.le_of_ble_eq_true rfl) ⟨by decide, by decide⟩ ⟨Nat.zero_le _, Nat.zero_le _⟩ dX1_costOf_22 (fun r τ H locs hq hh => ?_)
        obtain ⟨rfl, hτ⟩ := hq
        rw [hτ] at hh
        clear hτ
        rw [stp_sN (hS t (by omega))]
        have hsl := sN_lt (g t)
        refine lv_istore (lv' := [(6, .int (nI (sN (g t)))), (5, .int (nI t)), (4, .int (nI q)), (3, .int (nI j)), (2, .int (nI i)), (0, .ref (gad G 85)), (1, .ref (gad G 83))]) X.x X.b dX1_costOf_25 hl (by decide) rfl (fun ls hl => ?_)
        refine lv_aload_n X.x X.b dX1_costOf_27 rfl (lv_at hl 5 rfl) ?_
        refine lv_iload X.x X.b dX1_costOf_28 (lv_at hl 0 rfl) ?_
        refine lv_iload_n X.x X.b dX1_costOf_30 rfl (lv_at hl 4 rfl) ?_
        refine lv_iload_n X.x X.b dX1_costOf_31 rfl (lv_at hl 3 rfl) ?_
        refine f_calli X hh (c_canStep l G (st := sN (g t)) (i := i) (j := j) hB hM (by omega) (by omega) (by omega)) mf_yX1_canStep ki_yX1_canStep kl_yX1_canStep km_X1_98 (sh_85 G _) (by decide) rfl rfl hl.1 [] rfl (Nat.le_of_ble_eq_true rfl) ⟨by decide, by decide⟩ ⟨Nat.zero_le _, Nat.zero_le _⟩ dX1_costOf_32 (fun r τ H locs hq hh => ?_)
        obtain ⟨rfl, hτ⟩ := hq
        rw [hτ] at hh
        clear hτ
        by_cases c_5 : can I (sN (g t)) i j = true
        · rw [show (if can I (sN (g t)) i j = true then (1 : Int32) else 0) = 1 from if_pos c_5]
          have hnx := can_next (by omega) c_5 hi hj
          refine lv_if_ne (tgt := 41) X.x X.b dX1_costOf_35 (by decide) (fun _ => ?_) (fun h9 => absurd h9 (by decide))
          refine lv_iload X.x X.b dX1_costOf_41 (lv_at hl 2 rfl) ?_
          refine lv_aload_n X.x X.b dX1_costOf_43 rfl (lv_at hl 5 rfl) ?_
          refine lv_iload X.x X.b dX1_costOf_44 (lv_at hl 0 rfl) ?_
          refine lv_iload_n X.x X.b dX1_costOf_46 rfl (lv_at hl 4 rfl) ?_
          refine lv_iload_n X.x X.b dX1_costOf_47 rfl (lv_at hl 3 rfl) ?_
          refine f_calli X hh (c_stepCost l G (st := sN (g t)) (i := i) (j := j) hB hM (by omega) c_5 (by omega) (by omega)) mf_yX1_stepCost ki_yX1_stepCost kl_yX1_stepCost km_X1_101 (sh_85 G _) (by decide) rfl rfl hl.1 [.int (nI q)] rfl (Nat.le_of_ble_eq_true rfl) ⟨by decide, by decide⟩ ⟨Nat.zero_le _, Nat.zero_le _⟩ dX1_costOf_48 (fun r τ H locs hq hh => ?_)
          obtain ⟨rfl, hτ⟩ := hq
          rw [hτ] at hh
          clear hτ
          refine f_iadd X (z := nI (q + cst I (sN (g t)) i j)) (nI_add q (cst I (sN (g t)) i j)) dX1_costOf_51 ?_
          refine lv_istore (lv' := [(4, .int (nI (q + cst I (sN (g t)) i j))), (6, .int (nI (sN (g t)))), (5, .int (nI t)), (3, .int (nI j)), (2, .int (nI i)), (0, .ref (gad G 85)), (1, .ref (gad G 83))]) X.x X.b dX1_costOf_52 hl (by decide) rfl (fun ls hl => ?_)
          refine lv_iload_n X.x X.b dX1_costOf_54 rfl (lv_at hl 4 rfl) ?_
          refine f_get1 X hh dX1_costOf_55 ?_
          refine lv_iload X.x X.b dX1_costOf_58 (lv_at hl 1 rfl) ?_
          refine f_ti1 X hh (j := sN (g t)) rfl (by omega) (v := .int (nI (di (sN (g t))))) (sOn_di (by omega)) dX1_costOf_60 ?_
          refine f_iadd X (z := nI (i + di (sN (g t)))) (nI_add i (di (sN (g t)))) dX1_costOf_61 ?_
          refine lv_istore_n (lv' := [(2, .int (nI (i + di (sN (g t))))), (4, .int (nI (q + cst I (sN (g t)) i j))), (6, .int (nI (sN (g t)))), (5, .int (nI t)), (3, .int (nI j)), (0, .ref (gad G 85)), (1, .ref (gad G 83))]) X.x X.b dX1_costOf_62 rfl hl (by decide) rfl (fun ls hl => ?_)
          refine lv_iload_n X.x X.b dX1_costOf_63 rfl (lv_at hl 4 rfl) ?_
          refine f_get2 X hh dX1_costOf_64 ?_
          refine lv_iload X.x X.b dX1_costOf_67 (lv_at hl 2 rfl) ?_
          refine f_ti2 X hh (j := sN (g t)) rfl (by omega) (v := .int (nI (dj (sN (g t))))) (nOn_dj (by omega)) dX1_costOf_69 ?_
          refine f_iadd X (z := nI (j + dj (sN (g t)))) (nI_add j (dj (sN (g t)))) dX1_costOf_70 ?_
          refine lv_istore_n (lv' := [(3, .int (nI (j + dj (sN (g t))))), (2, .int (nI (i + di (sN (g t))))), (4, .int (nI (q + cst I (sN (g t)) i j))), (6, .int (nI (sN (g t)))), (5, .int (nI t)), (0, .ref (gad G 85)), (1, .ref (gad G 83))]) X.x X.b dX1_costOf_71 rfl hl (by decide) rfl (fun ls hl => ?_)
          refine lv_iinc (v := nI (t + 1)) (lv' := [(5, .int (nI (t + 1))), (3, .int (nI (j + dj (sN (g t))))), (2, .int (nI (i + di (sN (g t))))), (4, .int (nI (q + cst I (sN (g t)) i j))), (6, .int (nI (sN (g t)))), (0, .ref (gad G 85)), (1, .ref (gad G 83))]) X.x X.b dX1_costOf_72 hl (k := 4) rfl (nI_1 t) (by decide) rfl (fun ls hl => ?_)
          refine lv_goto (tgt := 10) X.x X.b dX1_costOf_75 (by decide) ?_
          exact ih (n - (t + 1)) (by omega) (t + 1) _ _ _ rfl (by omega) (cofs_s hc c_5) hnx.1 hnx.2 ls H locs (lv_sub hl [0, 3, 1, 2, 5, 6] rfl) hh
        · rw [show (if can I (sN (g t)) i j = true then (1 : Int32) else 0) = 0 from if_neg c_5]
          refine lv_if_ne (tgt := 41) X.x X.b dX1_costOf_35 (by decide) (fun h9 => absurd (show _ by decide) h9) (fun _ => ?_)
          refine lv_bipush (v := (-5)) X.x X.b dX1_costOf_38 (by decide) ?_
          exact f_iret X hh ⟨by unfold cres; have e9 := cofs_n hc c_5 (n - (t + 1)); rw [show t + 1 + (n - (t + 1)) = n by omega] at e9; rw [e9], rfl⟩ dX1_costOf_40
  have hl : lv_has ls 7 [(0, .ref (gad G 85)), (1, .ref (gad G 83))] := hl
  refine lv_iconst (v := nI 0) X.x X.b dX1_costOf_0 (by decide) ?_
  refine lv_istore_n (lv' := [(2, .int (nI 0)), (0, .ref (gad G 85)), (1, .ref (gad G 83))]) X.x X.b dX1_costOf_1 rfl hl (by decide) rfl (fun ls hl => ?_)
  refine lv_iconst (v := nI 0) X.x X.b dX1_costOf_2 (by decide) ?_
  refine lv_istore_n (lv' := [(3, .int (nI 0)), (2, .int (nI 0)), (0, .ref (gad G 85)), (1, .ref (gad G 83))]) X.x X.b dX1_costOf_3 rfl hl (by decide) rfl (fun ls hl => ?_)
  refine lv_iconst (v := nI 0) X.x X.b dX1_costOf_4 (by decide) ?_
  refine lv_istore (lv' := [(4, .int (nI 0)), (3, .int (nI 0)), (2, .int (nI 0)), (0, .ref (gad G 85)), (1, .ref (gad G 83))]) X.x X.b dX1_costOf_5 hl (by decide) rfl (fun ls hl => ?_)
  refine lv_iconst (v := nI 0) X.x X.b dX1_costOf_7 (by decide) ?_
  refine lv_istore (lv' := [(5, .int (nI 0)), (4, .int (nI 0)), (3, .int (nI 0)), (2, .int (nI 0)), (0, .ref (gad G 85)), (1, .ref (gad G 83))]) X.x X.b dX1_costOf_8 hl (by decide) rfl (fun ls hl => ?_)
  exact lp n 0 0 0 0 rfl (by omega) rfl (by omega) (by omega) ls H locs (lv_sub hl [0, 1, 2, 3, 4, 5] rfl) hh

def lcN (I : LI) : Int32 := if (iN I = 0 ↔ iM I = 0) then nI (TT I 0 0).1 else -6
set_option maxHeartbeats 4000000 in
set_option maxRecDepth 100000 in
theorem c_leastCost (l : Launch) (G : GG) {σ : Mem} {I : LI} (hB : LB I) (hM : LM σ I) : Ci l G yX1_leastCost cX1_leastCost 1 (some .int) 4 96 [.ref (gad G 85)] σ (fun r τ => r = lcN I ∧ Frs σ τ) := by
  refine Ci.of (own := RX1) (by decide) rfl (Nat.le_of_ble_eq_true rfl) (fun p e s m args below meth c ls H locs X hl hh => ?_)
  have hl : lv_has ls 1 [(0, .ref (gad G 85))] := hl
  refine lv_aload_n X.x X.b dX1_leastCost_0 rfl (lv_at hl 0 rfl) ?_
  refine f_calli X hh (c_hasLaying l G hB hM) mf_yX1_hasLaying ki_yX1_hasLaying kl_yX1_hasLaying km_X1_115 (sh_85 G _) (by decide) rfl rfl hl.1 [] rfl (Nat.le_of_ble_eq_true rfl) ⟨by decide, by decide⟩ ⟨Nat.zero_le _, Nat.zero_le _⟩ dX1_leastCost_1 (fun r τ H locs hq hh => ?_)
  obtain ⟨rfl, hτ⟩ := hq
  rw [hτ] at hh
  clear hτ
  by_cases c_1 : iN I = 0 ↔ iM I = 0
  · rw [show (if iN I = 0 ↔ iM I = 0 then (1 : Int32) else 0) = 1 from if_pos c_1]
    refine lv_if_ne (tgt := 10) X.x X.b dX1_leastCost_4 (by decide) (fun _ => ?_) (fun h9 => absurd h9 (by decide))
    refine lv_aload_n X.x X.b dX1_leastCost_10 rfl (lv_at hl 0 rfl) ?_
    refine f_callv X hh (c_weigh l G hB c_1 hM) mf_yX1_weigh ki_yX1_weigh kl_yX1_weigh km_X1_119 (sh_85 G _) (by decide) rfl rfl hl.1 [] rfl (Nat.le_of_ble_eq_true rfl) ⟨by decide, by decide⟩ ⟨Nat.zero_le _, Nat.zero_le _⟩ dX1_leastCost_11 (fun τ H locs hq hh => ?_)
    obtain ⟨hM1, hW1, hf1⟩ := hq
    refine lv_aload_n X.x X.b dX1_leastCost_14 rfl (lv_at hl 0 rfl) ?_
    refine f_get X hh (v := .ref (gad G 90)) (sh_85 G _) (by decide) rfl in_X1 3 (by decide) kf_X1_29 rfl dX1_leastCost_15 ?_
    refine lv_iconst (v := nI 0) X.x X.b dX1_leastCost_18 (by decide) ?_
    refine f_aald X hh (j := 0) 4 (sh_90 G _) rfl rfl (by decide) rfl (by omega) (by decide) dX1_leastCost_19 ?_
    refine lv_iconst (v := nI 0) X.x X.b dX1_leastCost_20 (by decide) ?_
    refine f_ialdx X hh (j := 0) (y := nI ((TT I 0 0).1)) (sh_in G (q := 0) (i := 0) (by omega) (by omega) _) (by omega) rfl (by omega) (by decide) (hW1 0 0 (Or.inr ⟨rfl, rfl⟩)) dX1_leastCost_21 ?_
    exact f_iret X hh ⟨(if_pos c_1).symm, hf1.s (by decide) (by decide)⟩ dX1_leastCost_22
  · rw [show (if iN I = 0 ↔ iM I = 0 then (1 : Int32) else 0) = 0 from if_neg c_1]
    refine lv_if_ne (tgt := 10) X.x X.b dX1_leastCost_4 (by decide) (fun h9 => absurd (show _ by decide) h9) (fun _ => ?_)
    refine lv_bipush (v := (-6)) X.x X.b dX1_leastCost_7 (by decide) ?_
    exact f_iret X hh ⟨(if_neg c_1).symm, Frs.rf⟩ dX1_leastCost_9
set_option maxHeartbeats 4000000 in
set_option maxRecDepth 100000 in
theorem c_tallied1 (l : Launch) (G : GG) {σ : Mem} {I : LI} (hB : LB I) (hM : LM σ I) (x : Int32) : Ci l G yX1_tallied cX1_tallied 3 (some .int) 4 99 [.ref (gad G 85), .ref (gad G 91), .int x] σ (fun r τ => r = (if (iN I = 0 ↔ iM I = 0) then nI (TT I 0 0).2.1 else x) ∧ Frs σ τ) := by
  refine Ci.of (own := RX1) (by decide) rfl (Nat.le_of_ble_eq_true rfl) (fun p e s m args below meth c ls H locs X hl hh => ?_)
  have hl : lv_has ls 3 [(0, .ref (gad G 85)), (1, .ref (gad G 91)), (2, .int x)] := hl
  refine lv_aload_n X.x X.b dX1_tallied_0 rfl (lv_at hl 0 rfl) ?_
  refine f_calli X hh (c_hasLaying l G hB hM) mf_yX1_hasLaying ki_yX1_hasLaying kl_yX1_hasLaying km_X1_115 (sh_85 G _) (by decide) rfl rfl hl.1 [] rfl (Nat.le_of_ble_eq_true rfl) ⟨by decide, by decide⟩ ⟨Nat.zero_le _, Nat.zero_le _⟩ dX1_tallied_1 (fun r τ H locs hq hh => ?_)
  obtain ⟨rfl, hτ⟩ := hq
  rw [hτ] at hh
  clear hτ
  by_cases c_1 : iN I = 0 ↔ iM I = 0
  · rw [show (if iN I = 0 ↔ iM I = 0 then (1 : Int32) else 0) = 1 from if_pos c_1]
    refine lv_if_ne (tgt := 9) X.x X.b dX1_tallied_4 (by decide) (fun _ => ?_) (fun h9 => absurd h9 (by decide))
    refine lv_aload_n X.x X.b dX1_tallied_9 rfl (lv_at hl 0 rfl) ?_
    refine f_callv X hh (c_weigh l G hB c_1 hM) mf_yX1_weigh ki_yX1_weigh kl_yX1_weigh km_X1_119 (sh_85 G _) (by decide) rfl rfl hl.1 [] rfl (Nat.le_of_ble_eq_true rfl) ⟨by decide, by decide⟩ ⟨Nat.zero_le _, Nat.zero_le _⟩ dX1_tallied_10 (fun τ H locs hq hh => ?_)
    obtain ⟨hM1, hW1, hf1⟩ := hq
    refine lv_aload_n X.x X.b dX1_tallied_13 rfl (lv_at hl 0 rfl) ?_
    refine f_callv X hh (c_tally l G hB c_1 hM1 hW1) mf_yX1_tally ki_yX1_tally kl_yX1_tally km_X1_126 (sh_85 G _) (by decide) rfl rfl hl.1 [] rfl (Nat.le_of_ble_eq_true rfl) ⟨by decide, by decide⟩ ⟨Nat.zero_le _, Nat.zero_le _⟩ dX1_tallied_14 (fun τ H locs hq hh => ?_)
    obtain ⟨hM2, hW2, hG2, hf2⟩ := hq
    refine lv_aload_n X.x X.b dX1_tallied_17 rfl (lv_at hl 1 rfl) ?_
    refine lv_iconst (v := nI 0) X.x X.b dX1_tallied_18 (by decide) ?_
    refine f_aald X hh (j := 0) 4 (sh_91 G _) rfl rfl (by decide) rfl (by omega) (by decide) dX1_tallied_19 ?_
    refine lv_iconst (v := nI 0) X.x X.b dX1_tallied_20 (by decide) ?_
    refine f_ialdx X hh (j := 0) (y := nI ((TT I 0 0).2.1)) (sh_in G (q := 1) (i := 0) (by omega) (by omega) _) (by omega) rfl (by omega) (by decide) (hG2 0 0 (Or.inr ⟨rfl, rfl⟩)).1 dX1_tallied_21 ?_
    exact f_iret X hh ⟨(if_pos c_1).symm, (hf1.s (by decide) (by decide)).tr (hf2.s (by decide) (by decide))⟩ dX1_tallied_22
  · rw [show (if iN I = 0 ↔ iM I = 0 then (1 : Int32) else 0) = 0 from if_neg c_1]
    refine lv_if_ne (tgt := 9) X.x X.b dX1_tallied_4 (by decide) (fun h9 => absurd (show _ by decide) h9) (fun _ => ?_)
    refine lv_iload_n X.x X.b dX1_tallied_7 rfl (lv_at hl 2 rfl) ?_
    exact f_iret X hh ⟨(if_neg c_1).symm, Frs.rf⟩ dX1_tallied_8
set_option maxHeartbeats 4000000 in
set_option maxRecDepth 100000 in
theorem c_greatestCost (l : Launch) (G : GG) {σ : Mem} {I : LI} (hB : LB I) (hM : LM σ I) : Ci l G yX1_greatestCost cX1_greatestCost 1 (some .int) 5 121 [.ref (gad G 85)] σ (fun r τ => r = (if (iN I = 0 ↔ iM I = 0) then nI (TT I 0 0).2.1 else (-6)) ∧ Frs σ τ) := by
  refine Ci.of (own := RX1) (by decide) rfl (Nat.le_of_ble_eq_true rfl) (fun p e s m args below meth c ls H locs X hl hh => ?_)
  have hl : lv_has ls 1 [(0, .ref (gad G 85))] := hl
  refine lv_aload_n X.x X.b dX1_greatestCost_0 rfl (lv_at hl 0 rfl) ?_
  refine lv_aload_n X.x X.b dX1_greatestCost_1 rfl (lv_at hl 0 rfl) ?_
  refine f_get X hh (v := .ref (gad G 91)) (sh_85 G _) (by decide) rfl in_X1 4 (by decide) kf_X1_32 rfl dX1_greatestCost_2 ?_
  refine lv_bipush (v := (-6)) X.x X.b dX1_greatestCost_5 (by decide) ?_
  refine f_calli X hh (c_tallied1 l G hB hM ((-6))) mf_yX1_tallied ki_yX1_tallied kl_yX1_tallied km_X1_122 (sh_85 G _) (by decide) rfl rfl hl.1 [] rfl (Nat.le_of_ble_eq_true rfl) ⟨by decide, by decide⟩ ⟨Nat.zero_le _, Nat.zero_le _⟩ dX1_greatestCost_7 (fun r τ H locs hq hh => ?_)
  obtain ⟨rfl, hf1⟩ := hq
  exact f_iret X hh ⟨rfl, hf1⟩ dX1_greatestCost_10
set_option maxHeartbeats 4000000 in
set_option maxRecDepth 100000 in
theorem c_tallied2 (l : Launch) (G : GG) {σ : Mem} {I : LI} (hB : LB I) (hM : LM σ I) (x : Int32) : Ci l G yX1_tallied cX1_tallied 3 (some .int) 4 99 [.ref (gad G 85), .ref (gad G 92), .int x] σ (fun r τ => r = (if (iN I = 0 ↔ iM I = 0) then nI (TT I 0 0).2.2.1 else x) ∧ Frs σ τ) := by
  refine Ci.of (own := RX1) (by decide) rfl (Nat.le_of_ble_eq_true rfl) (fun p e s m args below meth c ls H locs X hl hh => ?_)
  have hl : lv_has ls 3 [(0, .ref (gad G 85)), (1, .ref (gad G 92)), (2, .int x)] := hl
  refine lv_aload_n X.x X.b dX1_tallied_0 rfl (lv_at hl 0 rfl) ?_
  refine f_calli X hh (c_hasLaying l G hB hM) mf_yX1_hasLaying ki_yX1_hasLaying kl_yX1_hasLaying km_X1_115 (sh_85 G _) (by decide) rfl rfl hl.1 [] rfl (Nat.le_of_ble_eq_true rfl) ⟨by decide, by decide⟩ ⟨Nat.zero_le _, Nat.zero_le _⟩ dX1_tallied_1 (fun r τ H locs hq hh => ?_)
  obtain ⟨rfl, hτ⟩ := hq
  rw [hτ] at hh
  clear hτ
  by_cases c_1 : iN I = 0 ↔ iM I = 0
  · rw [show (if iN I = 0 ↔ iM I = 0 then (1 : Int32) else 0) = 1 from if_pos c_1]
    refine lv_if_ne (tgt := 9) X.x X.b dX1_tallied_4 (by decide) (fun _ => ?_) (fun h9 => absurd h9 (by decide))
    refine lv_aload_n X.x X.b dX1_tallied_9 rfl (lv_at hl 0 rfl) ?_
    refine f_callv X hh (c_weigh l G hB c_1 hM) mf_yX1_weigh ki_yX1_weigh kl_yX1_weigh km_X1_119 (sh_85 G _) (by decide) rfl rfl hl.1 [] rfl (Nat.le_of_ble_eq_true rfl) ⟨by decide, by decide⟩ ⟨Nat.zero_le _, Nat.zero_le _⟩ dX1_tallied_10 (fun τ H locs hq hh => ?_)
    obtain ⟨hM1, hW1, hf1⟩ := hq
    refine lv_aload_n X.x X.b dX1_tallied_13 rfl (lv_at hl 0 rfl) ?_
    refine f_callv X hh (c_tally l G hB c_1 hM1 hW1) mf_yX1_tally ki_yX1_tally kl_yX1_tally km_X1_126 (sh_85 G _) (by decide) rfl rfl hl.1 [] rfl (Nat.le_of_ble_eq_true rfl) ⟨by decide, by decide⟩ ⟨Nat.zero_le _, Nat.zero_le _⟩ dX1_tallied_14 (fun τ H locs hq hh => ?_)
    obtain ⟨hM2, hW2, hG2, hf2⟩ := hq
    refine lv_aload_n X.x X.b dX1_tallied_17 rfl (lv_at hl 1 rfl) ?_
    refine lv_iconst (v := nI 0) X.x X.b dX1_tallied_18 (by decide) ?_
    refine f_aald X hh (j := 0) 4 (sh_92 G _) rfl rfl (by decide) rfl (by omega) (by decide) dX1_tallied_19 ?_
    refine lv_iconst (v := nI 0) X.x X.b dX1_tallied_20 (by decide) ?_
    refine f_ialdx X hh (j := 0) (y := nI ((TT I 0 0).2.2.1)) (sh_in G (q := 2) (i := 0) (by omega) (by omega) _) (by omega) rfl (by omega) (by decide) (hG2 0 0 (Or.inr ⟨rfl, rfl⟩)).2.1 dX1_tallied_21 ?_
    exact f_iret X hh ⟨(if_pos c_1).symm, (hf1.s (by decide) (by decide)).tr (hf2.s (by decide) (by decide))⟩ dX1_tallied_22
  · rw [show (if iN I = 0 ↔ iM I = 0 then (1 : Int32) else 0) = 0 from if_neg c_1]
    refine lv_if_ne (tgt := 9) X.x X.b dX1_tallied_4 (by decide) (fun h9 => absurd (show _ by decide) h9) (fun _ => ?_)
    refine lv_iload_n X.x X.b dX1_tallied_7 rfl (lv_at hl 2 rfl) ?_
    exact f_iret X hh ⟨(if_neg c_1).symm, Frs.rf⟩ dX1_tallied_8
set_option maxHeartbeats 4000000 in
set_option maxRecDepth 100000 in
theorem c_howManyLayings (l : Launch) (G : GG) {σ : Mem} {I : LI} (hB : LB I) (hM : LM σ I) : Ci l G yX1_howManyLayings cX1_howManyLayings 1 (some .int) 5 121 [.ref (gad G 85)] σ (fun r τ => r = (if (iN I = 0 ↔ iM I = 0) then nI (TT I 0 0).2.2.1 else nI 0) ∧ Frs σ τ) := by
  refine Ci.of (own := RX1) (by decide) rfl (Nat.le_of_ble_eq_true rfl) (fun p e s m args below meth c ls H locs X hl hh => ?_)
  have hl : lv_has ls 1 [(0, .ref (gad G 85))] := hl
  refine lv_aload_n X.x X.b dX1_howManyLayings_0 rfl (lv_at hl 0 rfl) ?_
  refine lv_aload_n X.x X.b dX1_howManyLayings_1 rfl (lv_at hl 0 rfl) ?_
  refine f_get X hh (v := .ref (gad G 92)) (sh_85 G _) (by decide) rfl in_X1 5 (by decide) kf_X1_35 rfl dX1_howManyLayings_2 ?_
  refine lv_iconst (v := nI 0) X.x X.b dX1_howManyLayings_5 (by decide) ?_
  refine f_calli X hh (c_tallied2 l G hB hM (nI 0)) mf_yX1_tallied ki_yX1_tallied kl_yX1_tallied km_X1_122 (sh_85 G _) (by decide) rfl rfl hl.1 [] rfl (Nat.le_of_ble_eq_true rfl) ⟨by decide, by decide⟩ ⟨Nat.zero_le _, Nat.zero_le _⟩ dX1_howManyLayings_6 (fun r τ H locs hq hh => ?_)
  obtain ⟨rfl, hf1⟩ := hq
  exact f_iret X hh ⟨rfl, hf1⟩ dX1_howManyLayings_9
set_option maxHeartbeats 4000000 in
set_option maxRecDepth 100000 in
theorem c_tallied3 (l : Launch) (G : GG) {σ : Mem} {I : LI} (hB : LB I) (hM : LM σ I) (x : Int32) : Ci l G yX1_tallied cX1_tallied 3 (some .int) 4 99 [.ref (gad G 85), .ref (gad G 93), .int x] σ (fun r τ => r = (if (iN I = 0 ↔ iM I = 0) then nI (TT I 0 0).2.2.2 else x) ∧ Frs σ τ) := by
  refine Ci.of (own := RX1) (by decide) rfl (Nat.le_of_ble_eq_true rfl) (fun p e s m args below meth c ls H locs X hl hh => ?_)
  have hl : lv_has ls 3 [(0, .ref (gad G 85)), (1, .ref (gad G 93)), (2, .int x)] := hl
  refine lv_aload_n X.x X.b dX1_tallied_0 rfl (lv_at hl 0 rfl) ?_
  refine f_calli X hh (c_hasLaying l G hB hM) mf_yX1_hasLaying ki_yX1_hasLaying kl_yX1_hasLaying km_X1_115 (sh_85 G _) (by decide) rfl rfl hl.1 [] rfl (Nat.le_of_ble_eq_true rfl) ⟨by decide, by decide⟩ ⟨Nat.zero_le _, Nat.zero_le _⟩ dX1_tallied_1 (fun r τ H locs hq hh => ?_)
  obtain ⟨rfl, hτ⟩ := hq
  rw [hτ] at hh
  clear hτ
  by_cases c_1 : iN I = 0 ↔ iM I = 0
  · rw [show (if iN I = 0 ↔ iM I = 0 then (1 : Int32) else 0) = 1 from if_pos c_1]
    refine lv_if_ne (tgt := 9) X.x X.b dX1_tallied_4 (by decide) (fun _ => ?_) (fun h9 => absurd h9 (by decide))
    refine lv_aload_n X.x X.b dX1_tallied_9 rfl (lv_at hl 0 rfl) ?_
    refine f_callv X hh (c_weigh l G hB c_1 hM) mf_yX1_weigh ki_yX1_weigh kl_yX1_weigh km_X1_119 (sh_85 G _) (by decide) rfl rfl hl.1 [] rfl (Nat.le_of_ble_eq_true rfl) ⟨by decide, by decide⟩ ⟨Nat.zero_le _, Nat.zero_le _⟩ dX1_tallied_10 (fun τ H locs hq hh => ?_)
    obtain ⟨hM1, hW1, hf1⟩ := hq
    refine lv_aload_n X.x X.b dX1_tallied_13 rfl (lv_at hl 0 rfl) ?_
    refine f_callv X hh (c_tally l G hB c_1 hM1 hW1) mf_yX1_tally ki_yX1_tally kl_yX1_tally km_X1_126 (sh_85 G _) (by decide) rfl rfl hl.1 [] rfl (Nat.le_of_ble_eq_true rfl) ⟨by decide, by decide⟩ ⟨Nat.zero_le _, Nat.zero_le _⟩ dX1_tallied_14 (fun τ H locs hq hh => ?_)
    obtain ⟨hM2, hW2, hG2, hf2⟩ := hq
    refine lv_aload_n X.x X.b dX1_tallied_17 rfl (lv_at hl 1 rfl) ?_
    refine lv_iconst (v := nI 0) X.x X.b dX1_tallied_18 (by decide) ?_
    refine f_aald X hh (j := 0) 4 (sh_93 G _) rfl rfl (by decide) rfl (by omega) (by decide) dX1_tallied_19 ?_
    refine lv_iconst (v := nI 0) X.x X.b dX1_tallied_20 (by decide) ?_
    refine f_ialdx X hh (j := 0) (y := nI ((TT I 0 0).2.2.2)) (sh_in G (q := 3) (i := 0) (by omega) (by omega) _) (by omega) rfl (by omega) (by decide) (hG2 0 0 (Or.inr ⟨rfl, rfl⟩)).2.2 dX1_tallied_21 ?_
    exact f_iret X hh ⟨(if_pos c_1).symm, (hf1.s (by decide) (by decide)).tr (hf2.s (by decide) (by decide))⟩ dX1_tallied_22
  · rw [show (if iN I = 0 ↔ iM I = 0 then (1 : Int32) else 0) = 0 from if_neg c_1]
    refine lv_if_ne (tgt := 9) X.x X.b dX1_tallied_4 (by decide) (fun h9 => absurd (show _ by decide) h9) (fun _ => ?_)
    refine lv_iload_n X.x X.b dX1_tallied_7 rfl (lv_at hl 2 rfl) ?_
    exact f_iret X hh ⟨(if_neg c_1).symm, Frs.rf⟩ dX1_tallied_8
set_option maxHeartbeats 4000000 in
set_option maxRecDepth 100000 in
theorem c_howManyLeast (l : Launch) (G : GG) {σ : Mem} {I : LI} (hB : LB I) (hM : LM σ I) : Ci l G yX1_howManyLeast cX1_howManyLeast 1 (some .int) 5 121 [.ref (gad G 85)] σ (fun r τ => r = (if (iN I = 0 ↔ iM I = 0) then nI (TT I 0 0).2.2.2 else nI 0) ∧ Frs σ τ) := by
  refine Ci.of (own := RX1) (by decide) rfl (Nat.le_of_ble_eq_true rfl) (fun p e s m args below meth c ls H locs X hl hh => ?_)
  have hl : lv_has ls 1 [(0, .ref (gad G 85))] := hl
  refine lv_aload_n X.x X.b dX1_howManyLeast_0 rfl (lv_at hl 0 rfl) ?_
  refine lv_aload_n X.x X.b dX1_howManyLeast_1 rfl (lv_at hl 0 rfl) ?_
  refine f_get X hh (v := .ref (gad G 93)) (sh_85 G _) (by decide) rfl in_X1 6 (by decide) kf_X1_38 rfl dX1_howManyLeast_2 ?_
  refine lv_iconst (v := nI 0) X.x X.b dX1_howManyLeast_5 (by decide) ?_
  refine f_calli X hh (c_tallied3 l G hB hM (nI 0)) mf_yX1_tallied ki_yX1_tallied kl_yX1_tallied km_X1_122 (sh_85 G _) (by decide) rfl rfl hl.1 [] rfl (Nat.le_of_ble_eq_true rfl) ⟨by decide, by decide⟩ ⟨Nat.zero_le _, Nat.zero_le _⟩ dX1_howManyLeast_6 (fun r τ H locs hq hh => ?_)
  obtain ⟨rfl, hf1⟩ := hq
  exact f_iret X hh ⟨rfl, hf1⟩ dX1_howManyLeast_9
def lsN (I : LI) (a : Nat) : Int32 := if (iN I = 0 ↔ iM I = 0) then (if a < tln I then nI (sta I a) else -6) else -6
theorem tln_le {I : LI} (hB : LB I) (hL : hasL I) : tln I ≤ 20 := by
  unfold tln
  cases h : ffst (fun k => (snx I (pth I k).1 (pth I k).2).isSome) 21 with
  | some k => have := ffst_lt h; show k ≤ 20; omega
  | none =>
    have h1 := ffst_all h
    have := pth_end hB (k := 21) (fun x hx e => by have := h1 x hx; rw [e] at this; cases this)
    omega
set_option maxHeartbeats 4000000 in
set_option maxRecDepth 100000 in
theorem c_leastStep (l : Launch) (G : GG) {σ : Mem} {I : LI} {a : Nat} (hB : LB I) (hM : LM σ I) (ha : a < 2 ^ 31) : Ci l G yX1_leastStep cX1_leastStep 2 (some .int) 4 96 [.ref (gad G 85), .int (nI a)] σ (fun r τ => r = lsN I a ∧ Frs σ τ) := by
  refine Ci.of (own := RX1) (by decide) rfl (Nat.le_of_ble_eq_true rfl) (fun p e s m args below meth c ls H locs X hl hh => ?_)
  have hl : lv_has ls 2 [(0, .ref (gad G 85)), (1, .int (nI a))] := hl
  refine lv_aload_n X.x X.b dX1_leastStep_0 rfl (lv_at hl 0 rfl) ?_
  refine f_calli X hh (c_hasLaying l G hB hM) mf_yX1_hasLaying ki_yX1_hasLaying kl_yX1_hasLaying km_X1_115 (sh_85 G _) (by decide) rfl rfl hl.1 [] rfl (Nat.le_of_ble_eq_true rfl) ⟨by decide, by decide⟩ ⟨Nat.zero_le _, Nat.zero_le _⟩ dX1_leastStep_1 (fun r τ H locs hq hh => ?_)
  obtain ⟨rfl, hτ⟩ := hq
  rw [hτ] at hh
  clear hτ
  by_cases c_1 : iN I = 0 ↔ iM I = 0
  · rw [show (if iN I = 0 ↔ iM I = 0 then (1 : Int32) else 0) = 1 from if_pos c_1]
    refine lv_if_ne (tgt := 10) X.x X.b dX1_leastStep_4 (by decide) (fun _ => ?_) (fun h9 => absurd h9 (by decide))
    refine lv_aload_n X.x X.b dX1_leastStep_10 rfl (lv_at hl 0 rfl) ?_
    refine f_callv X hh (c_weigh l G hB c_1 hM) mf_yX1_weigh ki_yX1_weigh kl_yX1_weigh km_X1_119 (sh_85 G _) (by decide) rfl rfl hl.1 [] rfl (Nat.le_of_ble_eq_true rfl) ⟨by decide, by decide⟩ ⟨Nat.zero_le _, Nat.zero_le _⟩ dX1_leastStep_11 (fun τ H locs hq hh => ?_)
    obtain ⟨hM1, hW1, hf1⟩ := hq
    refine lv_aload_n X.x X.b dX1_leastStep_14 rfl (lv_at hl 0 rfl) ?_
    refine f_callv X hh (c_trace l G hB c_1 hM1 hW1) mf_yX1_trace ki_yX1_trace kl_yX1_trace km_X1_129 (sh_85 G _) (by decide) rfl rfl hl.1 [] rfl (Nat.le_of_ble_eq_true rfl) ⟨by decide, by decide⟩ ⟨Nat.zero_le _, Nat.zero_le _⟩ dX1_leastStep_15 (fun τ H locs hq hh => ?_)
    obtain ⟨hR2, hf2⟩ := hq
    refine lv_iload_n X.x X.b dX1_leastStep_18 rfl (lv_at hl 1 rfl) ?_
    refine lv_iconst (v := nI 0) X.x X.b dX1_leastStep_19 (by decide) ?_
    refine lv_aload_n X.x X.b dX1_leastStep_20 rfl (lv_at hl 0 rfl) ?_
    refine f_geti X hh (x := nI (tln I)) (sh_85 G _) (by decide) rfl in_X1 8 (by decide) kf_X1_44 rfl hR2.1 dX1_leastStep_21 ?_
    refine lv_iconst (v := nI 1) X.x X.b dX1_leastStep_24 (by decide) ?_
    refine f_isub X (z := nI (tln I) - nI 1) rfl dX1_leastStep_25 ?_
    have hl9 := tln_le hB c_1
    refine f_ncalli X hh (c_withinR l G (nI a) (n := tln I) (by omega)) mf_yX4_isWithin ks_yX4_isWithin X.2.2.2.2.2.2.2.2.2.1 rfl hl.1 [] rfl (Nat.le_of_ble_eq_true rfl) ⟨by decide, by decide⟩ ⟨Nat.zero_le _, Nat.zero_le _⟩ dX1_leastStep_26 (fun r τ H locs hq hh => ?_)
    obtain ⟨rfl, hτ⟩ := hq
    rw [hτ] at hh
    clear hτ
    by_cases c_3 : inR (nI a) (tln I)
    · rw [show (if inR (nI a) (tln I) then (1 : Int32) else 0) = 1 from if_pos c_3]
      rw [inR_nI ha] at c_3
      refine lv_if_eq (tgt := 41) X.x X.b dX1_leastStep_29 (by decide) (fun h9 => absurd h9 (by decide)) (fun _ => ?_)
      refine lv_aload_n X.x X.b dX1_leastStep_32 rfl (lv_at hl 0 rfl) ?_
      refine f_get X hh (v := .ref (gad G 87)) (sh_85 G _) (by decide) rfl in_X1 7 (by decide) kf_X1_41 rfl dX1_leastStep_33 ?_
      refine lv_iload_n X.x X.b dX1_leastStep_36 rfl (lv_at hl 1 rfl) ?_
      refine f_ialdx X hh (j := a) (y := nI (sta I a)) (sh_87 G _) (by decide) rfl (by omega) (by decide) (hR2.2.1 _ (by omega)) dX1_leastStep_37 ?_
      refine lv_goto (tgt := 43) X.x X.b dX1_leastStep_38 (by decide) ?_
      exact f_iret X hh ⟨by unfold lsN; rw [if_pos c_1, if_pos c_3], (hf1.s (by decide) (by decide)).tr hf2.s⟩ dX1_leastStep_43
    · rw [show (if inR (nI a) (tln I) then (1 : Int32) else 0) = 0 from if_neg c_3]
      rw [inR_nI ha] at c_3
      refine lv_if_eq (tgt := 41) X.x X.b dX1_leastStep_29 (by decide) (fun _ => ?_) (fun h9 => absurd (show _ by decide) h9)
      refine lv_bipush (v := (-6)) X.x X.b dX1_leastStep_41 (by decide) ?_
      exact f_iret X hh ⟨by unfold lsN; rw [if_pos c_1, if_neg c_3], (hf1.s (by decide) (by decide)).tr hf2.s⟩ dX1_leastStep_43
  · rw [show (if iN I = 0 ↔ iM I = 0 then (1 : Int32) else 0) = 0 from if_neg c_1]
    refine lv_if_ne (tgt := 10) X.x X.b dX1_leastStep_4 (by decide) (fun h9 => absurd (show _ by decide) h9) (fun _ => ?_)
    refine lv_bipush (v := (-6)) X.x X.b dX1_leastStep_7 (by decide) ?_
    exact f_iret X hh ⟨(if_neg c_1).symm, Frs.rf⟩ dX1_leastStep_9
set_option maxHeartbeats 4000000 in
set_option maxRecDepth 100000 in
theorem c_traced88 (l : Launch) (G : GG) {σ : Mem} {I : LI} {y : Nat} (hB : LB I) (hM : LM σ I) (hy : y < iM I) : Ci l G yX1_traced cX1_traced 3 (some .int) 4 96 [.ref (gad G 85), .ref (gad G 88), .int (nI y)] σ (fun r τ => r = (if (iN I = 0 ↔ iM I = 0) then fores (fo I y (tln I)) else -6) ∧ Frs σ τ) := by
  refine Ci.of (own := RX1) (by decide) rfl (Nat.le_of_ble_eq_true rfl) (fun p e s m args below meth c ls H locs X hl hh => ?_)
  have hb1 := hB.1
  have hb2 := hB.2.1
  have hl : lv_has ls 3 [(0, .ref (gad G 85)), (1, .ref (gad G 88)), (2, .int (nI y))] := hl
  refine lv_aload_n X.x X.b dX1_traced_0 rfl (lv_at hl 0 rfl) ?_
  refine f_calli X hh (c_hasLaying l G hB hM) mf_yX1_hasLaying ki_yX1_hasLaying kl_yX1_hasLaying km_X1_115 (sh_85 G _) (by decide) rfl rfl hl.1 [] rfl (Nat.le_of_ble_eq_true rfl) ⟨by decide, by decide⟩ ⟨Nat.zero_le _, Nat.zero_le _⟩ dX1_traced_1 (fun r τ H locs hq hh => ?_)
  obtain ⟨rfl, hτ⟩ := hq
  rw [hτ] at hh
  clear hτ
  by_cases c_1 : iN I = 0 ↔ iM I = 0
  · rw [show (if iN I = 0 ↔ iM I = 0 then (1 : Int32) else 0) = 1 from if_pos c_1]
    refine lv_if_eq (tgt := 24) X.x X.b dX1_traced_4 (by decide) (fun h9 => absurd h9 (by decide)) (fun _ => ?_)
    refine lv_iload_n X.x X.b dX1_traced_7 rfl (lv_at hl 2 rfl) ?_
    refine lv_iconst (v := nI 0) X.x X.b dX1_traced_8 (by decide) ?_
    refine lv_aload_n X.x X.b dX1_traced_9 rfl (lv_at hl 0 rfl) ?_
    refine f_get X hh (v := .ref (gad G 66)) (sh_85 G _) (by decide) rfl in_X1 1 (by decide) kf_X1_20 rfl dX1_traced_10 ?_
    refine f_geti X hh (x := nI (iM I)) (sh_66 G _) (by decide) rfl in_X3 3 (by decide) kf_X1_77 rfl hM.2.1.1 dX1_traced_13 ?_
    refine lv_iconst (v := nI 1) X.x X.b dX1_traced_16 (by decide) ?_
    refine f_isub X (z := nI (iM I) - nI 1) rfl dX1_traced_17 ?_
    refine f_ncalli X hh (c_withinR l G (nI y) (n := iM I) (by omega)) mf_yX4_isWithin ks_yX4_isWithin X.2.2.2.2.2.2.2.2.2.1 rfl hl.1 [] rfl (Nat.le_of_ble_eq_true rfl) ⟨by decide, by decide⟩ ⟨Nat.zero_le _, Nat.zero_le _⟩ dX1_traced_18 (fun r τ H locs hq hh => ?_)
    obtain ⟨hr9, hτ⟩ := hq
    rw [if_pos ((inR_nI (by omega)).mpr hy)] at hr9
    subst hr9
    rw [hτ] at hh
    clear hτ
    refine lv_if_ne (tgt := 27) X.x X.b dX1_traced_21 (by decide) (fun _ => ?_) (fun h9 => absurd h9 (by decide))
    refine lv_aload_n X.x X.b dX1_traced_27 rfl (lv_at hl 0 rfl) ?_
    refine f_callv X hh (c_weigh l G hB c_1 hM) mf_yX1_weigh ki_yX1_weigh kl_yX1_weigh km_X1_119 (sh_85 G _) (by decide) rfl rfl hl.1 [] rfl (Nat.le_of_ble_eq_true rfl) ⟨by decide, by decide⟩ ⟨Nat.zero_le _, Nat.zero_le _⟩ dX1_traced_28 (fun τ H locs hq hh => ?_)
    obtain ⟨hM1, hW1, hf1⟩ := hq
    refine lv_aload_n X.x X.b dX1_traced_31 rfl (lv_at hl 0 rfl) ?_
    refine f_callv X hh (c_trace l G hB c_1 hM1 hW1) mf_yX1_trace ki_yX1_trace kl_yX1_trace km_X1_129 (sh_85 G _) (by decide) rfl rfl hl.1 [] rfl (Nat.le_of_ble_eq_true rfl) ⟨by decide, by decide⟩ ⟨Nat.zero_le _, Nat.zero_le _⟩ dX1_traced_32 (fun τ H locs hq hh => ?_)
    obtain ⟨hR2, hf2⟩ := hq
    refine lv_aload_n X.x X.b dX1_traced_35 rfl (lv_at hl 1 rfl) ?_
    refine lv_iload_n X.x X.b dX1_traced_36 rfl (lv_at hl 2 rfl) ?_
    refine f_ialdx X hh (j := y) (y := fores (fo I y (tln I))) (sh_88 G _) (by decide) rfl (by omega) (by decide) (hR2.2.2 _ (by omega)).1 dX1_traced_37 ?_
    exact f_iret X hh ⟨(if_pos c_1).symm, (hf1.s (by decide) (by decide)).tr hf2.s⟩ dX1_traced_38
  · rw [show (if iN I = 0 ↔ iM I = 0 then (1 : Int32) else 0) = 0 from if_neg c_1]
    refine lv_if_eq (tgt := 24) X.x X.b dX1_traced_4 (by decide) (fun _ => ?_) (fun h9 => absurd (show _ by decide) h9)
    refine lv_bipush (v := (-6)) X.x X.b dX1_traced_24 (by decide) ?_
    exact f_iret X hh ⟨(if_neg c_1).symm, Frs.rf⟩ dX1_traced_26
set_option maxHeartbeats 4000000 in
set_option maxRecDepth 100000 in
theorem c_firstSungOn (l : Launch) (G : GG) {σ : Mem} {I : LI} {y : Nat} (hB : LB I) (hM : LM σ I) (hy : y < iM I) : Ci l G yX1_firstSungOn cX1_firstSungOn 2 (some .int) 5 118 [.ref (gad G 85), .int (nI y)] σ (fun r τ => r = (if (iN I = 0 ↔ iM I = 0) then fores (fo I y (tln I)) else -6) ∧ Frs σ τ) := by
  refine Ci.of (own := RX1) (by decide) rfl (Nat.le_of_ble_eq_true rfl) (fun p e s m args below meth c ls H locs X hl hh => ?_)
  have hl : lv_has ls 2 [(0, .ref (gad G 85)), (1, .int (nI y))] := hl
  refine lv_aload_n X.x X.b dX1_firstSungOn_0 rfl (lv_at hl 0 rfl) ?_
  refine lv_aload_n X.x X.b dX1_firstSungOn_1 rfl (lv_at hl 0 rfl) ?_
  refine f_get X hh (v := .ref (gad G 88)) (sh_85 G _) (by decide) rfl in_X1 9 (by decide) kf_X1_48 rfl dX1_firstSungOn_2 ?_
  refine lv_iload_n X.x X.b dX1_firstSungOn_5 rfl (lv_at hl 1 rfl) ?_
  refine f_calli X hh (c_traced88 l G hB hM hy) mf_yX1_traced ki_yX1_traced kl_yX1_traced km_X1_132 (sh_85 G _) (by decide) rfl rfl hl.1 [] rfl (Nat.le_of_ble_eq_true rfl) ⟨by decide, by decide⟩ ⟨Nat.zero_le _, Nat.zero_le _⟩ dX1_firstSungOn_6 (fun r τ H locs hq hh => ?_)
  obtain ⟨rfl, hf1⟩ := hq
  exact f_iret X hh ⟨rfl, hf1⟩ dX1_firstSungOn_9
set_option maxHeartbeats 4000000 in
set_option maxRecDepth 100000 in
theorem c_traced89 (l : Launch) (G : GG) {σ : Mem} {I : LI} {y : Nat} (hB : LB I) (hM : LM σ I) (hy : y < iM I) : Ci l G yX1_traced cX1_traced 3 (some .int) 4 96 [.ref (gad G 85), .ref (gad G 89), .int (nI y)] σ (fun r τ => r = (if (iN I = 0 ↔ iM I = 0) then nI (ho I y (tln I)) else -6) ∧ Frs σ τ) := by
  refine Ci.of (own := RX1) (by decide) rfl (Nat.le_of_ble_eq_true rfl) (fun p e s m args below meth c ls H locs X hl hh => ?_)
  have hb1 := hB.1
  have hb2 := hB.2.1
  have hl : lv_has ls 3 [(0, .ref (gad G 85)), (1, .ref (gad G 89)), (2, .int (nI y))] := hl
  refine lv_aload_n X.x X.b dX1_traced_0 rfl (lv_at hl 0 rfl) ?_
  refine f_calli X hh (c_hasLaying l G hB hM) mf_yX1_hasLaying ki_yX1_hasLaying kl_yX1_hasLaying km_X1_115 (sh_85 G _) (by decide) rfl rfl hl.1 [] rfl (Nat.le_of_ble_eq_true rfl) ⟨by decide, by decide⟩ ⟨Nat.zero_le _, Nat.zero_le _⟩ dX1_traced_1 (fun r τ H locs hq hh => ?_)
  obtain ⟨rfl, hτ⟩ := hq
  rw [hτ] at hh
  clear hτ
  by_cases c_1 : iN I = 0 ↔ iM I = 0
  · rw [show (if iN I = 0 ↔ iM I = 0 then (1 : Int32) else 0) = 1 from if_pos c_1]
    refine lv_if_eq (tgt := 24) X.x X.b dX1_traced_4 (by decide) (fun h9 => absurd h9 (by decide)) (fun _ => ?_)
    refine lv_iload_n X.x X.b dX1_traced_7 rfl (lv_at hl 2 rfl) ?_
    refine lv_iconst (v := nI 0) X.x X.b dX1_traced_8 (by decide) ?_
    refine lv_aload_n X.x X.b dX1_traced_9 rfl (lv_at hl 0 rfl) ?_
    refine f_get X hh (v := .ref (gad G 66)) (sh_85 G _) (by decide) rfl in_X1 1 (by decide) kf_X1_20 rfl dX1_traced_10 ?_
    refine f_geti X hh (x := nI (iM I)) (sh_66 G _) (by decide) rfl in_X3 3 (by decide) kf_X1_77 rfl hM.2.1.1 dX1_traced_13 ?_
    refine lv_iconst (v := nI 1) X.x X.b dX1_traced_16 (by decide) ?_
    refine f_isub X (z := nI (iM I) - nI 1) rfl dX1_traced_17 ?_
    refine f_ncalli X hh (c_withinR l G (nI y) (n := iM I) (by omega)) mf_yX4_isWithin ks_yX4_isWithin X.2.2.2.2.2.2.2.2.2.1 rfl hl.1 [] rfl (Nat.le_of_ble_eq_true rfl) ⟨by decide, by decide⟩ ⟨Nat.zero_le _, Nat.zero_le _⟩ dX1_traced_18 (fun r τ H locs hq hh => ?_)
    obtain ⟨hr9, hτ⟩ := hq
    rw [if_pos ((inR_nI (by omega)).mpr hy)] at hr9
    subst hr9
    rw [hτ] at hh
    clear hτ
    refine lv_if_ne (tgt := 27) X.x X.b dX1_traced_21 (by decide) (fun _ => ?_) (fun h9 => absurd h9 (by decide))
    refine lv_aload_n X.x X.b dX1_traced_27 rfl (lv_at hl 0 rfl) ?_
    refine f_callv X hh (c_weigh l G hB c_1 hM) mf_yX1_weigh ki_yX1_weigh kl_yX1_weigh km_X1_119 (sh_85 G _) (by decide) rfl rfl hl.1 [] rfl (Nat.le_of_ble_eq_true rfl) ⟨by decide, by decide⟩ ⟨Nat.zero_le _, Nat.zero_le _⟩ dX1_traced_28 (fun τ H locs hq hh => ?_)
    obtain ⟨hM1, hW1, hf1⟩ := hq
    refine lv_aload_n X.x X.b dX1_traced_31 rfl (lv_at hl 0 rfl) ?_
    refine f_callv X hh (c_trace l G hB c_1 hM1 hW1) mf_yX1_trace ki_yX1_trace kl_yX1_trace km_X1_129 (sh_85 G _) (by decide) rfl rfl hl.1 [] rfl (Nat.le_of_ble_eq_true rfl) ⟨by decide, by decide⟩ ⟨Nat.zero_le _, Nat.zero_le _⟩ dX1_traced_32 (fun τ H locs hq hh => ?_)
    obtain ⟨hR2, hf2⟩ := hq
    refine lv_aload_n X.x X.b dX1_traced_35 rfl (lv_at hl 1 rfl) ?_
    refine lv_iload_n X.x X.b dX1_traced_36 rfl (lv_at hl 2 rfl) ?_
    refine f_ialdx X hh (j := y) (y := nI (ho I y (tln I))) (sh_89 G _) (by decide) rfl (by omega) (by decide) (hR2.2.2 _ (by omega)).2 dX1_traced_37 ?_
    exact f_iret X hh ⟨(if_pos c_1).symm, (hf1.s (by decide) (by decide)).tr hf2.s⟩ dX1_traced_38
  · rw [show (if iN I = 0 ↔ iM I = 0 then (1 : Int32) else 0) = 0 from if_neg c_1]
    refine lv_if_eq (tgt := 24) X.x X.b dX1_traced_4 (by decide) (fun _ => ?_) (fun h9 => absurd (show _ by decide) h9)
    refine lv_bipush (v := (-6)) X.x X.b dX1_traced_24 (by decide) ?_
    exact f_iret X hh ⟨(if_neg c_1).symm, Frs.rf⟩ dX1_traced_26
set_option maxHeartbeats 4000000 in
set_option maxRecDepth 100000 in
theorem c_howManySungOn (l : Launch) (G : GG) {σ : Mem} {I : LI} {y : Nat} (hB : LB I) (hM : LM σ I) (hy : y < iM I) : Ci l G yX1_howManySungOn cX1_howManySungOn 2 (some .int) 5 118 [.ref (gad G 85), .int (nI y)] σ (fun r τ => r = (if (iN I = 0 ↔ iM I = 0) then nI (ho I y (tln I)) else -6) ∧ Frs σ τ) := by
  refine Ci.of (own := RX1) (by decide) rfl (Nat.le_of_ble_eq_true rfl) (fun p e s m args below meth c ls H locs X hl hh => ?_)
  have hl : lv_has ls 2 [(0, .ref (gad G 85)), (1, .int (nI y))] := hl
  refine lv_aload_n X.x X.b dX1_howManySungOn_0 rfl (lv_at hl 0 rfl) ?_
  refine lv_aload_n X.x X.b dX1_howManySungOn_1 rfl (lv_at hl 0 rfl) ?_
  refine f_get X hh (v := .ref (gad G 89)) (sh_85 G _) (by decide) rfl in_X1 10 (by decide) kf_X1_51 rfl dX1_howManySungOn_2 ?_
  refine lv_iload_n X.x X.b dX1_howManySungOn_5 rfl (lv_at hl 1 rfl) ?_
  refine f_calli X hh (c_traced89 l G hB hM hy) mf_yX1_traced ki_yX1_traced kl_yX1_traced km_X1_132 (sh_85 G _) (by decide) rfl rfl hl.1 [] rfl (Nat.le_of_ble_eq_true rfl) ⟨by decide, by decide⟩ ⟨Nat.zero_le _, Nat.zero_le _⟩ dX1_howManySungOn_6 (fun r τ H locs hq hh => ?_)
  obtain ⟨rfl, hf1⟩ := hq
  exact f_iret X hh ⟨rfl, hf1⟩ dX1_howManySungOn_9
