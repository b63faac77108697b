set_option maxHeartbeats 4000000 in
set_option maxRecDepth 100000 in
theorem c_leastAt (l : Launch) (G : GG) {σ : Mem} {I : LI} {i j : Nat} (hB : LB I) (hM : LM σ I) (hi : i ≤ iN I) (hj : j ≤ iM I) (hT : ∀ st, st < 3 → can I st i j = true → σ (94 + 10 * 0 + (i + di st)) (j + dj st) = nI (TT I (i + di st) (j + dj st)).1 ∧ (TT I (i + di st) (j + dj st)).2.2.1 ≠ 0) : Ci l G yX1_leastAt cX1_leastAt 7 (some .int) 2 48 [.ref (gad G 85), .int (nI i), .int (nI j)] σ (fun r τ => r = lres (TT I i j) ∧ τ = σ) := by
  refine Ci.of (own := RX1) (by decide) rfl (Nat.le_of_ble_eq_true rfl) (fun p e s m args below meth c ls H locs X hl hh => ?_)
  have hb1 := hB.1
  have hb2 := hB.2.1
  have lp : ∀ (k st : Nat) (x : Int32), x = lres (tsa I (TT I) i j st) → 3 - st = k → st ≤ 3 → ∀ (ls : Array Slot) (H : Heap) (locs : List Loc), lv_has ls 7 [(4, .int (nI st)), (3, .int x), (0, .ref (gad G 85)), (1, .int (nI i)), (2, .int (nI j))] → HH G s σ H locs → WI l G p e s m args below meth c 2 48 (fun r τ => r = lres (TT I i j) ∧ τ = σ) H locs (F0 m 19 ls []) := by
    intro km
    induction km using Nat.strongRecOn with
    | ind km ih =>
      intro st x hx hk hst ls H locs hl hh
      have hts := tsa_b hB hi hj hst
      refine lv_iload X.x X.b dX1_leastAt_19 (lv_at hl 0 rfl) ?_
      refine lv_iconst (v := nI 3) X.x X.b dX1_leastAt_21 (by decide) ?_
      refine lv_icmp_ge (tgt := 95) X.x X.b dX1_leastAt_22 (by decide) (fun c_1 => ?_) (fun c_1 => ?_)
      · have c_1 : 3 ≤ st := (nI_leI (a := 3) (b := st) (by omega) (by omega)).mp c_1
        refine lv_iload_n X.x X.b dX1_leastAt_95 rfl (lv_at hl 1 rfl) ?_
        exact f_iret X hh ⟨by obtain rfl : st = 3 := (by omega); rw [hx, TT_rec hB hi hj], rfl⟩ dX1_leastAt_96
      · have c_1 : ¬ 3 ≤ st := fun q9 => c_1 ((nI_leI (a := 3) (b := st) (by omega) (by omega)).mpr q9)
        refine lv_aload_n X.x X.b dX1_leastAt_25 rfl (lv_at hl 2 rfl) ?_
        refine lv_iload X.x X.b dX1_leastAt_26 (lv_at hl 0 rfl) ?_
        refine lv_iload_n X.x X.b dX1_leastAt_28 rfl (lv_at hl 3 rfl) ?_
        refine lv_iload_n X.x X.b dX1_leastAt_29 rfl (lv_at hl 4 rfl) ?_
        refine f_calli X hh (c_canStep l G (st := st) (i := i) (j := j) hB hM (by omega) (by omega) (by omega)) mf_yX1_canStep ki_yX1_canStep kl_yX1_canStep km_X1_98 (sh_85 G _) (by decide) rfl rfl hl.1 [] rfl (Nat.le_of_ble_eq_true rfl) ⟨by decide, by decide⟩ ⟨Nat.zero_le _, Nat.zero_le _⟩ dX1_leastAt_30 (fun r τ H locs hq hh => ?_)
        obtain ⟨rfl, hτ⟩ := hq
        rw [hτ] at hh
        clear hτ
        by_cases c_2 : can I st i j = true
        · rw [show (if can I st i j = true then (1 : Int32) else 0) = 1 from if_pos c_2]
          have hnx := can_next (by omega) c_2 hi hj
          have hT9 := hT st (by omega) c_2
          have hb9 := TT_b hB hnx.1 hnx.2
          have hc9 := cst_le hB (by omega) c_2 hi hj
          refine lv_if_eq (tgt := 89) X.x X.b dX1_leastAt_33 (by decide) (fun h9 => absurd h9 (by decide)) (fun _ => ?_)
          refine lv_aload_n X.x X.b dX1_leastAt_36 rfl (lv_at hl 2 rfl) ?_
          refine f_get X hh (v := .ref (gad G 90)) (sh_85 G _) (by decide) rfl in_X1 3 (by decide) kf_X1_29 rfl dX1_leastAt_37 ?_
          refine lv_iload_n X.x X.b dX1_leastAt_40 rfl (lv_at hl 3 rfl) ?_
          refine f_get1 X hh dX1_leastAt_41 ?_
          refine lv_iload X.x X.b dX1_leastAt_44 (lv_at hl 0 rfl) ?_
          refine f_ti1 X hh (j := st) rfl (by omega) (v := .int (nI (di st))) (sOn_di (by omega)) dX1_leastAt_46 ?_
          refine f_iadd X (z := nI (i + di st)) (nI_add i (di st)) dX1_leastAt_47 ?_
          refine f_aald X hh (j := i + di st) 4 (sh_90 G _) rfl rfl (by decide) rfl (by omega) (by decide) dX1_leastAt_48 ?_
          refine lv_iload_n X.x X.b dX1_leastAt_49 rfl (lv_at hl 4 rfl) ?_
          refine f_get2 X hh dX1_leastAt_50 ?_
          refine lv_iload X.x X.b dX1_leastAt_53 (lv_at hl 0 rfl) ?_
          refine f_ti2 X hh (j := st) rfl (by omega) (v := .int (nI (dj st))) (nOn_dj (by omega)) dX1_leastAt_55 ?_
          refine f_iadd X (z := nI (j + dj st)) (nI_add j (dj st)) dX1_leastAt_56 ?_
          refine f_ialdx X hh (j := j + dj st) (y := nI ((TT I (i + di st) (j + dj st)).1)) (sh_in G (q := 0) (i := i + di st) (by omega) (by omega) _) (by omega) rfl (by omega) (by decide) hT9.1 dX1_leastAt_57 ?_
          refine lv_istore (lv' := [(5, .int (nI ((TT I (i + di st) (j + dj st)).1))), (4, .int (nI st)), (3, .int x), (0, .ref (gad G 85)), (1, .int (nI i)), (2, .int (nI j))]) X.x X.b dX1_leastAt_58 hl (by decide) rfl (fun ls hl => ?_)
          refine lv_aload_n X.x X.b dX1_leastAt_60 rfl (lv_at hl 3 rfl) ?_
          refine lv_iload X.x X.b dX1_leastAt_61 (lv_at hl 1 rfl) ?_
          refine lv_iload_n X.x X.b dX1_leastAt_63 rfl (lv_at hl 4 rfl) ?_
          refine lv_iload_n X.x X.b dX1_leastAt_64 rfl (lv_at hl 5 rfl) ?_
          refine f_calli X hh (c_stepCost l G (st := st) (i := i) (j := j) hB hM (by omega) c_2 (by omega) (by omega)) mf_yX1_stepCost ki_yX1_stepCost kl_yX1_stepCost km_X1_101 (sh_85 G _) (by decide) rfl rfl hl.1 [] rfl (Nat.le_of_ble_eq_true rfl) ⟨by decide, by decide⟩ ⟨Nat.zero_le _, Nat.zero_le _⟩ dX1_leastAt_65 (fun r τ H locs hq hh => ?_)
          obtain ⟨rfl, hτ⟩ := hq
          rw [hτ] at hh
          clear hτ
          refine lv_iload X.x X.b dX1_leastAt_68 (lv_at hl 0 rfl) ?_
          refine f_iadd X (z := nI (cst I st i j + (TT I (i + di st) (j + dj st)).1)) (nI_add (cst I st i j) ((TT I (i + di st) (j + dj st)).1)) dX1_leastAt_70 ?_
          refine lv_istore (lv' := [(6, .int (nI (cst I st i j + (TT I (i + di st) (j + dj st)).1))), (5, .int (nI ((TT I (i + di st) (j + dj st)).1))), (4, .int (nI st)), (3, .int x), (0, .ref (gad G 85)), (1, .int (nI i)), (2, .int (nI j))]) X.x X.b dX1_leastAt_71 hl (by decide) rfl (fun ls hl => ?_)
          refine lv_iload X.x X.b dX1_leastAt_73 (lv_at hl 0 rfl) ?_
          refine lv_iload_n X.x X.b dX1_leastAt_75 rfl (lv_at hl 3 rfl) ?_
          refine f_ncalli X hh (c_isCheaper l G (nI (cst I st i j + (TT I (i + di st) (j + dj st)).1)) x) mf_yX4_isCheaper ks_yX4_isCheaper X.2.2.2.2.2.2.2.2.1 rfl hl.1 [] rfl (Nat.le_of_ble_eq_true rfl) ⟨by decide, by decide⟩ ⟨Nat.zero_le _, Nat.zero_le _⟩ dX1_leastAt_76 (fun r τ H locs hq hh => ?_)
          obtain ⟨rfl, hτ⟩ := hq
          rw [hτ] at hh
          clear hτ
          by_cases c_4 : nI (cst I st i j + (TT I (i + di st) (j + dj st)).1) ≠ -6 ∧ (x = -6 ∨ nI (cst I st i j + (TT I (i + di st) (j + dj st)).1) < x)
          · rw [show (if nI (cst I st i j + (TT I (i + di st) (j + dj st)).1) ≠ -6 ∧ (x = -6 ∨ nI (cst I st i j + (TT I (i + di st) (j + dj st)).1) < x) then (1 : Int32) else 0) = 1 from if_pos c_4]
            refine lv_if_eq (tgt := 87) X.x X.b dX1_leastAt_79 (by decide) (fun h9 => absurd h9 (by decide)) (fun _ => ?_)
            refine lv_iload X.x X.b dX1_leastAt_82 (lv_at hl 0 rfl) ?_
            refine lv_goto (tgt := 88) X.x X.b dX1_leastAt_84 (by decide) ?_
            refine lv_istore_n (lv' := [(3, .int (nI (cst I st i j + (TT I (i + di st) (j + dj st)).1))), (6, .int (nI (cst I st i j + (TT I (i + di st) (j + dj st)).1))), (5, .int (nI ((TT I (i + di st) (j + dj st)).1))), (4, .int (nI st)), (0, .ref (gad G 85)), (1, .int (nI i)), (2, .int (nI j))]) X.x X.b dX1_leastAt_88 rfl hl (by decide) rfl (fun ls hl => ?_)
            refine lv_iinc (v := nI (st + 1)) (lv' := [(4, .int (nI (st + 1))), (3, .int (nI (cst I st i j + (TT I (i + di st) (j + dj st)).1))), (6, .int (nI (cst I st i j + (TT I (i + di st) (j + dj st)).1))), (5, .int (nI ((TT I (i + di st) (j + dj st)).1))), (0, .ref (gad G 85)), (1, .int (nI i)), (2, .int (nI j))]) X.x X.b dX1_leastAt_89 hl (k := 3) rfl (nI_1 st) (by decide) rfl (fun ls hl => ?_)
            refine lv_goto (tgt := 19) X.x X.b dX1_leastAt_92 (by decide) ?_
            refine ih (3 - (st + 1)) (by omega) (st + 1) (nI (cst I st i j + (TT I (i + di st) (j + dj st)).1)) ?_ rfl (by omega) ls H locs (lv_sub hl [0, 1, 4, 5, 6] rfl) hh
            show _ = lres (ts I (TT I) i j st (tsa I (TT I) i j st))
            unfold ts
            rw [if_pos c_2, ← lres_tk hT9.2 (by omega) (by omega), ← hx, if_pos c_4]
          · rw [show (if nI (cst I st i j + (TT I (i + di st) (j + dj st)).1) ≠ -6 ∧ (x = -6 ∨ nI (cst I st i j + (TT I (i + di st) (j + dj st)).1) < x) then (1 : Int32) else 0) = 0 from if_neg c_4]
            refine lv_if_eq (tgt := 87) X.x X.b dX1_leastAt_79 (by decide) (fun _ => ?_) (fun h9 => absurd (show _ by decide) h9)
            refine lv_iload_n X.x X.b dX1_leastAt_87 rfl (lv_at hl 3 rfl) ?_
            refine lv_istore_n (lv' := [(3, .int x), (6, .int (nI (cst I st i j + (TT I (i + di st) (j + dj st)).1))), (5, .int (nI ((TT I (i + di st) (j + dj st)).1))), (4, .int (nI st)), (0, .ref (gad G 85)), (1, .int (nI i)), (2, .int (nI j))]) X.x X.b dX1_leastAt_88 rfl hl (by decide) rfl (fun ls hl => ?_)
            refine lv_iinc (v := nI (st + 1)) (lv' := [(4, .int (nI (st + 1))), (3, .int x), (6, .int (nI (cst I st i j + (TT I (i + di st) (j + dj st)).1))), (5, .int (nI ((TT I (i + di st) (j + dj st)).1))), (0, .ref (gad G 85)), (1, .int (nI i)), (2, .int (nI j))]) X.x X.b dX1_leastAt_89 hl (k := 3) rfl (nI_1 st) (by decide) rfl (fun ls hl => ?_)
            refine lv_goto (tgt := 19) X.x X.b dX1_leastAt_92 (by decide) ?_
            refine ih (3 - (st + 1)) (by omega) (st + 1) x ?_ rfl (by omega) ls H locs (lv_sub hl [0, 1, 4, 5, 6] rfl) hh
            show _ = lres (ts I (TT I) i j st (tsa I (TT I) i j st))
            unfold ts
            rw [if_pos c_2, ← lres_tk hT9.2 (by omega) (by omega), ← hx, if_neg c_4]
        · rw [show (if can I st i j = true then (1 : Int32) else 0) = 0 from if_neg c_2]
          refine lv_if_eq (tgt := 89) X.x X.b dX1_leastAt_33 (by decide) (fun _ => ?_) (fun h9 => absurd (show _ by decide) h9)
          refine lv_iinc (v := nI (st + 1)) (lv' := [(4, .int (nI (st + 1))), (3, .int x), (0, .ref (gad G 85)), (1, .int (nI i)), (2, .int (nI j))]) X.x X.b dX1_leastAt_89 hl (k := 0) rfl (nI_1 st) (by decide) rfl (fun ls hl => ?_)
          refine lv_goto (tgt := 19) X.x X.b dX1_leastAt_92 (by decide) ?_
          refine ih (3 - (st + 1)) (by omega) (st + 1) x ?_ rfl (by omega) ls H locs (lv_sub hl [0, 1, 2, 3, 4] rfl) hh
          show _ = lres (ts I (TT I) i j st (tsa I (TT I) i j st))
          unfold ts
          rw [if_neg c_2]; exact hx
  have hl : lv_has ls 7 [(0, .ref (gad G 85)), (1, .int (nI i)), (2, .int (nI j))] := hl
  refine lv_aload_n X.x X.b dX1_leastAt_0 rfl (lv_at hl 0 rfl) ?_
  refine lv_iload_n X.x X.b dX1_leastAt_1 rfl (lv_at hl 1 rfl) ?_
  refine lv_iload_n X.x X.b dX1_leastAt_2 rfl (lv_at hl 2 rfl) ?_
  refine f_calli X hh (c_isEnd l G (i := i) (j := j) hB hM (by omega) (by omega)) mf_yX1_isEnd ki_yX1_isEnd kl_yX1_isEnd km_X1_111 (sh_85 G _) (by decide) rfl rfl hl.1 [] rfl (Nat.le_of_ble_eq_true rfl) ⟨by decide, by decide⟩ ⟨Nat.zero_le _, Nat.zero_le _⟩ dX1_leastAt_3 (fun r τ H locs hq hh => ?_)
  obtain ⟨rfl, hτ⟩ := hq
  rw [hτ] at hh
  clear hτ
  by_cases c_8 : i = iN I ∧ j = iM I
  · rw [show (if i = iN I ∧ j = iM I then (1 : Int32) else 0) = 1 from if_pos c_8]
    refine lv_if_eq (tgt := 13) X.x X.b dX1_leastAt_6 (by decide) (fun h9 => absurd h9 (by decide)) (fun _ => ?_)
    refine lv_iconst (v := nI 0) X.x X.b dX1_leastAt_9 (by decide) ?_
    refine lv_goto (tgt := 15) X.x X.b dX1_leastAt_10 (by decide) ?_
    refine lv_istore_n (lv' := [(3, .int (nI 0)), (0, .ref (gad G 85)), (1, .int (nI i)), (2, .int (nI j))]) X.x X.b dX1_leastAt_15 rfl hl (by decide) rfl (fun ls hl => ?_)
    refine lv_iconst (v := nI 0) X.x X.b dX1_leastAt_16 (by decide) ?_
    refine lv_istore (lv' := [(4, .int (nI 0)), (3, .int (nI 0)), (0, .ref (gad G 85)), (1, .int (nI i)), (2, .int (nI j))]) X.x X.b dX1_leastAt_17 hl (by decide) rfl (fun ls hl => ?_)
    exact lp 3 0 (nI 0) (by show _ = lres (te I i j); unfold lres te; simp only [if_pos c_8]; rfl) rfl (by omega) ls H locs (lv_sub hl [0, 1, 2, 3, 4] rfl) hh
  · rw [show (if i = iN I ∧ j = iM I then (1 : Int32) else 0) = 0 from if_neg c_8]
    refine lv_if_eq (tgt := 13) X.x X.b dX1_leastAt_6 (by decide) (fun _ => ?_) (fun h9 => absurd (show _ by decide) h9)
    refine lv_bipush (v := (-6)) X.x X.b dX1_leastAt_13 (by decide) ?_
    refine lv_istore_n (lv' := [(3, .int ((-6))), (0, .ref (gad G 85)), (1, .int (nI i)), (2, .int (nI j))]) X.x X.b dX1_leastAt_15 rfl hl (by decide) rfl (fun ls hl => ?_)
    refine lv_iconst (v := nI 0) X.x X.b dX1_leastAt_16 (by decide) ?_
    refine lv_istore (lv' := [(4, .int (nI 0)), (3, .int ((-6))), (0, .ref (gad G 85)), (1, .int (nI i)), (2, .int (nI j))]) X.x X.b dX1_leastAt_17 hl (by decide) rfl (fun ls hl => ?_)
    exact lp 3 0 ((-6)) (by show _ = lres (te I i j); unfold lres te; simp only [if_neg c_8]; rfl) rfl (by omega) ls H locs (lv_sub hl [0, 1, 2, 3, 4] rfl) hh
def WT (σ : Mem) (I : LI) : Prop := ∀ a b, dmn I a b → σ (94 + 10 * 0 + a) b = nI (TT I a b).1
/-- done behind (i, j) -/
def WP (σ : Mem) (I : LI) (i j : Nat) : Prop := ∀ a b, 1 ≤ a → a ≤ iN I → 1 ≤ b → b ≤ iM I → (i < a ∨ (a = i ∧ j < b)) → σ (94 + 10 * 0 + a) b = nI (TT I a b).1
def Frt (lo hi : Nat) (σ τ : Mem) : Prop := ∀ k, (k < lo ∨ hi ≤ k) → τ k = σ k
theorem Frt.rf {lo hi : Nat} {σ : Mem} : Frt lo hi σ σ := fun _ _ => rfl
theorem Frt.tr {lo hi : Nat} {σ τ υ : Mem} (h : Frt lo hi σ τ) (g : Frt lo hi τ υ) : Frt lo hi σ υ := fun k a => (g k a).trans (h k a)
theorem Frt.set {lo hi k f : Nat} {σ τ : Mem} {x : Int32} (h : Frt lo hi σ τ) (h1 : lo ≤ k) (h2 : k < hi) : Frt lo hi σ (mset τ k f x) := fun j hj => by rw [mset_n (by omega)]; exact h j hj
theorem LM.kt {σ τ : Mem} {I : LI} {lo hi : Nat} (h : LM σ I) (f : Frt lo hi σ τ) (h1 : 87 ≤ lo) : LM τ I := h.keep (fun k hk => f k (by omega))
set_option maxHeartbeats 4000000 in
set_option maxRecDepth 100000 in
theorem c_weigh (l : Launch) (G : GG) {σ : Mem} {I : LI} (hB : LB I) (hL : hasL I) (hM : LM σ I) : Cv l G yX1_weigh cX1_weigh 3 3 74 [.ref (gad G 85)] σ (fun τ => LM τ I ∧ WT τ I ∧ Frt 94 104 σ τ) := by
  refine Cv.of (own := RX1) (by decide) rfl (Nat.le_of_ble_eq_true rfl) (fun p e s m args below meth c ls H locs X hl hh => ?_)
  have hb1 := hB.1
  have hb2 := hB.2.1
  have lpo : ∀ (k i : Nat), i = k → i ≤ iN I → ∀ (υ : Mem), (∀ a b, 1 ≤ a → a ≤ iN I → 1 ≤ b → b ≤ iM I → i < a → υ (94 + 10 * 0 + a) b = nI (TT I a b).1) → Frt 94 104 σ υ → ∀ (ls : Array Slot) (H : Heap) (locs : List Loc), lv_has ls 3 [(1, .int (nI i)), (0, .ref (gad G 85))] → HH G s υ H locs → WV l G p e s m args below meth c 3 74 (fun τ => LM τ I ∧ WT τ I ∧ Frt 94 104 σ τ) H locs (F0 m 8 ls []) := by
    intro km
    induction km using Nat.strongRecOn with
    | ind km ih =>
      intro i hk hi υ hv hf ls H locs hl hh
      rcases Nat.eq_zero_or_pos i with h0 | h0
      · subst h0
        refine lv_iload_n X.x X.b dX1_weigh_8 rfl (lv_at hl 0 rfl) ?_
        refine lv_iconst (v := nI 1) X.x X.b dX1_weigh_9 (by decide) ?_
        refine lv_icmp_lt (tgt := 52) X.x X.b dX1_weigh_10 (by decide) (fun _ => ?_) (fun h9 => absurd (show _ by decide) h9)
        refine lv_aload_n X.x X.b dX1_weigh_52 rfl (lv_at hl 1 rfl) ?_
        refine f_get X hh (v := .ref (gad G 90)) (sh_85 G _) (by decide) rfl in_X1 3 (by decide) kf_X1_29 rfl dX1_weigh_53 ?_
        refine lv_iconst (v := nI 0) X.x X.b dX1_weigh_56 (by decide) ?_
        refine f_aald X hh (j := 0) 4 (sh_90 G _) rfl rfl (by decide) rfl (by omega) (by decide) dX1_weigh_57 ?_
        refine lv_iconst (v := nI 0) X.x X.b dX1_weigh_58 (by decide) ?_
        refine lv_aload_n X.x X.b dX1_weigh_59 rfl (lv_at hl 1 rfl) ?_
        refine lv_iconst (v := nI 0) X.x X.b dX1_weigh_60 (by decide) ?_
        refine lv_iconst (v := nI 0) X.x X.b dX1_weigh_61 (by decide) ?_
        have hT9 : ∀ st, st < 3 → can I st 0 0 = true → υ (94 + 10 * 0 + (0 + di st)) (0 + dj st) = nI (TT I (0 + di st) (0 + dj st)).1 ∧ (TT I (0 + di st) (0 + dj st)).2.2.1 ≠ 0 := fun st hs hc => by
          have hn := dmn_next hs (Or.inr ⟨rfl, rfl⟩) hc
          exact ⟨hv _ _ hn.1 hn.2.1 hn.2.2.1 hn.2.2.2 (by omega), TT_p hB hn.1 hn.2.1 hn.2.2.1 hn.2.2.2⟩
        refine f_calli X hh (c_leastAt l G (i := 0) (j := 0) hB (hM.kt hf (by decide)) (by omega) (by omega) hT9) mf_yX1_leastAt ki_yX1_leastAt kl_yX1_leastAt km_X1_144 (sh_85 G _) (by decide) rfl rfl hl.1 [.int (nI 0), .ref (gad G (94 + 10 * 0 + 0))] rfl (Nat.le_of_ble_eq_true rfl) ⟨by decide, by decide⟩ ⟨Nat.zero_le _, Nat.zero_le _⟩ dX1_weigh_62 (fun r τ H locs hq hh => ?_)
        obtain ⟨rfl, hτ⟩ := hq
        rw [hτ] at hh
        clear hτ
        refine f_iast X hh (j := 0) (fun g9 => sh_in G (q := 0) (i := 0) (by omega) (by omega) g9) (by omega) rfl (by omega) (by decide) dX1_weigh_65 (fun H locs hh => ?_)
        refine f_vret X hh ?_ dX1_weigh_66
        refine ⟨hM.kt (hf.set (by omega) (by omega)) (by decide), fun a b hd => ?_, hf.set (by omega) (by omega)⟩
        rcases hd with ⟨h1, h2, h3, h4⟩ | ⟨h1, h2⟩
        · rw [mset_nn (by omega)]; exact hv a b h1 h2 h3 h4 (by omega)
        · subst h1; subst h2; rw [mset_ss, lres_p (TT_d hB hL (Or.inr ⟨rfl, rfl⟩))]
      · obtain ⟨i, rfl⟩ : ∃ z, i = z + 1 := ⟨i - 1, by omega⟩
        refine lv_iload_n X.x X.b dX1_weigh_8 rfl (lv_at hl 0 rfl) ?_
        refine lv_iconst (v := nI 1) X.x X.b dX1_weigh_9 (by decide) ?_
        refine lv_icmp_lt (tgt := 52) X.x X.b dX1_weigh_10 (by decide) (fun h9 => absurd h9 (nI_nlt (by omega) (by omega))) (fun _ => ?_)
        refine lv_aload_n X.x X.b dX1_weigh_13 rfl (lv_at hl 1 rfl) ?_
        refine f_get X hh (v := .ref (gad G 66)) (sh_85 G _) (by decide) rfl in_X1 1 (by decide) kf_X1_20 rfl dX1_weigh_14 ?_
        refine f_geti X hh (x := nI (iM I)) (sh_66 G _) (by decide) rfl in_X3 3 (by decide) kf_X1_77 rfl (hM.kt hf (by decide)).2.1.1 dX1_weigh_17 ?_
        refine lv_istore_n (lv' := [(2, .int (nI (iM I))), (1, .int (nI (i + 1))), (0, .ref (gad G 85))]) X.x X.b dX1_weigh_20 rfl hl (by decide) rfl (fun ls hl => ?_)
        have lpi : ∀ (k j : Nat), j = k → j ≤ iM I → ∀ (ξ : Mem), WP ξ I (i + 1) j → Frt 94 104 σ ξ → ∀ (ls : Array Slot) (H : Heap) (locs : List Loc), lv_has ls 3 [(2, .int (nI j)), (1, .int (nI (i + 1))), (0, .ref (gad G 85))] → HH G s ξ H locs → WV l G p e s m args below meth c 3 74 (fun τ => LM τ I ∧ WT τ I ∧ Frt 94 104 σ τ) H locs (F0 m 21 ls []) := by
          intro km
          induction km using Nat.strongRecOn with
          | ind km ih2 =>
            intro j hk2 hj ξ hv2 hf2 ls H locs hl hh
            rcases Nat.eq_zero_or_pos j with h0 | h0
            · subst h0
              refine lv_iload_n X.x X.b dX1_weigh_21 rfl (lv_at hl 0 rfl) ?_
              refine lv_iconst (v := nI 1) X.x X.b dX1_weigh_22 (by decide) ?_
              refine lv_icmp_lt (tgt := 46) X.x X.b dX1_weigh_23 (by decide) (fun _ => ?_) (fun h9 => absurd (show _ by decide) h9)
              refine lv_iinc (v := nI i) (lv' := [(1, .int (nI i)), (2, .int (nI 0)), (0, .ref (gad G 85))]) X.x X.b dX1_weigh_46 hl (k := 1) rfl (pk_m1 i) (by decide) rfl (fun ls hl => ?_)
              refine lv_goto (tgt := 8) X.x X.b dX1_weigh_49 (by decide) ?_
              refine ih i (by omega) i rfl (by omega) _ ?_ hf2 ls H locs (lv_sub hl [0, 2] rfl) hh
              intro a b h1 h2 h3 h4 h5
              exact hv2 a b h1 h2 h3 h4 (by omega)
            · obtain ⟨j, rfl⟩ : ∃ z, j = z + 1 := ⟨j - 1, by omega⟩
              refine lv_iload_n X.x X.b dX1_weigh_21 rfl (lv_at hl 0 rfl) ?_
              refine lv_iconst (v := nI 1) X.x X.b dX1_weigh_22 (by decide) ?_
              refine lv_icmp_lt (tgt := 46) X.x X.b dX1_weigh_23 (by decide) (fun h9 => absurd h9 (nI_nlt (by omega) (by omega))) (fun _ => ?_)
              refine lv_aload_n X.x X.b dX1_weigh_26 rfl (lv_at hl 2 rfl) ?_
              refine f_get X hh (v := .ref (gad G 90)) (sh_85 G _) (by decide) rfl in_X1 3 (by decide) kf_X1_29 rfl dX1_weigh_27 ?_
              refine lv_iload_n X.x X.b dX1_weigh_30 rfl (lv_at hl 1 rfl) ?_
              refine f_aald X hh (j := i + 1) 4 (sh_90 G _) rfl rfl (by decide) rfl (by omega) (by decide) dX1_weigh_31 ?_
              refine lv_iload_n X.x X.b dX1_weigh_32 rfl (lv_at hl 0 rfl) ?_
              refine lv_aload_n X.x X.b dX1_weigh_33 rfl (lv_at hl 2 rfl) ?_
              refine lv_iload_n X.x X.b dX1_weigh_34 rfl (lv_at hl 1 rfl) ?_
              refine lv_iload_n X.x X.b dX1_weigh_35 rfl (lv_at hl 0 rfl) ?_
              have hT9 : ∀ st, st < 3 → can I st (i + 1) (j + 1) = true → ξ (94 + 10 * 0 + (i + 1 + di st)) (j + 1 + dj st) = nI (TT I (i + 1 + di st) (j + 1 + dj st)).1 ∧ (TT I (i + 1 + di st) (j + 1 + dj st)).2.2.1 ≠ 0 := fun st hs hc => by
                have hn := can_next hs hc (by omega) (by omega)
                have hd := dij (st := st)
                exact ⟨hv2 _ _ (by omega) hn.1 (by omega) hn.2 (by omega), TT_p hB (by omega) hn.1 (by omega) hn.2⟩
              refine f_calli X hh (c_leastAt l G (i := i + 1) (j := j + 1) hB (hM.kt hf2 (by decide)) (by omega) (by omega) hT9) mf_yX1_leastAt ki_yX1_leastAt kl_yX1_leastAt km_X1_144 (sh_85 G _) (by decide) rfl rfl hl.1 [.int (nI (j + 1)), .ref (gad G (94 + 10 * 0 + (i + 1)))] rfl (Nat.le_of_ble_eq_true rfl) ⟨by decide, by decide⟩ ⟨Nat.zero_le _, Nat.zero_le _⟩ dX1_weigh_36 (fun r τ H locs hq hh => ?_)
              obtain ⟨rfl, hτ⟩ := hq
              rw [hτ] at hh
              clear hτ
              refine f_iast X hh (j := j + 1) (fun g9 => sh_in G (q := 0) (i := i + 1) (by omega) (by omega) g9) (by omega) rfl (by omega) (by decide) dX1_weigh_39 (fun H locs hh => ?_)
              refine lv_iinc (v := nI j) (lv' := [(2, .int (nI j)), (1, .int (nI (i + 1))), (0, .ref (gad G 85))]) X.x X.b dX1_weigh_40 hl (k := 0) rfl (pk_m1 j) (by decide) rfl (fun ls hl => ?_)
              refine lv_goto (tgt := 21) X.x X.b dX1_weigh_43 (by decide) ?_
              refine ih2 j (by omega) j rfl (by omega) _ ?_ (hf2.set (by omega) (by omega)) ls H locs (lv_sub hl [0, 1, 2] rfl) hh
              intro a b h1 h2 h3 h4 h5
              by_cases e9 : a = i + 1 ∧ b = j + 1
              · rw [e9.1, e9.2, mset_ss, lres_p (TT_p hB (by omega) (by omega) (by omega) (by omega))]
              · rw [mset_nn (by omega)]; exact hv2 a b h1 h2 h3 h4 (by omega)
        refine lpi (iM I) (iM I) rfl (Nat.le_refl _) _ ?_ hf ls H locs (lv_sub hl [0, 1, 2] rfl) hh
        intro a b h1 h2 h3 h4 h5
        exact hv a b h1 h2 h3 h4 (by omega)
  have hl : lv_has ls 3 [(0, .ref (gad G 85))] := hl
  refine lv_aload_n X.x X.b dX1_weigh_0 rfl (lv_at hl 0 rfl) ?_
  refine f_get X hh (v := .ref (gad G 63)) (sh_85 G _) (by decide) rfl in_X1 0 (by decide) kf_X1_14 rfl dX1_weigh_1 ?_
  refine f_geti X hh (x := nI (iN I)) (sh_63 G _) (by decide) rfl in_X3 3 (by decide) kf_X1_77 rfl hM.1.1 dX1_weigh_4 ?_
  refine lv_istore_n (lv' := [(1, .int (nI (iN I))), (0, .ref (gad G 85))]) X.x X.b dX1_weigh_7 rfl hl (by decide) rfl (fun ls hl => ?_)
  exact lpo (iN I) (iN I) rfl (Nat.le_refl _) σ (fun a b h1 h2 h3 h4 h5 => absurd h5 (by omega)) Frt.rf ls H locs (lv_sub hl [0, 1] rfl) hh
