/-! the loom: tally -/
theorem max_nI {a b : Nat} (ha : a < 2 ^ 31) (hb : b < 2 ^ 31) : (if nI a < nI b then nI b else nI a) = nI (if a < b then b else a) := by
  by_cases h : a < b
  · rw [if_pos (nI_lt h hb), if_pos h]
  · rw [if_neg (nI_nlt (by omega) ha), if_neg h]
theorem tsa_c {I : LI} {i j st : Nat} (hc : can I st i j = true) : tsa I (TT I) i j (st + 1) = tk (tsa I (TT I) i j st) (cst I st i j) (TT I (i + di st) (j + dj st)) := by
  show ts I (TT I) i j st (tsa I (TT I) i j st) = _
  unfold ts
  rw [if_pos hc]
theorem tsa_n {I : LI} {i j st : Nat} (hc : ¬ can I st i j = true) : tsa I (TT I) i j (st + 1) = tsa I (TT I) i j st := by
  show ts I (TT I) i j st (tsa I (TT I) i j st) = _
  unfold ts
  rw [if_neg hc]
theorem tsa_mo {I : LI} (hB : LB I) {i j st : Nat} (hs : st < 3) (hd : dmn I i j) (hc : can I st i j = true) : (tsa I (TT I) i j (st + 1)).2.1 = if (tsa I (TT I) i j st).2.1 < cst I st i j + (TT I (i + di st) (j + dj st)).2.1 then cst I st i j + (TT I (i + di st) (j + dj st)).2.1 else (tsa I (TT I) i j st).2.1 := by
  rw [tsa_c hc]
  exact mo_tk mo_z (TT_dn hB hs hd hc)
theorem tsa_wyS {I : LI} {i j st : Nat} (hc : can I st i j = true) : (tsa I (TT I) i j (st + 1)).2.2.1 = (tsa I (TT I) i j st).2.2.1 + (TT I (i + di st) (j + dj st)).2.2.1 := by
  rw [tsa_c hc, tk_wy]
theorem cla_n {I : LI} {i j c0 st : Nat} (hc : ¬ can I st i j = true) : cla I i j c0 (st + 1) = cla I i j c0 st := by
  show cla I i j c0 st + (if _ then _ else 0) = _
  rw [if_neg hc]; rfl
theorem cla_c {I : LI} {i j c0 st : Nat} (hc : can I st i j = true) (h : cst I st i j + (TT I (i + di st) (j + dj st)).1 = c0) : cla I i j c0 (st + 1) = cla I i j c0 st + (TT I (i + di st) (j + dj st)).2.2.2 := by
  show cla I i j c0 st + (if _ then (if _ then _ else 0) else 0) = _
  rw [if_pos hc, if_pos h]
theorem cla_d {I : LI} {i j c0 st : Nat} (h : ¬ cst I st i j + (TT I (i + di st) (j + dj st)).1 = c0) : cla I i j c0 (st + 1) = cla I i j c0 st := by
  show cla I i j c0 st + (if _ then (if _ then _ else 0) else 0) = _
  rw [if_neg h]; split <;> rfl
def GP (σ : Mem) (I : LI) (a b : Nat) : Prop := σ (94 + 10 * 1 + a) b = nI (TT I a b).2.1 ∧ σ (94 + 10 * 2 + a) b = nI (TT I a b).2.2.1 ∧ σ (94 + 10 * 3 + a) b = nI (TT I a b).2.2.2
def gset (σ : Mem) (I : LI) (i j : Nat) : Mem := mset (mset (mset σ (94 + 10 * 1 + i) j (nI (TT I i j).2.1)) (94 + 10 * 2 + i) j (nI (TT I i j).2.2.1)) (94 + 10 * 3 + i) j (nI (TT I i j).2.2.2)
theorem gset_s {σ : Mem} {I : LI} {i j : Nat} (hi : i < 10) : GP (gset σ I i j) I i j := by
  unfold gset
  refine ⟨?_, ?_, mset_ss⟩
  · rw [mset_n (by omega), mset_n (by omega), mset_ss]
  · rw [mset_n (by omega), mset_ss]
theorem gset_n {σ : Mem} {I : LI} {i j a b : Nat} (h : GP σ I a b) (hi : i < 10) (ha : a < 10) (hn : ¬ (a = i ∧ b = j)) : GP (gset σ I i j) I a b := by
  unfold gset
  obtain ⟨h1, h2, h3⟩ := h
  refine ⟨?_, ?_, ?_⟩
  · rw [mset_nn (by omega), mset_nn (by omega), mset_nn (by omega)]; exact h1
  · rw [mset_nn (by omega), mset_nn (by omega), mset_nn (by omega)]; exact h2
  · rw [mset_nn (by omega), mset_nn (by omega), mset_nn (by omega)]; exact h3
theorem gset_f {σ τ : Mem} {I : LI} {i j : Nat} (h : Frt 104 134 σ τ) (hi : i < 10) : Frt 104 134 σ (gset τ I i j) := ((h.set (by omega) (by omega)).set (by omega) (by omega)).set (by omega) (by omega)
def GT (σ : Mem) (I : LI) : Prop := ∀ a b, dmn I a b → GP σ I a b
theorem WT.kt {σ τ : Mem} {I : LI} (h : WT σ I) (f : Frt 104 134 σ τ) (hB : LB I) : WT τ I := fun a b hd => by
  have := dmn_le hd
  have := hB.1
  rw [f _ (by omega)]; exact h a b hd
set_option maxHeartbeats 4000000 in
set_option maxRecDepth 100000 in
theorem c_tallyPlace (l : Launch) (G : GG) {σ : Mem} {I : LI} {i j : Nat} (hB : LB I) (hL : hasL I) (hM : LM σ I) (hW : WT σ I) (hd : dmn I i j) (hP : ∀ st, st < 3 → can I st i j = true → GP σ I (i + di st) (j + dj st)) : Cv l G yX1_tallyPlace cX1_tallyPlace 10 2 48 [.ref (gad G 85), .int (nI i), .int (nI j)] σ (fun τ => τ = gset σ I i j) := by
  refine Cv.of (own := RX1) (by decide) rfl (Nat.le_of_ble_eq_true rfl) (fun p e s m args below meth c ls H locs X hl hh => ?_)
  have hb1 := hB.1
  have hb2 := hB.2.1
  have hi := (dmn_le hd).1
  have hj := (dmn_le hd).2
  have hbb := TT_b hB hi hj
  have lp : ∀ (k st : Nat), 3 - st = k → st ≤ 3 → ∀ (ls : Array Slot) (H : Heap) (locs : List Loc), lv_has ls 10 [(6, .int (nI st)), (5, .int (nI (cla I i j (TT I i j).1 st))), (4, .int (nI ((tsa I (TT I) i j st).2.2.1))), (3, .int (nI ((tsa I (TT I) i j st).2.1))), (0, .ref (gad G 85)), (1, .int (nI i)), (2, .int (nI j))] → HH G s σ H locs → WV l G p e s m args below meth c 2 48 (fun τ => τ = gset σ I i j) H locs (F0 m 25 ls []) := by
    intro km
    induction km using Nat.strongRecOn with
    | ind km ih =>
      intro st hk hst ls H locs hl hh
      have hts := tsa_b hB hi hj hst
      refine lv_iload X.x X.b dX1_tallyPlace_25 (lv_at hl 0 rfl) ?_
      refine lv_iconst (v := nI 3) X.x X.b dX1_tallyPlace_27 (by decide) ?_
      refine lv_icmp_ge (tgt := 150) X.x X.b dX1_tallyPlace_28 (by decide) (fun c_1 => ?_) (fun c_1 => ?_)
      · have c_1 : 3 ≤ st := (nI_leI (a := 3) (b := st) (by omega) (by omega)).mp c_1
        refine lv_aload_n X.x X.b dX1_tallyPlace_150 rfl (lv_at hl 4 rfl) ?_
        refine f_get X hh (v := .ref (gad G 91)) (sh_85 G _) (by decide) rfl in_X1 4 (by decide) kf_X1_32 rfl dX1_tallyPlace_151 ?_
        refine lv_iload_n X.x X.b dX1_tallyPlace_154 rfl (lv_at hl 5 rfl) ?_
        refine f_aald X hh (j := i) 4 (sh_91 G _) rfl rfl (by decide) rfl (by omega) (by decide) dX1_tallyPlace_155 ?_
        refine lv_iload_n X.x X.b dX1_tallyPlace_156 rfl (lv_at hl 6 rfl) ?_
        refine lv_iload_n X.x X.b dX1_tallyPlace_157 rfl (lv_at hl 3 rfl) ?_
        refine f_iast X hh (j := j) (fun g9 => sh_in G (q := 1) (i := i) (by omega) (by omega) g9) (by omega) rfl (by omega) (by decide) dX1_tallyPlace_158 (fun H locs hh => ?_)
        refine lv_aload_n X.x X.b dX1_tallyPlace_159 rfl (lv_at hl 4 rfl) ?_
        refine f_get X hh (v := .ref (gad G 92)) (sh_85 G _) (by decide) rfl in_X1 5 (by decide) kf_X1_35 rfl dX1_tallyPlace_160 ?_
        refine lv_iload_n X.x X.b dX1_tallyPlace_163 rfl (lv_at hl 5 rfl) ?_
        refine f_aald X hh (j := i) 4 (sh_92 G _) rfl rfl (by decide) rfl (by omega) (by decide) dX1_tallyPlace_164 ?_
        refine lv_iload_n X.x X.b dX1_tallyPlace_165 rfl (lv_at hl 6 rfl) ?_
        refine lv_iload X.x X.b dX1_tallyPlace_166 (lv_at hl 2 rfl) ?_
        refine f_iast X hh (j := j) (fun g9 => sh_in G (q := 2) (i := i) (by omega) (by omega) g9) (by omega) rfl (by omega) (by decide) dX1_tallyPlace_168 (fun H locs hh => ?_)
        refine lv_aload_n X.x X.b dX1_tallyPlace_169 rfl (lv_at hl 4 rfl) ?_
        refine f_get X hh (v := .ref (gad G 93)) (sh_85 G _) (by decide) rfl in_X1 6 (by decide) kf_X1_38 rfl dX1_tallyPlace_170 ?_
        refine lv_iload_n X.x X.b dX1_tallyPlace_173 rfl (lv_at hl 5 rfl) ?_
        refine f_aald X hh (j := i) 4 (sh_93 G _) rfl rfl (by decide) rfl (by omega) (by decide) dX1_tallyPlace_174 ?_
        refine lv_iload_n X.x X.b dX1_tallyPlace_175 rfl (lv_at hl 6 rfl) ?_
        refine lv_iload X.x X.b dX1_tallyPlace_176 (lv_at hl 1 rfl) ?_
        refine f_iast X hh (j := j) (fun g9 => sh_in G (q := 3) (i := i) (by omega) (by omega) g9) (by omega) rfl (by omega) (by decide) dX1_tallyPlace_178 (fun H locs hh => ?_)
        refine f_vret X hh ?_ dX1_tallyPlace_179
        obtain rfl : st = 3 := by omega
        unfold gset
        rw [← TT_rec hB hi hj, cla_fin hB hL hd]
      · have c_1 : ¬ 3 ≤ st := fun q9 => c_1 ((nI_leI (a := 3) (b := st) (by omega) (by omega)).mpr q9)
        refine lv_aload_n X.x X.b dX1_tallyPlace_31 rfl (lv_at hl 4 rfl) ?_
        refine lv_iload X.x X.b dX1_tallyPlace_32 (lv_at hl 0 rfl) ?_
        refine lv_iload_n X.x X.b dX1_tallyPlace_34 rfl (lv_at hl 5 rfl) ?_
        refine lv_iload_n X.x X.b dX1_tallyPlace_35 rfl (lv_at hl 6 rfl) ?_
        refine f_calli X hh (c_canStep l G (st := st) (i := i) (j := j) hB hM (by omega) (by omega) (by omega)) mf_yX1_canStep ki_yX1_canStep kl_yX1_canStep km_X1_98 (sh_85 G _) (by decide) rfl rfl hl.1 [] rfl (Nat.le_of_ble_eq_true rfl) ⟨by decide, by decide⟩ ⟨Nat.zero_le _, Nat.zero_le _⟩ dX1_tallyPlace_36 (fun r τ H locs hq hh => ?_)
        obtain ⟨rfl, hτ⟩ := hq
        rw [hτ] at hh
        clear hτ
        by_cases c_2 : can I st i j = true
        · rw [show (if can I st i j = true then (1 : Int32) else 0) = 1 from if_pos c_2]
          have hnx := can_next (by omega) c_2 hi hj
          have hP9 := hP st (by omega) c_2
          have hW9 := hW _ _ (dmn_d (by omega) hd c_2)
          have hb9 := TT_b hB hnx.1 hnx.2
          have hc9 := cst_le hB (by omega) c_2 hi hj
          refine lv_if_eq (tgt := 144) X.x X.b dX1_tallyPlace_39 (by decide) (fun h9 => absurd h9 (by decide)) (fun _ => ?_)
          refine lv_iload_n X.x X.b dX1_tallyPlace_42 rfl (lv_at hl 5 rfl) ?_
          refine f_get1 X hh dX1_tallyPlace_43 ?_
          refine lv_iload X.x X.b dX1_tallyPlace_46 (lv_at hl 0 rfl) ?_
          refine f_ti1 X hh (j := st) rfl (by omega) (v := .int (nI (di st))) (sOn_di (by omega)) dX1_tallyPlace_48 ?_
          refine f_iadd X (z := nI (i + di st)) (nI_add i (di st)) dX1_tallyPlace_49 ?_
          refine lv_istore (lv' := [(7, .int (nI (i + di st))), (6, .int (nI st)), (5, .int (nI (cla I i j (TT I i j).1 st))), (4, .int (nI ((tsa I (TT I) i j st).2.2.1))), (3, .int (nI ((tsa I (TT I) i j st).2.1))), (0, .ref (gad G 85)), (1, .int (nI i)), (2, .int (nI j))]) X.x X.b dX1_tallyPlace_50 hl (by decide) rfl (fun ls hl => ?_)
          refine lv_iload_n X.x X.b dX1_tallyPlace_52 rfl (lv_at hl 7 rfl) ?_
          refine f_get2 X hh dX1_tallyPlace_53 ?_
          refine lv_iload X.x X.b dX1_tallyPlace_56 (lv_at hl 1 rfl) ?_
          refine f_ti2 X hh (j := st) rfl (by omega) (v := .int (nI (dj st))) (nOn_dj (by omega)) dX1_tallyPlace_58 ?_
          refine f_iadd X (z := nI (j + dj st)) (nI_add j (dj st)) dX1_tallyPlace_59 ?_
          refine lv_istore (lv' := [(8, .int (nI (j + dj st))), (7, .int (nI (i + di st))), (6, .int (nI st)), (5, .int (nI (cla I i j (TT I i j).1 st))), (4, .int (nI ((tsa I (TT I) i j st).2.2.1))), (3, .int (nI ((tsa I (TT I) i j st).2.1))), (0, .ref (gad G 85)), (1, .int (nI i)), (2, .int (nI j))]) X.x X.b dX1_tallyPlace_60 hl (by decide) rfl (fun ls hl => ?_)
          refine lv_aload_n X.x X.b dX1_tallyPlace_62 rfl (lv_at hl 6 rfl) ?_
          refine lv_iload X.x X.b dX1_tallyPlace_63 (lv_at hl 2 rfl) ?_
          refine lv_iload_n X.x X.b dX1_tallyPlace_65 rfl (lv_at hl 7 rfl) ?_
          refine lv_iload_n X.x X.b dX1_tallyPlace_66 rfl (lv_at hl 8 rfl) ?_
          refine f_calli X hh (c_stepCost l G (st := st) (i := i) (j := j) hB hM (by omega) c_2 (by omega) (by omega)) mf_yX1_stepCost ki_yX1_stepCost kl_yX1_stepCost km_X1_101 (sh_85 G _) (by decide) rfl rfl hl.1 [] rfl (Nat.le_of_ble_eq_true rfl) ⟨by decide, by decide⟩ ⟨Nat.zero_le _, Nat.zero_le _⟩ dX1_tallyPlace_67 (fun r τ H locs hq hh => ?_)
          obtain ⟨rfl, hτ⟩ := hq
          rw [hτ] at hh
          clear hτ
          refine lv_istore (lv' := [(9, .int (nI (cst I st i j))), (8, .int (nI (j + dj st))), (7, .int (nI (i + di st))), (6, .int (nI st)), (5, .int (nI (cla I i j (TT I i j).1 st))), (4, .int (nI ((tsa I (TT I) i j st).2.2.1))), (3, .int (nI ((tsa I (TT I) i j st).2.1))), (0, .ref (gad G 85)), (1, .int (nI i)), (2, .int (nI j))]) X.x X.b dX1_tallyPlace_70 hl (by decide) rfl (fun ls hl => ?_)
          refine lv_iload_n X.x X.b dX1_tallyPlace_72 rfl (lv_at hl 6 rfl) ?_
          refine lv_iload X.x X.b dX1_tallyPlace_73 (lv_at hl 0 rfl) ?_
          refine lv_aload_n X.x X.b dX1_tallyPlace_75 rfl (lv_at hl 7 rfl) ?_
          refine f_get X hh (v := .ref (gad G 91)) (sh_85 G _) (by decide) rfl in_X1 4 (by decide) kf_X1_32 rfl dX1_tallyPlace_76 ?_
          refine lv_iload X.x X.b dX1_tallyPlace_79 (lv_at hl 2 rfl) ?_
          refine f_aald X hh (j := i + di st) 4 (sh_91 G _) rfl rfl (by decide) rfl (by omega) (by decide) dX1_tallyPlace_81 ?_
          refine lv_iload X.x X.b dX1_tallyPlace_82 (lv_at hl 1 rfl) ?_
          refine f_ialdx X hh (j := j + dj st) (y := nI ((TT I (i + di st) (j + dj st)).2.1)) (sh_in G (q := 1) (i := i + di st) (by omega) (by omega) _) (by omega) rfl (by omega) (by decide) hP9.1 dX1_tallyPlace_84 ?_
          refine f_iadd X (z := nI (cst I st i j + (TT I (i + di st) (j + dj st)).2.1)) (nI_add (cst I st i j) ((TT I (i + di st) (j + dj st)).2.1)) dX1_tallyPlace_85 ?_
          refine f_mmax X (z := nI ((tsa I (TT I) i j (st + 1)).2.1)) (by rw [tsa_mo hB (by omega) hd c_2]; exact max_nI (by omega) (by omega)) km_X1_155 hl.1 (by decide) (Nat.le_of_ble_eq_true rfl) ⟨Nat.zero_le _, Nat.zero_le _⟩ ks_yJ9_max_7cf53 kn_J9 kc_yJ9_max_7cf53 dX1_tallyPlace_86 ?_
          refine lv_istore_n (lv' := [(3, .int (nI ((tsa I (TT I) i j (st + 1)).2.1))), (9, .int (nI (cst I st i j))), (8, .int (nI (j + dj st))), (7, .int (nI (i + di st))), (6, .int (nI st)), (5, .int (nI (cla I i j (TT I i j).1 st))), (4, .int (nI ((tsa I (TT I) i j st).2.2.1))), (0, .ref (gad G 85)), (1, .int (nI i)), (2, .int (nI j))]) X.x X.b dX1_tallyPlace_89 rfl hl (by decide) rfl (fun ls hl => ?_)
          refine lv_iload X.x X.b dX1_tallyPlace_90 (lv_at hl 6 rfl) ?_
          refine lv_aload_n X.x X.b dX1_tallyPlace_92 rfl (lv_at hl 7 rfl) ?_
          refine f_get X hh (v := .ref (gad G 92)) (sh_85 G _) (by decide) rfl in_X1 5 (by decide) kf_X1_35 rfl dX1_tallyPlace_93 ?_
          refine lv_iload X.x X.b dX1_tallyPlace_96 (lv_at hl 3 rfl) ?_
          refine f_aald X hh (j := i + di st) 4 (sh_92 G _) rfl rfl (by decide) rfl (by omega) (by decide) dX1_tallyPlace_98 ?_
          refine lv_iload X.x X.b dX1_tallyPlace_99 (lv_at hl 2 rfl) ?_
          refine f_ialdx X hh (j := j + dj st) (y := nI ((TT I (i + di st) (j + dj st)).2.2.1)) (sh_in G (q := 2) (i := i + di st) (by omega) (by omega) _) (by omega) rfl (by omega) (by decide) hP9.2.1 dX1_tallyPlace_101 ?_
          refine f_iadd X (z := nI ((tsa I (TT I) i j (st + 1)).2.2.1)) (by rw [nI_add, tsa_wyS c_2]) dX1_tallyPlace_102 ?_
          refine lv_istore (lv' := [(4, .int (nI ((tsa I (TT I) i j (st + 1)).2.2.1))), (3, .int (nI ((tsa I (TT I) i j (st + 1)).2.1))), (9, .int (nI (cst I st i j))), (8, .int (nI (j + dj st))), (7, .int (nI (i + di st))), (6, .int (nI st)), (5, .int (nI (cla I i j (TT I i j).1 st))), (0, .ref (gad G 85)), (1, .int (nI i)), (2, .int (nI j))]) X.x X.b dX1_tallyPlace_103 hl (by decide) rfl (fun ls hl => ?_)
          refine lv_iload X.x X.b dX1_tallyPlace_105 (lv_at hl 2 rfl) ?_
          refine lv_aload_n X.x X.b dX1_tallyPlace_107 rfl (lv_at hl 7 rfl) ?_
          refine f_get X hh (v := .ref (gad G 90)) (sh_85 G _) (by decide) rfl in_X1 3 (by decide) kf_X1_29 rfl dX1_tallyPlace_108 ?_
          refine lv_iload X.x X.b dX1_tallyPlace_111 (lv_at hl 4 rfl) ?_
          refine f_aald X hh (j := i + di st) 4 (sh_90 G _) rfl rfl (by decide) rfl (by omega) (by decide) dX1_tallyPlace_113 ?_
          refine lv_iload X.x X.b dX1_tallyPlace_114 (lv_at hl 3 rfl) ?_
          refine f_ialdx X hh (j := j + dj st) (y := nI ((TT I (i + di st) (j + dj st)).1)) (sh_in G (q := 0) (i := i + di st) (by omega) (by omega) _) (by omega) rfl (by omega) (by decide) hW9 dX1_tallyPlace_116 ?_
          refine f_iadd X (z := nI (cst I st i j + (TT I (i + di st) (j + dj st)).1)) (nI_add (cst I st i j) ((TT I (i + di st) (j + dj st)).1)) dX1_tallyPlace_117 ?_
          refine lv_aload_n X.x X.b dX1_tallyPlace_118 rfl (lv_at hl 7 rfl) ?_
          refine f_get X hh (v := .ref (gad G 90)) (sh_85 G _) (by decide) rfl in_X1 3 (by decide) kf_X1_29 rfl dX1_tallyPlace_119 ?_
          refine lv_iload_n X.x X.b dX1_tallyPlace_122 rfl (lv_at hl 8 rfl) ?_
          refine f_aald X hh (j := i) 4 (sh_90 G _) rfl rfl (by decide) rfl (by omega) (by decide) dX1_tallyPlace_123 ?_
          refine lv_iload_n X.x X.b dX1_tallyPlace_124 rfl (lv_at hl 9 rfl) ?_
          refine f_ialdx X hh (j := j) (y := nI ((TT I i j).1)) (sh_in G (q := 0) (i := i) (by omega) (by omega) _) (by omega) rfl (by omega) (by decide) (hW _ _ hd) dX1_tallyPlace_125 ?_
          refine lv_icmp_ne (tgt := 144) X.x X.b dX1_tallyPlace_126 (by decide) (fun c_4 => ?_) (fun c_4 => ?_)
          · have c_4 : ¬ (cst I st i j + (TT I (i + di st) (j + dj st)).1) = ((TT I i j).1) := fun q9 => c_4 ((nI_eq (a := (cst I st i j + (TT I (i + di st) (j + dj st)).1)) (b := ((TT I i j).1)) (by omega) (by omega)).mpr q9)
            refine lv_iinc (v := nI (st + 1)) (lv' := [(6, .int (nI (st + 1))), (4, .int (nI ((tsa I (TT I) i j (st + 1)).2.2.1))), (3, .int (nI ((tsa I (TT I) i j (st + 1)).2.1))), (9, .int (nI (cst I st i j))), (8, .int (nI (j + dj st))), (7, .int (nI (i + di st))), (5, .int (nI (cla I i j (TT I i j).1 st))), (0, .ref (gad G 85)), (1, .int (nI i)), (2, .int (nI j))]) X.x X.b dX1_tallyPlace_144 hl (k := 5) rfl (nI_1 st) (by decide) rfl (fun ls hl => ?_)
            refine lv_goto (tgt := 25) X.x X.b dX1_tallyPlace_147 (by decide) ?_
            refine ih (3 - (st + 1)) (by omega) (st + 1) rfl (by omega) ls H locs ?_ hh
            rw [cla_d c_4]
            exact lv_sub hl [0, 6, 1, 2, 7, 8, 9] rfl
          · have c_4 : (cst I st i j + (TT I (i + di st) (j + dj st)).1) = ((TT I i j).1) := (nI_eq (a := (cst I st i j + (TT I (i + di st) (j + dj st)).1)) (b := ((TT I i j).1)) (by omega) (by omega)).mp c_4
            refine lv_iload X.x X.b dX1_tallyPlace_129 (lv_at hl 6 rfl) ?_
            refine lv_aload_n X.x X.b dX1_tallyPlace_131 rfl (lv_at hl 7 rfl) ?_
            refine f_get X hh (v := .ref (gad G 93)) (sh_85 G _) (by decide) rfl in_X1 6 (by decide) kf_X1_38 rfl dX1_tallyPlace_132 ?_
            refine lv_iload X.x X.b dX1_tallyPlace_135 (lv_at hl 4 rfl) ?_
            refine f_aald X hh (j := i + di st) 4 (sh_93 G _) rfl rfl (by decide) rfl (by omega) (by decide) dX1_tallyPlace_137 ?_
            refine lv_iload X.x X.b dX1_tallyPlace_138 (lv_at hl 3 rfl) ?_
            refine f_ialdx X hh (j := j + dj st) (y := nI ((TT I (i + di st) (j + dj st)).2.2.2)) (sh_in G (q := 3) (i := i + di st) (by omega) (by omega) _) (by omega) rfl (by omega) (by decide) hP9.2.2 dX1_tallyPlace_140 ?_
            refine f_iadd X (z := nI (cla I i j (TT I i j).1 (st + 1))) (by rw [nI_add, cla_c c_2 c_4]) dX1_tallyPlace_141 ?_
            refine lv_istore (lv' := [(5, .int (nI (cla I i j (TT I i j).1 (st + 1)))), (4, .int (nI ((tsa I (TT I) i j (st + 1)).2.2.1))), (3, .int (nI ((tsa I (TT I) i j (st + 1)).2.1))), (9, .int (nI (cst I st i j))), (8, .int (nI (j + dj st))), (7, .int (nI (i + di st))), (6, .int (nI st)), (0, .ref (gad G 85)), (1, .int (nI i)), (2, .int (nI j))]) X.x X.b dX1_tallyPlace_142 hl (by decide) rfl (fun ls hl => ?_)
            refine lv_iinc (v := nI (st + 1)) (lv' := [(6, .int (nI (st + 1))), (5, .int (nI (cla I i j (TT I i j).1 (st + 1)))), (4, .int (nI ((tsa I (TT I) i j (st + 1)).2.2.1))), (3, .int (nI ((tsa I (TT I) i j (st + 1)).2.1))), (9, .int (nI (cst I st i j))), (8, .int (nI (j + dj st))), (7, .int (nI (i + di st))), (0, .ref (gad G 85)), (1, .int (nI i)), (2, .int (nI j))]) X.x X.b dX1_tallyPlace_144 hl (k := 6) rfl (nI_1 st) (by decide) rfl (fun ls hl => ?_)
            refine lv_goto (tgt := 25) X.x X.b dX1_tallyPlace_147 (by decide) ?_
            refine ih (3 - (st + 1)) (by omega) (st + 1) rfl (by omega) ls H locs ?_ hh
            exact lv_sub hl [0, 1, 2, 3, 7, 8, 9] rfl
        · rw [show (if can I st i j = true then (1 : Int32) else 0) = 0 from if_neg c_2]
          refine lv_if_eq (tgt := 144) X.x X.b dX1_tallyPlace_39 (by decide) (fun _ => ?_) (fun h9 => absurd (show _ by decide) h9)
          refine lv_iinc (v := nI (st + 1)) (lv' := [(6, .int (nI (st + 1))), (5, .int (nI (cla I i j (TT I i j).1 st))), (4, .int (nI ((tsa I (TT I) i j st).2.2.1))), (3, .int (nI ((tsa I (TT I) i j st).2.1))), (0, .ref (gad G 85)), (1, .int (nI i)), (2, .int (nI j))]) X.x X.b dX1_tallyPlace_144 hl (k := 0) rfl (nI_1 st) (by decide) rfl (fun ls hl => ?_)
          refine lv_goto (tgt := 25) X.x X.b dX1_tallyPlace_147 (by decide) ?_
          refine ih (3 - (st + 1)) (by omega) (st + 1) rfl (by omega) ls H locs ?_ hh
          rw [tsa_n c_2, cla_n c_2]
          exact lv_sub hl [0, 1, 2, 3, 4, 5, 6] rfl
  have hl : lv_has ls 10 [(0, .ref (gad G 85)), (1, .int (nI i)), (2, .int (nI j))] := hl
  refine lv_iconst (v := nI 0) X.x X.b dX1_tallyPlace_0 (by decide) ?_
  refine lv_istore_n (lv' := [(3, .int (nI 0)), (0, .ref (gad G 85)), (1, .int (nI i)), (2, .int (nI j))]) X.x X.b dX1_tallyPlace_1 rfl hl (by decide) rfl (fun ls hl => ?_)
  refine lv_aload_n X.x X.b dX1_tallyPlace_2 rfl (lv_at hl 1 rfl) ?_
  refine lv_iload_n X.x X.b dX1_tallyPlace_3 rfl (lv_at hl 2 rfl) ?_
  refine lv_iload_n X.x X.b dX1_tallyPlace_4 rfl (lv_at hl 3 rfl) ?_
  refine f_calli X hh (c_isEnd l G (i := i) (j := j) hB hM (by omega) (by omega)) mf_yX1_isEnd ki_yX1_isEnd kl_yX1_isEnd km_X1_111 (sh_85 G _) (by decide) rfl rfl hl.1 [] rfl (Nat.le_of_ble_eq_true rfl) ⟨by decide, by decide⟩ ⟨Nat.zero_le _, Nat.zero_le _⟩ dX1_tallyPlace_5 (fun r τ H locs hq hh => ?_)
  obtain ⟨rfl, hτ⟩ := hq
  rw [hτ] at hh
  clear hτ
  by_cases c_6 : i = iN I ∧ j = iM I
  · rw [show (if i = iN I ∧ j = iM I then (1 : Int32) else 0) = 1 from if_pos c_6]
    refine lv_if_eq (tgt := 15) X.x X.b dX1_tallyPlace_8 (by decide) (fun h9 => absurd h9 (by decide)) (fun _ => ?_)
    refine lv_iconst (v := nI 1) X.x X.b dX1_tallyPlace_11 (by decide) ?_
    refine lv_goto (tgt := 16) X.x X.b dX1_tallyPlace_12 (by decide) ?_
    refine lv_istore (lv' := [(4, .int (nI 1)), (3, .int (nI 0)), (0, .ref (gad G 85)), (1, .int (nI i)), (2, .int (nI j))]) X.x X.b dX1_tallyPlace_16 hl (by decide) rfl (fun ls hl => ?_)
    refine lv_iload X.x X.b dX1_tallyPlace_18 (lv_at hl 0 rfl) ?_
    refine lv_istore (lv' := [(5, .int (nI 1)), (4, .int (nI 1)), (3, .int (nI 0)), (0, .ref (gad G 85)), (1, .int (nI i)), (2, .int (nI j))]) X.x X.b dX1_tallyPlace_20 hl (by decide) rfl (fun ls hl => ?_)
    refine lv_iconst (v := nI 0) X.x X.b dX1_tallyPlace_22 (by decide) ?_
    refine lv_istore (lv' := [(6, .int (nI 0)), (5, .int (nI 1)), (4, .int (nI 1)), (3, .int (nI 0)), (0, .ref (gad G 85)), (1, .int (nI i)), (2, .int (nI j))]) X.x X.b dX1_tallyPlace_23 hl (by decide) rfl (fun ls hl => ?_)
    refine lp 3 0 rfl (by omega) ls H locs ?_ hh
    rw [show cla I i j (TT I i j).1 0 = 1 from if_pos c_6, show (tsa I (TT I) i j 0).2.2.1 = 1 from if_pos c_6]
    exact lv_sub hl [0, 1, 2, 3, 4, 5, 6] rfl
  · rw [show (if i = iN I ∧ j = iM I then (1 : Int32) else 0) = 0 from if_neg c_6]
    refine lv_if_eq (tgt := 15) X.x X.b dX1_tallyPlace_8 (by decide) (fun _ => ?_) (fun h9 => absurd (show _ by decide) h9)
    refine lv_iconst (v := nI 0) X.x X.b dX1_tallyPlace_15 (by decide) ?_
    refine lv_istore (lv' := [(4, .int (nI 0)), (3, .int (nI 0)), (0, .ref (gad G 85)), (1, .int (nI i)), (2, .int (nI j))]) X.x X.b dX1_tallyPlace_16 hl (by decide) rfl (fun ls hl => ?_)
    refine lv_iload X.x X.b dX1_tallyPlace_18 (lv_at hl 0 rfl) ?_
    refine lv_istore (lv' := [(5, .int (nI 0)), (4, .int (nI 0)), (3, .int (nI 0)), (0, .ref (gad G 85)), (1, .int (nI i)), (2, .int (nI j))]) X.x X.b dX1_tallyPlace_20 hl (by decide) rfl (fun ls hl => ?_)
    refine lv_iconst (v := nI 0) X.x X.b dX1_tallyPlace_22 (by decide) ?_
    refine lv_istore (lv' := [(6, .int (nI 0)), (5, .int (nI 0)), (4, .int (nI 0)), (3, .int (nI 0)), (0, .ref (gad G 85)), (1, .int (nI i)), (2, .int (nI j))]) X.x X.b dX1_tallyPlace_23 hl (by decide) rfl (fun ls hl => ?_)
    refine lp 3 0 rfl (by omega) ls H locs ?_ hh
    rw [show cla I i j (TT I i j).1 0 = 0 from if_neg c_6, show (tsa I (TT I) i j 0).2.2.1 = 0 from if_neg c_6]
    exact lv_sub hl [0, 1, 2, 3, 4, 5, 6] rfl
set_option maxHeartbeats 4000000 in
set_option maxRecDepth 100000 in
theorem c_tally (l : Launch) (G : GG) {σ : Mem} {I : LI} (hB : LB I) (hL : hasL I) (hM : LM σ I) (hW : WT σ I) : Cv l G yX1_tally cX1_tally 3 3 77 [.ref (gad G 85)] σ (fun τ => LM τ I ∧ WT τ I ∧ GT τ I ∧ Frt 104 134 σ τ) := by
  refine Cv.of (own := RX1) (by decide) rfl (Nat.le_of_ble_eq_true rfl) (fun p e s m args below meth c ls H locs X hl hh => ?_)
  have hb1 := hB.1
  have hb2 := hB.2.1
  have lpo : ∀ (k i : Nat), i = k → i ≤ iN I → ∀ (υ : Mem), (∀ a b, 1 ≤ a → a ≤ iN I → 1 ≤ b → b ≤ iM I → i < a → GP υ I a b) → Frt 104 134 σ υ → ∀ (ls : Array Slot) (H : Heap) (locs : List Loc), lv_has ls 3 [(1, .int (nI i)), (0, .ref (gad G 85))] → HH G s υ H locs → WV l G p e s m args below meth c 3 77 (fun τ => LM τ I ∧ WT τ I ∧ GT τ I ∧ Frt 104 134 σ τ) H locs (F0 m 8 ls []) := by
    intro km
    induction km using Nat.strongRecOn with
    | ind km ih =>
      intro i hk hi υ hv hf ls H locs hl hh
      rcases Nat.eq_zero_or_pos i with h0 | h0
      · subst h0
        refine lv_iload_n X.x X.b dX1_tally_8 rfl (lv_at hl 0 rfl) ?_
        refine lv_iconst (v := nI 1) X.x X.b dX1_tally_9 (by decide) ?_
        refine lv_icmp_lt (tgt := 44) X.x X.b dX1_tally_10 (by decide) (fun _ => ?_) (fun h9 => absurd (show _ by decide) h9)
        refine lv_aload_n X.x X.b dX1_tally_44 rfl (lv_at hl 1 rfl) ?_
        refine lv_iconst (v := nI 0) X.x X.b dX1_tally_45 (by decide) ?_
        refine lv_iconst (v := nI 0) X.x X.b dX1_tally_46 (by decide) ?_
        have hP9 : ∀ st, st < 3 → can I st 0 0 = true → GP υ I (0 + di st) (0 + dj st) := fun st hs hc => by
          have hn := dmn_next hs (Or.inr ⟨rfl, rfl⟩) hc
          exact hv _ _ hn.1 hn.2.1 hn.2.2.1 hn.2.2.2 (by omega)
        refine f_callv X hh (c_tallyPlace l G (i := 0) (j := 0) hB hL (hM.kt hf (by decide)) (hW.kt hf hB) (Or.inr ⟨rfl, rfl⟩) hP9) mf_yX1_tallyPlace ki_yX1_tallyPlace kl_yX1_tallyPlace km_X1_151 (sh_85 G _) (by decide) rfl rfl hl.1 [] rfl (Nat.le_of_ble_eq_true rfl) ⟨by decide, by decide⟩ ⟨Nat.zero_le _, Nat.zero_le _⟩ dX1_tally_47 (fun τ H locs hq hh => ?_)
        subst hq
        refine f_vret X hh ?_ dX1_tally_50
        refine ⟨hM.kt (gset_f hf (by decide)) (by decide), hW.kt (gset_f hf (by decide)) hB, fun a b hd => ?_, gset_f hf (by decide)⟩
        rcases hd with ⟨h1, h2, h3, h4⟩ | ⟨h1, h2⟩
        · exact gset_n (hv a b h1 h2 h3 h4 (by omega)) (by decide) (by omega) (by omega)
        · subst h1; subst h2; exact gset_s (by decide)
      · obtain ⟨i, rfl⟩ : ∃ z, i = z + 1 := ⟨i - 1, by omega⟩
        refine lv_iload_n X.x X.b dX1_tally_8 rfl (lv_at hl 0 rfl) ?_
        refine lv_iconst (v := nI 1) X.x X.b dX1_tally_9 (by decide) ?_
        refine lv_icmp_lt (tgt := 44) X.x X.b dX1_tally_10 (by decide) (fun h9 => absurd h9 (nI_nlt (by omega) (by omega))) (fun _ => ?_)
        refine lv_aload_n X.x X.b dX1_tally_13 rfl (lv_at hl 1 rfl) ?_
        refine f_get X hh (v := .ref (gad G 66)) (sh_85 G _) (by decide) rfl in_X1 1 (by decide) kf_X1_20 rfl dX1_tally_14 ?_
        refine f_geti X hh (x := nI (iM I)) (sh_66 G _) (by decide) rfl in_X3 3 (by decide) kf_X1_77 rfl (hM.kt hf (by decide)).2.1.1 dX1_tally_17 ?_
        refine lv_istore_n (lv' := [(2, .int (nI (iM I))), (1, .int (nI (i + 1))), (0, .ref (gad G 85))]) X.x X.b dX1_tally_20 rfl hl (by decide) rfl (fun ls hl => ?_)
        have lpi : ∀ (k j : Nat), j = k → j ≤ iM I → ∀ (ξ : Mem), (∀ a b, 1 ≤ a → a ≤ iN I → 1 ≤ b → b ≤ iM I → (i + 1 < a ∨ (a = i + 1 ∧ j < b)) → GP ξ I a b) → Frt 104 134 σ ξ → ∀ (ls : Array Slot) (H : Heap) (locs : List Loc), lv_has ls 3 [(2, .int (nI j)), (1, .int (nI (i + 1))), (0, .ref (gad G 85))] → HH G s ξ H locs → WV l G p e s m args below meth c 3 77 (fun τ => LM τ I ∧ WT τ I ∧ GT τ I ∧ Frt 104 134 σ τ) H locs (F0 m 21 ls []) := by
          intro km
          induction km using Nat.strongRecOn with
          | ind km ih2 =>
            intro j hk2 hj ξ hv2 hf2 ls H locs hl hh
            rcases Nat.eq_zero_or_pos j with h0 | h0
            · subst h0
              refine lv_iload_n X.x X.b dX1_tally_21 rfl (lv_at hl 0 rfl) ?_
              refine lv_iconst (v := nI 1) X.x X.b dX1_tally_22 (by decide) ?_
              refine lv_icmp_lt (tgt := 38) X.x X.b dX1_tally_23 (by decide) (fun _ => ?_) (fun h9 => absurd (show _ by decide) h9)
              refine lv_iinc (v := nI i) (lv' := [(1, .int (nI i)), (2, .int (nI 0)), (0, .ref (gad G 85))]) X.x X.b dX1_tally_38 hl (k := 1) rfl (pk_m1 i) (by decide) rfl (fun ls hl => ?_)
              refine lv_goto (tgt := 8) X.x X.b dX1_tally_41 (by decide) ?_
              refine ih i (by omega) i rfl (by omega) _ ?_ hf2 ls H locs (lv_sub hl [0, 2] rfl) hh
              intro a b h1 h2 h3 h4 h5
              exact hv2 a b h1 h2 h3 h4 (by omega)
            · obtain ⟨j, rfl⟩ : ∃ z, j = z + 1 := ⟨j - 1, by omega⟩
              refine lv_iload_n X.x X.b dX1_tally_21 rfl (lv_at hl 0 rfl) ?_
              refine lv_iconst (v := nI 1) X.x X.b dX1_tally_22 (by decide) ?_
              refine lv_icmp_lt (tgt := 38) X.x X.b dX1_tally_23 (by decide) (fun h9 => absurd h9 (nI_nlt (by omega) (by omega))) (fun _ => ?_)
              refine lv_aload_n X.x X.b dX1_tally_26 rfl (lv_at hl 2 rfl) ?_
              refine lv_iload_n X.x X.b dX1_tally_27 rfl (lv_at hl 1 rfl) ?_
              refine lv_iload_n X.x X.b dX1_tally_28 rfl (lv_at hl 0 rfl) ?_
              have hP9 : ∀ st, st < 3 → can I st (i + 1) (j + 1) = true → GP ξ I (i + 1 + di st) (j + 1 + dj st) := fun st hs hc => by
                have hn := can_next hs hc (by omega) (by omega)
                have hd := dij (st := st)
                exact hv2 _ _ (by omega) hn.1 (by omega) hn.2 (by omega)
              refine f_callv X hh (c_tallyPlace l G (i := i + 1) (j := j + 1) hB hL (hM.kt hf2 (by decide)) (hW.kt hf2 hB) (Or.inl ⟨by omega, by omega, by omega, by omega⟩) hP9) mf_yX1_tallyPlace ki_yX1_tallyPlace kl_yX1_tallyPlace km_X1_151 (sh_85 G _) (by decide) rfl rfl hl.1 [] rfl (Nat.le_of_ble_eq_true rfl) ⟨by decide, by decide⟩ ⟨Nat.zero_le _, Nat.zero_le _⟩ dX1_tally_29 (fun τ H locs hq hh => ?_)
              subst hq
              refine lv_iinc (v := nI j) (lv' := [(2, .int (nI j)), (1, .int (nI (i + 1))), (0, .ref (gad G 85))]) X.x X.b dX1_tally_32 hl (k := 0) rfl (pk_m1 j) (by decide) rfl (fun ls hl => ?_)
              refine lv_goto (tgt := 21) X.x X.b dX1_tally_35 (by decide) ?_
              refine ih2 j (by omega) j rfl (by omega) _ ?_ (gset_f hf2 (by omega)) ls H locs (lv_sub hl [0, 1, 2] rfl) hh
              intro a b h1 h2 h3 h4 h5
              by_cases e9 : a = i + 1 ∧ b = j + 1
              · rw [e9.1, e9.2]; exact gset_s (by omega)
              · exact gset_n (hv2 a b h1 h2 h3 h4 (by omega)) (by omega) (by omega) e9
        refine lpi (iM I) (iM I) rfl (Nat.le_refl _) _ ?_ hf ls H locs (lv_sub hl [0, 1, 2] rfl) hh
        intro a b h1 h2 h3 h4 h5
        exact hv a b h1 h2 h3 h4 (by omega)
  have hl : lv_has ls 3 [(0, .ref (gad G 85))] := hl
  refine lv_aload_n X.x X.b dX1_tally_0 rfl (lv_at hl 0 rfl) ?_
  refine f_get X hh (v := .ref (gad G 63)) (sh_85 G _) (by decide) rfl in_X1 0 (by decide) kf_X1_14 rfl dX1_tally_1 ?_
  refine f_geti X hh (x := nI (iN I)) (sh_63 G _) (by decide) rfl in_X3 3 (by decide) kf_X1_77 rfl hM.1.1 dX1_tally_4 ?_
  refine lv_istore_n (lv' := [(1, .int (nI (iN I))), (0, .ref (gad G 85))]) X.x X.b dX1_tally_7 rfl hl (by decide) rfl (fun ls hl => ?_)
  exact lpo (iN I) (iN I) rfl (Nat.le_refl _) σ (fun a b h1 h2 h3 h4 h5 => absurd h5 (by omega)) Frt.rf ls H locs (lv_sub hl [0, 1] rfl) hh
def sres (o : Option Nat) : Int32 := match o with
  | some st => nI st
  | none => -1
set_option maxHeartbeats 4000000 in
set_option maxRecDepth 100000 in
theorem c_leastStepFrom (l : Launch) (G : GG) {σ : Mem} {I : LI} {i j : Nat} (hB : LB I) (hM : LM σ I) (hW : WT σ I) (hd : dmn I i j) : Ci l G yX1_leastStepFrom cX1_leastStepFrom 5 (some .int) 2 48 [.ref (gad G 85), .int (nI i), .int (nI j)] σ (fun r τ => r = sres (snx I i j) ∧ τ = σ) := by
  refine Ci.of (own := RX1) (by decide) rfl (Nat.le_of_ble_eq_true rfl) (fun p e s m args below meth c ls H locs X hl hh => ?_)
  have hb1 := hB.1
  have hb2 := hB.2.1
  have hi := (dmn_le hd).1
  have hj := (dmn_le hd).2
  have hbb := TT_b hB hi hj
  have lp : ∀ (k st : Nat), (∀ k9, k9 < st → nxok I i j k9 = false) → 3 - st = k → st ≤ 3 → ∀ (ls : Array Slot) (H : Heap) (locs : List Loc), lv_has ls 5 [(3, .int (nI st)), (0, .ref (gad G 85)), (1, .int (nI i)), (2, .int (nI j))] → HH G s σ H locs → WI l G p e s m args below meth c 2 48 (fun r τ => r = sres (snx I i j) ∧ τ = σ) H locs (F0 m 2 ls []) := by
    intro km
    induction km using Nat.strongRecOn with
    | ind km ih =>
      intro st hb hk hst ls H locs hl hh
      refine lv_iload_n X.x X.b dX1_leastStepFrom_2 rfl (lv_at hl 0 rfl) ?_
      refine lv_iconst (v := nI 3) X.x X.b dX1_leastStepFrom_3 (by decide) ?_
      refine lv_icmp_ge (tgt := 68) X.x X.b dX1_leastStepFrom_4 (by decide) (fun c_1 => ?_) (fun c_1 => ?_)
      · have c_1 : 3 ≤ st := (nI_leI (a := 3) (b := st) (by omega) (by omega)).mp c_1
        refine lv_iconst (v := (-1)) X.x X.b dX1_leastStepFrom_68 (by decide) ?_
        exact f_iret X hh ⟨by rw [snx_n (fun k9 hk9 => hb k9 (by omega))]; rfl, rfl⟩ dX1_leastStepFrom_69
      · have c_1 : ¬ 3 ≤ st := fun q9 => c_1 ((nI_leI (a := 3) (b := st) (by omega) (by omega)).mpr q9)
        refine lv_aload_n X.x X.b dX1_leastStepFrom_7 rfl (lv_at hl 1 rfl) ?_
        refine lv_iload_n X.x X.b dX1_leastStepFrom_8 rfl (lv_at hl 0 rfl) ?_
        refine lv_iload_n X.x X.b dX1_leastStepFrom_9 rfl (lv_at hl 2 rfl) ?_
        refine lv_iload_n X.x X.b dX1_leastStepFrom_10 rfl (lv_at hl 3 rfl) ?_
        refine f_calli X hh (c_canStep l G (st := st) (i := i) (j := j) hB hM (by omega) (by omega) (by omega)) mf_yX1_canStep ki_yX1_canStep kl_yX1_canStep km_X1_98 (sh_85 G _) (by decide) rfl rfl hl.1 [] rfl (Nat.le_of_ble_eq_true rfl) ⟨by decide, by decide⟩ ⟨Nat.zero_le _, Nat.zero_le _⟩ dX1_leastStepFrom_11 (fun r τ H locs hq hh => ?_)
        obtain ⟨rfl, hτ⟩ := hq
        rw [hτ] at hh
        clear hτ
        by_cases c_2 : can I st i j = true
        · rw [show (if can I st i j = true then (1 : Int32) else 0) = 1 from if_pos c_2]
          have hnx := can_next (by omega) c_2 hi hj
          have hW9 := hW _ _ (dmn_d (by omega) hd c_2)
          have hb9 := TT_b hB hnx.1 hnx.2
          have hc9 := cst_le hB (by omega) c_2 hi hj
          refine lv_if_eq (tgt := 62) X.x X.b dX1_leastStepFrom_14 (by decide) (fun h9 => absurd h9 (by decide)) (fun _ => ?_)
          refine lv_aload_n X.x X.b dX1_leastStepFrom_17 rfl (lv_at hl 1 rfl) ?_
          refine f_get X hh (v := .ref (gad G 90)) (sh_85 G _) (by decide) rfl in_X1 3 (by decide) kf_X1_29 rfl dX1_leastStepFrom_18 ?_
          refine lv_iload_n X.x X.b dX1_leastStepFrom_21 rfl (lv_at hl 2 rfl) ?_
          refine f_get1 X hh dX1_leastStepFrom_22 ?_
          refine lv_iload_n X.x X.b dX1_leastStepFrom_25 rfl (lv_at hl 0 rfl) ?_
          refine f_ti1 X hh (j := st) rfl (by omega) (v := .int (nI (di st))) (sOn_di (by omega)) dX1_leastStepFrom_26 ?_
          refine f_iadd X (z := nI (i + di st)) (nI_add i (di st)) dX1_leastStepFrom_27 ?_
          refine f_aald X hh (j := i + di st) 4 (sh_90 G _) rfl rfl (by decide) rfl (by omega) (by decide) dX1_leastStepFrom_28 ?_
          refine lv_iload_n X.x X.b dX1_leastStepFrom_29 rfl (lv_at hl 3 rfl) ?_
          refine f_get2 X hh dX1_leastStepFrom_30 ?_
          refine lv_iload_n X.x X.b dX1_leastStepFrom_33 rfl (lv_at hl 0 rfl) ?_
          refine f_ti2 X hh (j := st) rfl (by omega) (v := .int (nI (dj st))) (nOn_dj (by omega)) dX1_leastStepFrom_34 ?_
          refine f_iadd X (z := nI (j + dj st)) (nI_add j (dj st)) dX1_leastStepFrom_35 ?_
          refine f_ialdx X hh (j := j + dj st) (y := nI ((TT I (i + di st) (j + dj st)).1)) (sh_in G (q := 0) (i := i + di st) (by omega) (by omega) _) (by omega) rfl (by omega) (by decide) hW9 dX1_leastStepFrom_36 ?_
          refine lv_istore (lv' := [(4, .int (nI ((TT I (i + di st) (j + dj st)).1))), (3, .int (nI st)), (0, .ref (gad G 85)), (1, .int (nI i)), (2, .int (nI j))]) X.x X.b dX1_leastStepFrom_37 hl (by decide) rfl (fun ls hl => ?_)
          refine lv_aload_n X.x X.b dX1_leastStepFrom_39 rfl (lv_at hl 2 rfl) ?_
          refine lv_iload_n X.x X.b dX1_leastStepFrom_40 rfl (lv_at hl 1 rfl) ?_
          refine lv_iload_n X.x X.b dX1_leastStepFrom_41 rfl (lv_at hl 3 rfl) ?_
          refine lv_iload_n X.x X.b dX1_leastStepFrom_42 rfl (lv_at hl 4 rfl) ?_
          refine f_calli X hh (c_stepCost l G (st := st) (i := i) (j := j) hB hM (by omega) c_2 (by omega) (by omega)) mf_yX1_stepCost ki_yX1_stepCost kl_yX1_stepCost km_X1_101 (sh_85 G _) (by decide) rfl rfl hl.1 [] rfl (Nat.le_of_ble_eq_true rfl) ⟨by decide, by decide⟩ ⟨Nat.zero_le _, Nat.zero_le _⟩ dX1_leastStepFrom_43 (fun r τ H locs hq hh => ?_)
          obtain ⟨rfl, hτ⟩ := hq
          rw [hτ] at hh
          clear hτ
          refine lv_iload X.x X.b dX1_leastStepFrom_46 (lv_at hl 0 rfl) ?_
          refine f_iadd X (z := nI (cst I st i j + (TT I (i + di st) (j + dj st)).1)) (nI_add (cst I st i j) ((TT I (i + di st) (j + dj st)).1)) dX1_leastStepFrom_48 ?_
          refine lv_aload_n X.x X.b dX1_leastStepFrom_49 rfl (lv_at hl 2 rfl) ?_
          refine f_get X hh (v := .ref (gad G 90)) (sh_85 G _) (by decide) rfl in_X1 3 (by decide) kf_X1_29 rfl dX1_leastStepFrom_50 ?_
          refine lv_iload_n X.x X.b dX1_leastStepFrom_53 rfl (lv_at hl 3 rfl) ?_
          refine f_aald X hh (j := i) 4 (sh_90 G _) rfl rfl (by decide) rfl (by omega) (by decide) dX1_leastStepFrom_54 ?_
          refine lv_iload_n X.x X.b dX1_leastStepFrom_55 rfl (lv_at hl 4 rfl) ?_
          refine f_ialdx X hh (j := j) (y := nI ((TT I i j).1)) (sh_in G (q := 0) (i := i) (by omega) (by omega) _) (by omega) rfl (by omega) (by decide) (hW _ _ hd) dX1_leastStepFrom_56 ?_
          refine lv_icmp_ne (tgt := 62) X.x X.b dX1_leastStepFrom_57 (by decide) (fun c_4 => ?_) (fun c_4 => ?_)
          · have c_4 : ¬ (cst I st i j + (TT I (i + di st) (j + dj st)).1) = ((TT I i j).1) := fun q9 => c_4 ((nI_eq (a := (cst I st i j + (TT I (i + di st) (j + dj st)).1)) (b := ((TT I i j).1)) (by omega) (by omega)).mpr q9)
            refine lv_iinc (v := nI (st + 1)) (lv' := [(3, .int (nI (st + 1))), (4, .int (nI ((TT I (i + di st) (j + dj st)).1))), (0, .ref (gad G 85)), (1, .int (nI i)), (2, .int (nI j))]) X.x X.b dX1_leastStepFrom_62 hl (k := 1) rfl (nI_1 st) (by decide) rfl (fun ls hl => ?_)
            refine lv_goto (tgt := 2) X.x X.b dX1_leastStepFrom_65 (by decide) ?_
            refine ih (3 - (st + 1)) (by omega) (st + 1) (fun k9 hk9 => ?_) rfl (by omega) ls H locs (lv_sub hl [0, 2, 3, 4] rfl) hh
            by_cases e9 : k9 = st
            · subst e9; simp [nxok, c_2]; omega
            · exact hb k9 (by omega)
          · have c_4 : (cst I st i j + (TT I (i + di st) (j + dj st)).1) = ((TT I i j).1) := (nI_eq (a := (cst I st i j + (TT I (i + di st) (j + dj st)).1)) (b := ((TT I i j).1)) (by omega) (by omega)).mp c_4
            refine lv_iload_n X.x X.b dX1_leastStepFrom_60 rfl (lv_at hl 1 rfl) ?_
            exact f_iret X hh ⟨by rw [snx_i (st := st) (by omega) (by simp [nxok, c_2]; omega) hb]; rfl, rfl⟩ dX1_leastStepFrom_61
        · rw [show (if can I st i j = true then (1 : Int32) else 0) = 0 from if_neg c_2]
          refine lv_if_eq (tgt := 62) X.x X.b dX1_leastStepFrom_14 (by decide) (fun _ => ?_) (fun h9 => absurd (show _ by decide) h9)
          refine lv_iinc (v := nI (st + 1)) (lv' := [(3, .int (nI (st + 1))), (0, .ref (gad G 85)), (1, .int (nI i)), (2, .int (nI j))]) X.x X.b dX1_leastStepFrom_62 hl (k := 0) rfl (nI_1 st) (by decide) rfl (fun ls hl => ?_)
          refine lv_goto (tgt := 2) X.x X.b dX1_leastStepFrom_65 (by decide) ?_
          refine ih (3 - (st + 1)) (by omega) (st + 1) (fun k9 hk9 => ?_) rfl (by omega) ls H locs (lv_sub hl [0, 1, 2, 3] rfl) hh
          by_cases e9 : k9 = st
          · subst e9; simp [nxok, c_2]
          · exact hb k9 (by omega)
  have hl : lv_has ls 5 [(0, .ref (gad G 85)), (1, .int (nI i)), (2, .int (nI j))] := hl
  refine lv_iconst (v := nI 0) X.x X.b dX1_leastStepFrom_0 (by decide) ?_
  refine lv_istore_n (lv' := [(3, .int (nI 0)), (0, .ref (gad G 85)), (1, .int (nI i)), (2, .int (nI j))]) X.x X.b dX1_leastStepFrom_1 rfl hl (by decide) rfl (fun ls hl => ?_)
  exact lp 3 0 (fun k9 hk9 => absurd hk9 (Nat.not_lt_zero _)) rfl (by omega) ls H locs (lv_sub hl [0, 1, 2, 3] rfl) hh
