/-! books: rows q < 7 (lines 0..2, tunes 3..6), rules -/
def BK (σ : Mem) (b : Nat) (N : Nat → Nat) (W Z : Nat → Nat → Nat) (U : Nat → Nat) : Prop := (∀ q, q < 7 → RW σ (7 * b + q) (N q) (W q) (Z q)) ∧ ∀ k, k < 4 → σ (69 + 4 * b + 3) k = nI (U k)
def Frb (b : Nat) (σ τ : Mem) : Prop := ∀ k, k / 21 ≠ b → k ≠ 69 + 4 * b + 3 → τ k = σ k
theorem room_bk {b q : Nat} (hb : b < 3) (hq : q < 7) : roomN (7 * b + q) = if q < 3 then 9 else 11 := by
  unfold roomN
  rw [if_neg (by omega), show (7 * b + q) % 7 = q by omega]
theorem room_bb {b a q : Nat} (hb : b < 3) (ha : a < 3) (hq : q < 7) : roomN (7 * b + q) = roomN (7 * a + q) := by rw [room_bk hb hq, room_bk ha hq]
theorem BK.row {σ : Mem} {b : Nat} {N : Nat → Nat} {W Z : Nat → Nat → Nat} {U : Nat → Nat} (h : BK σ b N W Z U) {q : Nat} (hq : q < 7) : RW σ (7 * b + q) (N q) (W q) (Z q) := h.1 q hq
theorem Frb.rf {b : Nat} {σ : Mem} : Frb b σ σ := fun _ _ _ => rfl
theorem Frb.tr {b : Nat} {σ τ υ : Mem} (h : Frb b σ τ) (g : Frb b τ υ) : Frb b σ υ := fun k a c => (g k a c).trans (h k a c)
theorem Frr.b {b q : Nat} {σ τ : Mem} (hb : b < 3) (hq : q < 7) (h : Frr (7 * b + q) σ τ) : Frb b σ τ := fun k a _ => h k (by omega)
theorem BK.keep {σ τ : Mem} {a b : Nat} {N : Nat → Nat} {W Z : Nat → Nat → Nat} {U : Nat → Nat} (h : BK σ a N W Z U) (f : Frb b σ τ) (ha : a < 3) (hb : b < 3) (hab : a ≠ b) : BK τ a N W Z U := by
  refine ⟨fun q hq => ?_, fun k hk => ?_⟩
  · obtain ⟨h1, h2, h3, h4⟩ := h.1 q hq
    refine ⟨?_, h2, fun i hi => ?_, fun i hi => ?_⟩
    · rw [f _ (by omega) (by omega)]; exact h1
    · rw [f _ (by omega) (by omega)]; exact h3 i hi
    · rw [f _ (by omega) (by omega)]; exact h4 i hi
  · rw [f _ (by omega) (by omega)]; exact h.2 k hk

set_option maxHeartbeats 4000000 in
set_option maxRecDepth 100000 in
theorem c_bookCopy (l : Launch) (G : GG) {σ : Mem} {a b : Nat} {N : Nat → Nat} {W Z : Nat → Nat → Nat} {U : Nat → Nat} (ha : a < 3) (hb : b < 3) (hab : a ≠ b) (hw : BK σ a N W Z U) : Cv l G yX0_copyFrom cX0_copyFrom 3 3 68 [.ref (gad G (69 + 4 * b)), .ref (gad G (69 + 4 * a))] σ (fun τ => BK τ b N W Z U ∧ Frb b σ τ) := by
  refine Cv.of (own := RX0) (by decide) rfl (Nat.le_of_ble_eq_true rfl) (fun p e s m args below meth c ls H locs X hl hh => ?_)
  have lp2 : ∀ (k i : Nat), 4 - i = k → i ≤ 4 → ∀ (υ : Mem), (∀ q, q < 3 + i → RW υ (7 * b + q) (N q) (W q) (Z q)) → Frb b σ υ → ∀ (ls : Array Slot) (H : Heap) (locs : List Loc), lv_has ls 3 [(2, .int (nI i)), (0, .ref (gad G (69 + 4 * b))), (1, .ref (gad G (69 + 4 * a)))] → HH G s υ H locs → WV l G p e s m args below meth c 3 68 (fun τ => BK τ b N W Z U ∧ Frb b σ τ) H locs (F0 m 30 ls []) := by
    intro km
    induction km using Nat.strongRecOn with
    | ind km ih =>
      intro i hk hi υ hv hf ls H locs hl hh
      refine lv_iload_n X.x X.b dX0_copyFrom_30 rfl (lv_at hl 0 rfl) ?_
      refine lv_iconst (v := nI 4) X.x X.b dX0_copyFrom_31 (by decide) ?_
      refine lv_icmp_ge (tgt := 56) X.x X.b dX0_copyFrom_32 (by decide) (fun c_1 => ?_) (fun c_1 => ?_)
      · have c_1 : 4 ≤ i := (nI_leI (a := 4) (b := i) (by omega) (by omega)).mp c_1
        refine lv_aload_n X.x X.b dX0_copyFrom_56 rfl (lv_at hl 2 rfl) ?_
        refine f_get X hh (v := .ref (gad G (69 + 4 * a + 3))) (sh_book G (b := a) (by omega) _) (by omega) rfl in_X0 2 (by decide) kf_X0_20 rfl dX0_copyFrom_57 ?_
        refine lv_iconst (v := nI 0) X.x X.b dX0_copyFrom_60 (by decide) ?_
        refine lv_aload_n X.x X.b dX0_copyFrom_61 rfl (lv_at hl 1 rfl) ?_
        refine f_get X hh (v := .ref (gad G (69 + 4 * b + 3))) (sh_book G (b := b) (by omega) _) (by omega) rfl in_X0 2 (by decide) kf_X0_20 rfl dX0_copyFrom_62 ?_
        refine lv_iconst (v := nI 0) X.x X.b dX0_copyFrom_65 (by decide) ?_
        refine lv_iconst (v := nI 4) X.x X.b dX0_copyFrom_66 (by decide) ?_
        refine f_copy X hh (a0 := 0) (a1 := 0) (n := 4) (sh_br G (b := a) ha _) (fun g9 => sh_br G (b := b) hb g9) (by omega) (by omega) rfl rfl rfl (by decide) (by decide) (by decide) (by decide) km_X0_31 hl.1 (by decide) (Nat.le_of_ble_eq_true rfl) kx_arraycopyName ks_arraycopyName kn_J10 dX0_copyFrom_67 (fun H locs hh => ?_)
        refine f_vret X hh ?_ dX0_copyFrom_70
        refine ⟨⟨fun q hq => ?_, fun k9 hk => ?_⟩, fun k9 h1 h2 => ?_⟩
        · obtain ⟨g1, g2, g3, g4⟩ := hv q (by omega)
          refine ⟨?_, g2, fun j hj => ?_, fun j hj => ?_⟩
          · rw [mrow_n (by omega)]; exact g1
          · rw [mrow_n (by omega)]; exact g3 j hj
          · rw [mrow_n (by omega)]; exact g4 j hj
        · rw [mrow_s, pk_cpy_in (by omega) (by omega), hf _ (by omega) (by omega), show 0 + (k9 - 0) = k9 by omega]; exact hw.2 k9 hk
        · rw [mrow_n h2]; exact hf k9 h1 h2
      · have c_1 : ¬ 4 ≤ i := fun q9 => c_1 ((nI_leI (a := 4) (b := i) (by omega) (by omega)).mpr q9)
        refine lv_aload_n X.x X.b dX0_copyFrom_35 rfl (lv_at hl 1 rfl) ?_
        refine f_get X hh (v := .ref (gad G (69 + 4 * b + 2))) (sh_book G (b := b) (by omega) _) (by omega) rfl in_X0 1 (by decide) kf_X0_17 rfl dX0_copyFrom_36 ?_
        refine lv_iload_n X.x X.b dX0_copyFrom_39 rfl (lv_at hl 0 rfl) ?_
        refine f_aald X hh (j := i) 2 (sh_bt G (b := b) (by omega) _) rfl rfl (by omega) rfl (by omega) (by decide) dX0_copyFrom_40 ?_
        refine lv_aload_n X.x X.b dX0_copyFrom_41 rfl (lv_at hl 2 rfl) ?_
        refine f_get X hh (v := .ref (gad G (69 + 4 * a + 2))) (sh_book G (b := a) (by omega) _) (by omega) rfl in_X0 1 (by decide) kf_X0_17 rfl dX0_copyFrom_42 ?_
        refine lv_iload_n X.x X.b dX0_copyFrom_45 rfl (lv_at hl 0 rfl) ?_
        refine f_aald X hh (j := i) 2 (sh_bt G (b := a) (by omega) _) rfl rfl (by omega) rfl (by omega) (by decide) dX0_copyFrom_46 ?_
        have hs9 := (hw.keep hf ha hb hab).row (q := (3 + i)) (by omega)
        refine f_callv X hh (c_copyFrom l G (r := 7 * b + (3 + i)) (q := 7 * a + (3 + i)) (by omega) (by omega) (by omega) hs9 (by rw [room_bb (a := a) hb ha (by omega)]; exact hs9.2.1)) mf_yX3_copyFrom ki_yX3_copyFrom kl_yX3_copyFrom km_X0_27 (sh_row G (r := 7 * b + (3 + i)) (by omega) _) (by omega) rfl rfl hl.1 [] rfl (Nat.le_of_ble_eq_true rfl) ⟨by decide, by decide⟩ ⟨Nat.zero_le _, Nat.zero_le _⟩ dX0_copyFrom_47 (fun τ H locs hq hh => ?_)
        obtain ⟨hv3, hf3⟩ := hq
        refine lv_iinc (v := nI (i + 1)) (lv' := [(2, .int (nI (i + 1))), (0, .ref (gad G (69 + 4 * b))), (1, .ref (gad G (69 + 4 * a)))]) X.x X.b dX0_copyFrom_50 hl (k := 0) rfl (nI_1 i) (by decide) rfl (fun ls hl => ?_)
        refine lv_goto (tgt := 30) X.x X.b dX0_copyFrom_53 (by decide) ?_
        refine ih (4 - (i + 1)) (by omega) (i + 1) rfl (by omega) _ (fun q hq => ?_) (hf.tr (hf3.b hb (by omega))) ls H locs (lv_sub hl [0, 1, 2] rfl) hh
        by_cases e9 : q = 3 + i
        · rw [e9]; exact hv3
        · exact (hv q (by omega)).keep hf3 (by omega)
  have lp1 : ∀ (k i : Nat), 3 - i = k → i ≤ 3 → ∀ (υ : Mem), (∀ q, q < i → RW υ (7 * b + q) (N q) (W q) (Z q)) → Frb b σ υ → ∀ (ls : Array Slot) (H : Heap) (locs : List Loc), lv_has ls 3 [(2, .int (nI i)), (0, .ref (gad G (69 + 4 * b))), (1, .ref (gad G (69 + 4 * a)))] → HH G s υ H locs → WV l G p e s m args below meth c 3 68 (fun τ => BK τ b N W Z U ∧ Frb b σ τ) H locs (F0 m 2 ls []) := by
    intro km
    induction km using Nat.strongRecOn with
    | ind km ih =>
      intro i hk hi υ hv hf ls H locs hl hh
      refine lv_iload_n X.x X.b dX0_copyFrom_2 rfl (lv_at hl 0 rfl) ?_
      refine lv_iconst (v := nI 3) X.x X.b dX0_copyFrom_3 (by decide) ?_
      refine lv_icmp_ge (tgt := 28) X.x X.b dX0_copyFrom_4 (by decide) (fun c_2 => ?_) (fun c_2 => ?_)
      · have c_2 : 3 ≤ i := (nI_leI (a := 3) (b := i) (by omega) (by omega)).mp c_2
        refine lv_iconst (v := nI 0) X.x X.b dX0_copyFrom_28 (by decide) ?_
        refine lv_istore_n (lv' := [(2, .int (nI 0)), (0, .ref (gad G (69 + 4 * b))), (1, .ref (gad G (69 + 4 * a)))]) X.x X.b dX0_copyFrom_29 rfl hl (by decide) rfl (fun ls hl => ?_)
        exact lp2 4 0 rfl (by omega) υ (fun q hq => hv q (by omega)) hf ls H locs (lv_sub hl [0, 1, 2] rfl) hh
      · have c_2 : ¬ 3 ≤ i := fun q9 => c_2 ((nI_leI (a := 3) (b := i) (by omega) (by omega)).mpr q9)
        refine lv_aload_n X.x X.b dX0_copyFrom_7 rfl (lv_at hl 1 rfl) ?_
        refine f_get X hh (v := .ref (gad G (69 + 4 * b + 1))) (sh_book G (b := b) (by omega) _) (by omega) rfl in_X0 0 (by decide) kf_X0_11 rfl dX0_copyFrom_8 ?_
        refine lv_iload_n X.x X.b dX0_copyFrom_11 rfl (lv_at hl 0 rfl) ?_
        refine f_aald X hh (j := i) 2 (sh_bl G (b := b) (by omega) _) rfl rfl (by omega) rfl (by omega) (by decide) dX0_copyFrom_12 ?_
        refine lv_aload_n X.x X.b dX0_copyFrom_13 rfl (lv_at hl 2 rfl) ?_
        refine f_get X hh (v := .ref (gad G (69 + 4 * a + 1))) (sh_book G (b := a) (by omega) _) (by omega) rfl in_X0 0 (by decide) kf_X0_11 rfl dX0_copyFrom_14 ?_
        refine lv_iload_n X.x X.b dX0_copyFrom_17 rfl (lv_at hl 0 rfl) ?_
        refine f_aald X hh (j := i) 2 (sh_bl G (b := a) (by omega) _) rfl rfl (by omega) rfl (by omega) (by decide) dX0_copyFrom_18 ?_
        have hs9 := (hw.keep hf ha hb hab).row (q := i) (by omega)
        refine f_callv X hh (c_copyFrom l G (r := 7 * b + i) (q := 7 * a + i) (by omega) (by omega) (by omega) hs9 (by rw [room_bb (a := a) hb ha (by omega)]; exact hs9.2.1)) mf_yX3_copyFrom ki_yX3_copyFrom kl_yX3_copyFrom km_X0_27 (sh_row G (r := 7 * b + i) (by omega) _) (by omega) rfl rfl hl.1 [] rfl (Nat.le_of_ble_eq_true rfl) ⟨by decide, by decide⟩ ⟨Nat.zero_le _, Nat.zero_le _⟩ dX0_copyFrom_19 (fun τ H locs hq hh => ?_)
        obtain ⟨hv3, hf3⟩ := hq
        refine lv_iinc (v := nI (i + 1)) (lv' := [(2, .int (nI (i + 1))), (0, .ref (gad G (69 + 4 * b))), (1, .ref (gad G (69 + 4 * a)))]) X.x X.b dX0_copyFrom_22 hl (k := 0) rfl (nI_1 i) (by decide) rfl (fun ls hl => ?_)
        refine lv_goto (tgt := 2) X.x X.b dX0_copyFrom_25 (by decide) ?_
        refine ih (3 - (i + 1)) (by omega) (i + 1) rfl (by omega) _ (fun q hq => ?_) (hf.tr (hf3.b hb (by omega))) ls H locs (lv_sub hl [0, 1, 2] rfl) hh
        by_cases e9 : q = i
        · rw [e9]; exact hv3
        · exact (hv q (by omega)).keep hf3 (by omega)
  have hl : lv_has ls 3 [(0, .ref (gad G (69 + 4 * b))), (1, .ref (gad G (69 + 4 * a)))] := hl
  refine lv_iconst (v := nI 0) X.x X.b dX0_copyFrom_0 (by decide) ?_
  refine lv_istore_n (lv' := [(2, .int (nI 0)), (0, .ref (gad G (69 + 4 * b))), (1, .ref (gad G (69 + 4 * a)))]) X.x X.b dX0_copyFrom_1 rfl hl (by decide) rfl (fun ls hl => ?_)
  exact lp1 3 0 rfl (by omega) σ (fun q hq => absurd hq (Nat.not_lt_zero _)) Frb.rf ls H locs (lv_sub hl [0, 1, 2] rfl) hh
set_option maxHeartbeats 4000000 in
set_option maxRecDepth 100000 in
theorem c_syllablesInAll (l : Launch) (G : GG) {σ : Mem} {b : Nat} {N : Nat → Nat} {W Z : Nat → Nat → Nat} {U : Nat → Nat} (hb : b < 3) (hw : BK σ b N W Z U) : Ci l G yX0_syllablesInAll cX0_syllablesInAll 3 (some .int) 0 0 [.ref (gad G (69 + 4 * b))] σ (fun r τ => r = nI (sumN (fun j => N j) 3) ∧ τ = σ) := by
  refine Ci.of (own := RX0) (by decide) rfl (Nat.le_of_ble_eq_true rfl) (fun p e s m args below meth c ls H locs X hl hh => ?_)
  have lp : ∀ (k i : Nat), 3 - i = k → i ≤ 3 → ∀ (ls : Array Slot) (H : Heap) (locs : List Loc), lv_has ls 3 [(2, .int (nI i)), (1, .int (nI (sumN (fun j => N j) i))), (0, .ref (gad G (69 + 4 * b)))] → HH G s σ H locs → WI l G p e s m args below meth c 0 0 (fun r τ => r = nI (sumN (fun j => N j) 3) ∧ τ = σ) H locs (F0 m 4 ls []) := by
    intro km
    induction km using Nat.strongRecOn with
    | ind km ih =>
      intro i hk hi ls H locs hl hh
      refine lv_iload_n X.x X.b dX0_syllablesInAll_4 rfl (lv_at hl 0 rfl) ?_
      refine lv_iconst (v := nI 3) X.x X.b dX0_syllablesInAll_5 (by decide) ?_
      refine lv_icmp_ge (tgt := 27) X.x X.b dX0_syllablesInAll_6 (by decide) (fun c_1 => ?_) (fun c_1 => ?_)
      · have c_1 : 3 ≤ i := (nI_leI (a := 3) (b := i) (by omega) (by omega)).mp c_1
        refine lv_iload_n X.x X.b dX0_syllablesInAll_27 rfl (lv_at hl 1 rfl) ?_
        exact f_iret X hh ⟨by rw [show 3 = i by omega], rfl⟩ dX0_syllablesInAll_28
      · have c_1 : ¬ 3 ≤ i := fun q9 => c_1 ((nI_leI (a := 3) (b := i) (by omega) (by omega)).mpr q9)
        refine lv_iload_n X.x X.b dX0_syllablesInAll_9 rfl (lv_at hl 1 rfl) ?_
        refine lv_aload_n X.x X.b dX0_syllablesInAll_10 rfl (lv_at hl 2 rfl) ?_
        refine f_get X hh (v := .ref (gad G (69 + 4 * b + 1))) (sh_book G (b := b) (by omega) _) (by omega) rfl in_X0 0 (by decide) kf_X0_11 rfl dX0_syllablesInAll_11 ?_
        refine lv_iload_n X.x X.b dX0_syllablesInAll_14 rfl (lv_at hl 0 rfl) ?_
        refine f_aald X hh (j := i) 2 (sh_bl G (b := b) (by omega) _) rfl rfl (by omega) rfl (by omega) (by decide) dX0_syllablesInAll_15 ?_
        refine f_geti X hh (x := nI (N i)) (sh_row G (r := 7 * b + i) (by omega) _) (by omega) rfl in_X3 3 (by decide) kf_X0_37 rfl (hw.row (q := i) (by omega)).1 dX0_syllablesInAll_16 ?_
        refine f_iadd X (z := nI (sumN (fun j => N j) i + N i)) (nI_add (sumN (fun j => N j) i) (N i)) dX0_syllablesInAll_19 ?_
        refine lv_istore_n (lv' := [(1, .int (nI (sumN (fun j => N j) i + N i))), (2, .int (nI i)), (0, .ref (gad G (69 + 4 * b)))]) X.x X.b dX0_syllablesInAll_20 rfl hl (by decide) rfl (fun ls hl => ?_)
        refine lv_iinc (v := nI (i + 1)) (lv' := [(2, .int (nI (i + 1))), (1, .int (nI (sumN (fun j => N j) i + N i))), (0, .ref (gad G (69 + 4 * b)))]) X.x X.b dX0_syllablesInAll_21 hl (k := 1) rfl (nI_1 i) (by decide) rfl (fun ls hl => ?_)
        refine lv_goto (tgt := 4) X.x X.b dX0_syllablesInAll_24 (by decide) ?_
        exact ih (3 - (i + 1)) (by omega) (i + 1) rfl (by omega) ls H locs (lv_sub hl [0, 1, 2] rfl) hh
  have hl : lv_has ls 3 [(0, .ref (gad G (69 + 4 * b)))] := hl
  refine lv_iconst (v := nI 0) X.x X.b dX0_syllablesInAll_0 (by decide) ?_
  refine lv_istore_n (lv' := [(1, .int (nI 0)), (0, .ref (gad G (69 + 4 * b)))]) X.x X.b dX0_syllablesInAll_1 rfl hl (by decide) rfl (fun ls hl => ?_)
  refine lv_iconst (v := nI 0) X.x X.b dX0_syllablesInAll_2 (by decide) ?_
  refine lv_istore_n (lv' := [(2, .int (nI 0)), (1, .int (nI 0)), (0, .ref (gad G (69 + 4 * b)))]) X.x X.b dX0_syllablesInAll_3 rfl hl (by decide) rfl (fun ls hl => ?_)
  exact lp 3 0 rfl (by omega) ls H locs (lv_sub hl [0, 1, 2] rfl) hh
set_option maxHeartbeats 4000000 in
set_option maxRecDepth 100000 in
theorem c_notesInAll (l : Launch) (G : GG) {σ : Mem} {b : Nat} {N : Nat → Nat} {W Z : Nat → Nat → Nat} {U : Nat → Nat} (hb : b < 3) (hw : BK σ b N W Z U) : Ci l G yX0_notesInAll cX0_notesInAll 3 (some .int) 0 0 [.ref (gad G (69 + 4 * b))] σ (fun r τ => r = nI (sumN (fun j => N (3 + j)) 4) ∧ τ = σ) := by
  refine Ci.of (own := RX0) (by decide) rfl (Nat.le_of_ble_eq_true rfl) (fun p e s m args below meth c ls H locs X hl hh => ?_)
  have lp : ∀ (k i : Nat), 4 - i = k → i ≤ 4 → ∀ (ls : Array Slot) (H : Heap) (locs : List Loc), lv_has ls 3 [(2, .int (nI i)), (1, .int (nI (sumN (fun j => N (3 + j)) i))), (0, .ref (gad G (69 + 4 * b)))] → HH G s σ H locs → WI l G p e s m args below meth c 0 0 (fun r τ => r = nI (sumN (fun j => N (3 + j)) 4) ∧ τ = σ) H locs (F0 m 4 ls []) := by
    intro km
    induction km using Nat.strongRecOn with
    | ind km ih =>
      intro i hk hi ls H locs hl hh
      refine lv_iload_n X.x X.b dX0_notesInAll_4 rfl (lv_at hl 0 rfl) ?_
      refine lv_iconst (v := nI 4) X.x X.b dX0_notesInAll_5 (by decide) ?_
      refine lv_icmp_ge (tgt := 27) X.x X.b dX0_notesInAll_6 (by decide) (fun c_1 => ?_) (fun c_1 => ?_)
      · have c_1 : 4 ≤ i := (nI_leI (a := 4) (b := i) (by omega) (by omega)).mp c_1
        refine lv_iload_n X.x X.b dX0_notesInAll_27 rfl (lv_at hl 1 rfl) ?_
        exact f_iret X hh ⟨by rw [show 4 = i by omega], rfl⟩ dX0_notesInAll_28
      · have c_1 : ¬ 4 ≤ i := fun q9 => c_1 ((nI_leI (a := 4) (b := i) (by omega) (by omega)).mpr q9)
        refine lv_iload_n X.x X.b dX0_notesInAll_9 rfl (lv_at hl 1 rfl) ?_
        refine lv_aload_n X.x X.b dX0_notesInAll_10 rfl (lv_at hl 2 rfl) ?_
        refine f_get X hh (v := .ref (gad G (69 + 4 * b + 2))) (sh_book G (b := b) (by omega) _) (by omega) rfl in_X0 1 (by decide) kf_X0_17 rfl dX0_notesInAll_11 ?_
        refine lv_iload_n X.x X.b dX0_notesInAll_14 rfl (lv_at hl 0 rfl) ?_
        refine f_aald X hh (j := i) 2 (sh_bt G (b := b) (by omega) _) rfl rfl (by omega) rfl (by omega) (by decide) dX0_notesInAll_15 ?_
        refine f_geti X hh (x := nI (N (3 + i))) (sh_row G (r := 7 * b + (3 + i)) (by omega) _) (by omega) rfl in_X3 3 (by decide) kf_X0_37 rfl (hw.row (q := 3 + i) (by omega)).1 dX0_notesInAll_16 ?_
        refine f_iadd X (z := nI (sumN (fun j => N (3 + j)) i + N (3 + i))) (nI_add (sumN (fun j => N (3 + j)) i) (N (3 + i))) dX0_notesInAll_19 ?_
        refine lv_istore_n (lv' := [(1, .int (nI (sumN (fun j => N (3 + j)) i + N (3 + i)))), (2, .int (nI i)), (0, .ref (gad G (69 + 4 * b)))]) X.x X.b dX0_notesInAll_20 rfl hl (by decide) rfl (fun ls hl => ?_)
        refine lv_iinc (v := nI (i + 1)) (lv' := [(2, .int (nI (i + 1))), (1, .int (nI (sumN (fun j => N (3 + j)) i + N (3 + i)))), (0, .ref (gad G (69 + 4 * b)))]) X.x X.b dX0_notesInAll_21 hl (k := 1) rfl (nI_1 i) (by decide) rfl (fun ls hl => ?_)
        refine lv_goto (tgt := 4) X.x X.b dX0_notesInAll_24 (by decide) ?_
        exact ih (4 - (i + 1)) (by omega) (i + 1) rfl (by omega) ls H locs (lv_sub hl [0, 1, 2] rfl) hh
  have hl : lv_has ls 3 [(0, .ref (gad G (69 + 4 * b)))] := hl
  refine lv_iconst (v := nI 0) X.x X.b dX0_notesInAll_0 (by decide) ?_
  refine lv_istore_n (lv' := [(1, .int (nI 0)), (0, .ref (gad G (69 + 4 * b)))]) X.x X.b dX0_notesInAll_1 rfl hl (by decide) rfl (fun ls hl => ?_)
  refine lv_iconst (v := nI 0) X.x X.b dX0_notesInAll_2 (by decide) ?_
  refine lv_istore_n (lv' := [(2, .int (nI 0)), (1, .int (nI 0)), (0, .ref (gad G (69 + 4 * b)))]) X.x X.b dX0_notesInAll_3 rfl hl (by decide) rfl (fun ls hl => ?_)
  exact lp 4 0 rfl (by omega) ls H locs (lv_sub hl [0, 1, 2] rfl) hh
set_option maxHeartbeats 4000000 in
set_option maxRecDepth 100000 in
theorem c_lengthsInAll (l : Launch) (G : GG) {σ : Mem} {b : Nat} {N : Nat → Nat} {W Z : Nat → Nat → Nat} {U : Nat → Nat} (hb : b < 3) (hw : BK σ b N W Z U) : Ci l G yX0_lengthsInAll cX0_lengthsInAll 3 (some .int) 1 22 [.ref (gad G (69 + 4 * b))] σ (fun r τ => r = nI (sumN (fun j => sumN (Z (3 + j)) (N (3 + j))) 4) ∧ τ = σ) := by
  refine Ci.of (own := RX0) (by decide) rfl (Nat.le_of_ble_eq_true rfl) (fun p e s m args below meth c ls H locs X hl hh => ?_)
  have lp : ∀ (k i : Nat), 4 - i = k → i ≤ 4 → ∀ (ls : Array Slot) (H : Heap) (locs : List Loc), lv_has ls 3 [(2, .int (nI i)), (1, .int (nI (sumN (fun j => sumN (Z (3 + j)) (N (3 + j))) i))), (0, .ref (gad G (69 + 4 * b)))] → HH G s σ H locs → WI l G p e s m args below meth c 1 22 (fun r τ => r = nI (sumN (fun j => sumN (Z (3 + j)) (N (3 + j))) 4) ∧ τ = σ) H locs (F0 m 4 ls []) := by
    intro km
    induction km using Nat.strongRecOn with
    | ind km ih =>
      intro i hk hi ls H locs hl hh
      refine lv_iload_n X.x X.b dX0_lengthsInAll_4 rfl (lv_at hl 0 rfl) ?_
      refine lv_iconst (v := nI 4) X.x X.b dX0_lengthsInAll_5 (by decide) ?_
      refine lv_icmp_ge (tgt := 27) X.x X.b dX0_lengthsInAll_6 (by decide) (fun c_1 => ?_) (fun c_1 => ?_)
      · have c_1 : 4 ≤ i := (nI_leI (a := 4) (b := i) (by omega) (by omega)).mp c_1
        refine lv_iload_n X.x X.b dX0_lengthsInAll_27 rfl (lv_at hl 1 rfl) ?_
        exact f_iret X hh ⟨by rw [show 4 = i by omega], rfl⟩ dX0_lengthsInAll_28
      · have c_1 : ¬ 4 ≤ i := fun q9 => c_1 ((nI_leI (a := 4) (b := i) (by omega) (by omega)).mpr q9)
        refine lv_iload_n X.x X.b dX0_lengthsInAll_9 rfl (lv_at hl 1 rfl) ?_
        refine lv_aload_n X.x X.b dX0_lengthsInAll_10 rfl (lv_at hl 2 rfl) ?_
        refine f_get X hh (v := .ref (gad G (69 + 4 * b + 2))) (sh_book G (b := b) (by omega) _) (by omega) rfl in_X0 1 (by decide) kf_X0_17 rfl dX0_lengthsInAll_11 ?_
        refine lv_iload_n X.x X.b dX0_lengthsInAll_14 rfl (lv_at hl 0 rfl) ?_
        refine f_aald X hh (j := i) 2 (sh_bt G (b := b) (by omega) _) rfl rfl (by omega) rfl (by omega) (by decide) dX0_lengthsInAll_15 ?_
        refine f_calli X hh (c_spansInAll l G (q := 7 * b + (3 + i)) (by omega) (hw.row (q := 3 + i) (by omega))) mf_yX3_spansInAll ki_yX3_spansInAll kl_yX3_spansInAll km_X0_41 (sh_row G (r := 7 * b + (3 + i)) (by omega) _) (by omega) rfl rfl hl.1 [.int (nI (sumN (fun j => sumN (Z (3 + j)) (N (3 + j))) i))] rfl (Nat.le_of_ble_eq_true rfl) ⟨by decide, by decide⟩ ⟨Nat.zero_le _, Nat.zero_le _⟩ dX0_lengthsInAll_16 (fun r τ H locs hq hh => ?_)
        obtain ⟨rfl, hτ⟩ := hq
        rw [hτ] at hh
        clear hτ
        refine f_iadd X (z := nI (sumN (fun j => sumN (Z (3 + j)) (N (3 + j))) i + sumN (Z (3 + i)) (N (3 + i)))) (nI_add (sumN (fun j => sumN (Z (3 + j)) (N (3 + j))) i) (sumN (Z (3 + i)) (N (3 + i)))) dX0_lengthsInAll_19 ?_
        refine lv_istore_n (lv' := [(1, .int (nI (sumN (fun j => sumN (Z (3 + j)) (N (3 + j))) i + sumN (Z (3 + i)) (N (3 + i))))), (2, .int (nI i)), (0, .ref (gad G (69 + 4 * b)))]) X.x X.b dX0_lengthsInAll_20 rfl hl (by decide) rfl (fun ls hl => ?_)
        refine lv_iinc (v := nI (i + 1)) (lv' := [(2, .int (nI (i + 1))), (1, .int (nI (sumN (fun j => sumN (Z (3 + j)) (N (3 + j))) i + sumN (Z (3 + i)) (N (3 + i))))), (0, .ref (gad G (69 + 4 * b)))]) X.x X.b dX0_lengthsInAll_21 hl (k := 1) rfl (nI_1 i) (by decide) rfl (fun ls hl => ?_)
        refine lv_goto (tgt := 4) X.x X.b dX0_lengthsInAll_24 (by decide) ?_
        exact ih (4 - (i + 1)) (by omega) (i + 1) rfl (by omega) ls H locs (lv_sub hl [0, 1, 2] rfl) hh
  have hl : lv_has ls 3 [(0, .ref (gad G (69 + 4 * b)))] := hl
  refine lv_iconst (v := nI 0) X.x X.b dX0_lengthsInAll_0 (by decide) ?_
  refine lv_istore_n (lv' := [(1, .int (nI 0)), (0, .ref (gad G (69 + 4 * b)))]) X.x X.b dX0_lengthsInAll_1 rfl hl (by decide) rfl (fun ls hl => ?_)
  refine lv_iconst (v := nI 0) X.x X.b dX0_lengthsInAll_2 (by decide) ?_
  refine lv_istore_n (lv' := [(2, .int (nI 0)), (1, .int (nI 0)), (0, .ref (gad G (69 + 4 * b)))]) X.x X.b dX0_lengthsInAll_3 rfl hl (by decide) rfl (fun ls hl => ?_)
  exact lp 4 0 rfl (by omega) ls H locs (lv_sub hl [0, 1, 2] rfl) hh
