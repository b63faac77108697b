/-! rows: n places, weights w, spans z -/
def RW (σ : Mem) (r n : Nat) (w z : Nat → Nat) : Prop := σ (3 * r) 3 = nI n ∧ n ≤ roomN r ∧ (∀ i, i < n → σ (3 * r + 1) i = nI (w i)) ∧ ∀ i, i < n → σ (3 * r + 2) i = nI (z i)
/-- nothing but row r changes -/
def Frr (r : Nat) (σ τ : Mem) : Prop := ∀ k, k / 3 ≠ r → τ k = σ k
theorem room_le (r : Nat) : roomN r ≤ 11 := by unfold roomN; split <;> (try split) <;> decide
theorem room_ge (r : Nat) : 9 ≤ roomN r := by unfold roomN; split <;> (try split) <;> decide
theorem Frr.rf {r : Nat} {σ : Mem} : Frr r σ σ := fun _ _ => rfl
theorem Frr.tr {r : Nat} {σ τ υ : Mem} (h : Frr r σ τ) (g : Frr r τ υ) : Frr r σ υ := fun k hk => (g k hk).trans (h k hk)
theorem RW.keep {σ τ : Mem} {r q n : Nat} {w z : Nat → Nat} (h : RW σ r n w z) (f : Frr q σ τ) (hq : r ≠ q) : RW τ r n w z := by
  obtain ⟨h1, h2, h3, h4⟩ := h
  refine ⟨?_, h2, fun i hi => ?_, fun i hi => ?_⟩
  · rw [f _ (by omega)]; exact h1
  · rw [f _ (by omega)]; exact h3 i hi
  · rw [f _ (by omega)]; exact h4 i hi
theorem RW.ext {σ : Mem} {r n : Nat} {w z w2 z2 : Nat → Nat} (h : RW σ r n w z) (hw : ∀ i, i < n → w2 i = w i) (hz : ∀ i, i < n → z2 i = z i) : RW σ r n w2 z2 := ⟨h.1, h.2.1, fun i hi => by rw [hw i hi]; exact h.2.2.1 i hi, fun i hi => by rw [hz i hi]; exact h.2.2.2 i hi⟩
theorem rw_clear {σ : Mem} {r : Nat} : RW (mset σ (3 * r) 3 (nI 0)) r 0 (fun _ => 0) (fun _ => 0) ∧ Frr r σ (mset σ (3 * r) 3 (nI 0)) := by
  refine ⟨⟨mset_ss, Nat.zero_le _, fun i hi => absurd hi (Nat.not_lt_zero _), fun i hi => absurd hi (Nat.not_lt_zero _)⟩, fun k hk => mset_n (fun e => hk (by omega))⟩
theorem rw_add {σ : Mem} {r n a b : Nat} {w z : Nat → Nat} (h : RW σ r n w z) (hn : n < roomN r) : RW (mset (mset (mset σ (3 * r + 1) n (nI a)) (3 * r + 2) n (nI b)) (3 * r) 3 (nI (n + 1))) r (n + 1) (fun i => if i = n then a else w i) (fun i => if i = n then b else z i) ∧ Frr r σ (mset (mset (mset σ (3 * r + 1) n (nI a)) (3 * r + 2) n (nI b)) (3 * r) 3 (nI (n + 1))) := by
  obtain ⟨h1, h2, h3, h4⟩ := h
  refine ⟨⟨mset_ss, hn, fun i hi => ?_, fun i hi => ?_⟩, fun k hk => ?_⟩
  · rw [mset_n (by omega), mset_n (by omega)]
    by_cases e : i = n
    · subst e; rw [mset_ss]; simp
    · rw [mset_sn e, h3 i (by omega)]; simp [e]
  · rw [mset_n (by omega)]
    by_cases e : i = n
    · subst e; rw [mset_ss]; simp
    · rw [mset_sn e, mset_n (by omega), h4 i (by omega)]; simp [e]
  · rw [mset_n (by omega), mset_n (by omega), mset_n (by omega)]
theorem rw_len {σ : Mem} {r n : Nat} {w z : Nat → Nat} (h : RW σ r (n + 1) w z) : RW (mset σ (3 * r + 2) n (nI 1)) r (n + 1) w (fun i => if i = n then 1 else z i) ∧ Frr r σ (mset σ (3 * r + 2) n (nI 1)) := by
  obtain ⟨h1, h2, h3, h4⟩ := h
  refine ⟨⟨?_, h2, fun i hi => ?_, fun i hi => ?_⟩, fun k hk => mset_n (by omega)⟩
  · rw [mset_n (by omega)]; exact h1
  · rw [mset_n (by omega)]; exact h3 i hi
  · by_cases e : i = n
    · subst e; rw [mset_ss]; simp
    · rw [mset_sn e, h4 i hi]; simp [e]
def sumN (f : Nat → Nat) : Nat → Nat
  | 0 => 0
  | k + 1 => sumN f k + f k

set_option maxHeartbeats 4000000 in
set_option maxRecDepth 100000 in
theorem c_clear (l : Launch) (G : GG) {σ : Mem} {r : Nat} (hr : r < 23) : Cv l G yX3_clear cX3_clear 1 0 0 [.ref (gad G (3 * r))] σ (fun τ => τ = mset σ (3 * r) 3 (nI 0)) := by
  refine Cv.of (own := RX3) (by decide) rfl (Nat.le_of_ble_eq_true rfl) (fun p e s m args below meth c ls H locs X hl hh => ?_)
  have hl : lv_has ls 1 [(0, .ref (gad G (3 * r)))] := hl
  refine lv_aload_n X.x X.b dX3_clear_0 rfl (lv_at hl 0 rfl) ?_
  refine lv_iconst (v := nI 0) X.x X.b dX3_clear_1 (by decide) ?_
  refine f_put X hh (x := nI 0) (sh_row G (r := r) (by omega) _) (by omega) rfl in_X3 3 (sh_row G (r := r) (by omega) _) tyX3 tyX3_ok nmX3 (by decide) kf_X3_7 rfl (by decide +kernel) (Nat.le_of_ble_eq_true rfl) dX3_clear_2 (fun H locs hh => ?_)
  exact f_vret X hh rfl dX3_clear_5
set_option maxHeartbeats 4000000 in
set_option maxRecDepth 100000 in
theorem c_add (l : Launch) (G : GG) {σ : Mem} {r n a b : Nat} {w z : Nat → Nat} (hr : r < 23) (hw : RW σ r n w z) (hn : n < roomN r) : Cv l G yX3_add cX3_add 3 0 0 [.ref (gad G (3 * r)), .int (nI a), .int (nI b)] σ (fun τ => RW τ r (n + 1) (fun i => if i = n then a else w i) (fun i => if i = n then b else z i) ∧ Frr r σ τ) := by
  refine Cv.of (own := RX3) (by decide) rfl (Nat.le_of_ble_eq_true rfl) (fun p e s m args below meth c ls H locs X hl hh => ?_)
  have hroom := room_le r
  have hl : lv_has ls 3 [(0, .ref (gad G (3 * r))), (1, .int (nI a)), (2, .int (nI b))] := hl
  refine lv_aload_n X.x X.b dX3_add_0 rfl (lv_at hl 0 rfl) ?_
  refine f_geti X hh (x := nI n) (sh_row G (r := r) (by omega) _) (by omega) rfl in_X3 3 (by decide) kf_X3_7 rfl hw.1 dX3_add_1 ?_
  refine lv_aload_n X.x X.b dX3_add_4 rfl (lv_at hl 0 rfl) ?_
  refine f_get X hh (v := .int (nI (roomN r))) (sh_row G (r := r) (by omega) _) (by omega) rfl in_X3 0 (by decide) kf_X3_19 rfl dX3_add_5 ?_
  refine lv_icmp_ge (tgt := 41) X.x X.b dX3_add_8 (by decide) (fun h9 => absurd h9 (nI_ge hn (by omega))) (fun _ => ?_)
  refine lv_aload_n X.x X.b dX3_add_11 rfl (lv_at hl 0 rfl) ?_
  refine f_get X hh (v := .ref (gad G (3 * r + 1))) (sh_row G (r := r) (by omega) _) (by omega) rfl in_X3 1 (by decide) kf_X3_22 rfl dX3_add_12 ?_
  refine lv_aload_n X.x X.b dX3_add_15 rfl (lv_at hl 0 rfl) ?_
  refine f_geti X hh (x := nI n) (sh_row G (r := r) (by omega) _) (by omega) rfl in_X3 3 (by decide) kf_X3_7 rfl hw.1 dX3_add_16 ?_
  refine lv_iload_n X.x X.b dX3_add_19 rfl (lv_at hl 1 rfl) ?_
  refine f_iast X hh (j := n) (fun g9 => sh_rw G (r := r) (by omega) g9) (by omega) rfl (by omega) (by unfold roomN; split <;> (try split) <;> decide) dX3_add_20 (fun H locs hh => ?_)
  refine lv_aload_n X.x X.b dX3_add_21 rfl (lv_at hl 0 rfl) ?_
  refine f_get X hh (v := .ref (gad G (3 * r + 2))) (sh_row G (r := r) (by omega) _) (by omega) rfl in_X3 2 (by decide) kf_X3_26 rfl dX3_add_22 ?_
  refine lv_aload_n X.x X.b dX3_add_25 rfl (lv_at hl 0 rfl) ?_
  refine f_geti X hh (x := nI n) (sh_row G (r := r) (by omega) _) (by omega) rfl in_X3 3 (by decide) kf_X3_7 rfl (by rw [mset_n (show 3 * r ≠ 3 * r + 1 by omega)]; exact hw.1) dX3_add_26 ?_
  refine lv_iload_n X.x X.b dX3_add_29 rfl (lv_at hl 2 rfl) ?_
  refine f_iast X hh (j := n) (fun g9 => sh_rs G (r := r) (by omega) g9) (by omega) rfl (by omega) (by unfold roomN; split <;> (try split) <;> decide) dX3_add_30 (fun H locs hh => ?_)
  refine lv_aload_n X.x X.b dX3_add_31 rfl (lv_at hl 0 rfl) ?_
  refine lv_dup X.x X.b dX3_add_32 rfl ?_
  refine f_geti X hh (x := nI n) (sh_row G (r := r) (by omega) _) (by omega) rfl in_X3 3 (by decide) kf_X3_7 rfl (by rw [mset_n (show 3 * r ≠ 3 * r + 2 by omega), mset_n (show 3 * r ≠ 3 * r + 1 by omega)]; exact hw.1) dX3_add_33 ?_
  refine lv_iconst (v := nI 1) X.x X.b dX3_add_36 (by decide) ?_
  refine f_iadd X (z := nI (n + 1)) (nI_add n 1) dX3_add_37 ?_
  refine f_put X hh (x := nI (n + 1)) (sh_row G (r := r) (by omega) _) (by omega) rfl in_X3 3 (sh_row G (r := r) (by omega) _) tyX3 tyX3_ok nmX3 (by decide) kf_X3_7 rfl (by decide +kernel) (Nat.le_of_ble_eq_true rfl) dX3_add_38 (fun H locs hh => ?_)
  exact f_vret X hh (rw_add hw hn) dX3_add_41
set_option maxHeartbeats 4000000 in
set_option maxRecDepth 100000 in
theorem c_lengthenLast (l : Launch) (G : GG) {σ : Mem} {r n : Nat} {w z : Nat → Nat} (hr : r < 23) (hw : RW σ r (n + 1) w z) : Cv l G yX3_lengthenLast cX3_lengthenLast 1 0 0 [.ref (gad G (3 * r))] σ (fun τ => RW τ r (n + 1) w (fun i => if i = n then 1 else z i) ∧ Frr r σ τ) := by
  refine Cv.of (own := RX3) (by decide) rfl (Nat.le_of_ble_eq_true rfl) (fun p e s m args below meth c ls H locs X hl hh => ?_)
  have hroom := room_le r
  have hn := hw.2.1
  have hl : lv_has ls 1 [(0, .ref (gad G (3 * r)))] := hl
  refine lv_aload_n X.x X.b dX3_lengthenLast_0 rfl (lv_at hl 0 rfl) ?_
  refine f_geti X hh (x := nI (n + 1)) (sh_row G (r := r) (by omega) _) (by omega) rfl in_X3 3 (by decide) kf_X3_7 rfl hw.1 dX3_lengthenLast_1 ?_
  refine lv_if_le (tgt := 19) X.x X.b dX3_lengthenLast_4 (by decide) (fun h9 => absurd h9 (nI_nle (Nat.succ_pos n) (by omega))) (fun _ => ?_)
  refine lv_aload_n X.x X.b dX3_lengthenLast_7 rfl (lv_at hl 0 rfl) ?_
  refine f_get X hh (v := .ref (gad G (3 * r + 2))) (sh_row G (r := r) (by omega) _) (by omega) rfl in_X3 2 (by decide) kf_X3_26 rfl dX3_lengthenLast_8 ?_
  refine lv_aload_n X.x X.b dX3_lengthenLast_11 rfl (lv_at hl 0 rfl) ?_
  refine f_geti X hh (x := nI (n + 1)) (sh_row G (r := r) (by omega) _) (by omega) rfl in_X3 3 (by decide) kf_X3_7 rfl hw.1 dX3_lengthenLast_12 ?_
  refine lv_iconst (v := nI 1) X.x X.b dX3_lengthenLast_15 (by decide) ?_
  refine f_isub X (z := nI n) (nI_pred n) dX3_lengthenLast_16 ?_
  refine lv_iconst (v := nI 1) X.x X.b dX3_lengthenLast_17 (by decide) ?_
  refine f_iast X hh (j := n) (fun g9 => sh_rs G (r := r) (by omega) g9) (by omega) rfl (by omega) (by unfold roomN; split <;> (try split) <;> decide) dX3_lengthenLast_18 (fun H locs hh => ?_)
  exact f_vret X hh (rw_len hw) dX3_lengthenLast_19
set_option maxHeartbeats 4000000 in
set_option maxRecDepth 100000 in
theorem c_addPlaces (l : Launch) (G : GG) {σ : Mem} {r q n n2 a b : Nat} {w z w2 z2 : Nat → Nat} (hr : r < 23) (hq : q < 23) (hqr : q ≠ r) (hw : RW σ r n w z) (hw2 : RW σ q n2 w2 z2) (hab : a ≤ b) (hb : b ≤ n2) (hroom : n + (b - a) ≤ roomN r) : Cv l G yX3_addPlaces cX3_addPlaces 6 1 22 [.ref (gad G (3 * r)), .ref (gad G (3 * q)), .int (nI a), .int (nI b)] σ (fun τ => RW τ r (n + (b - a)) (fun i => if i < n then w i else w2 (a + (i - n))) (fun i => if i < n then z i else z2 (a + (i - n))) ∧ Frr r σ τ) := by
  refine Cv.of (own := RX3) (by decide) rfl (Nat.le_of_ble_eq_true rfl) (fun p e s m args below meth c ls H locs X hl hh => ?_)
  have hR := room_le r
  have hR2 := room_le q
  have hn2 := hw2.2.1
  have lp : ∀ (k i : Nat), b - i = k → a ≤ i → i ≤ b → ∀ (υ : Mem), RW υ r (n + (i - a)) (fun j => if j < n then w j else w2 (a + (j - n))) (fun j => if j < n then z j else z2 (a + (j - n))) → Frr r σ υ → ∀ (ls : Array Slot) (H : Heap) (locs : List Loc), lv_has ls 6 [(5, .int (nI i)), (4, .int (nI b)), (0, .ref (gad G (3 * r))), (1, .ref (gad G (3 * q))), (2, .int (nI a)), (3, .int (nI b))] → HH G s υ H locs → WV l G p e s m args below meth c 1 22 (fun τ => RW τ r (n + (b - a)) (fun i => if i < n then w i else w2 (a + (i - n))) (fun i => if i < n then z i else z2 (a + (i - n))) ∧ Frr r σ τ) H locs (F0 m 17 ls []) := by
    intro k
    induction k using Nat.strongRecOn with
    | ind k ih =>
      intro i hk ha hi υ hv hf ls H locs hl hh
      have hv2 := hw2.keep hf hqr
      refine lv_iload X.x X.b dX3_addPlaces_17 (lv_at hl 0 rfl) ?_
      refine lv_iload X.x X.b dX3_addPlaces_19 (lv_at hl 1 rfl) ?_
      refine lv_icmp_ge (tgt := 48) X.x X.b dX3_addPlaces_21 (by decide) (fun c_1 => ?_) (fun c_1 => ?_)
      · have c_1 : b ≤ i := (nI_leI (a := b) (b := i) (by omega) (by omega)).mp c_1
        exact f_vret X hh (by obtain rfl : i = b := (by omega); exact ⟨hv, hf⟩) dX3_addPlaces_48
      · have c_1 : ¬ b ≤ i := fun q9 => c_1 ((nI_leI (a := b) (b := i) (by omega) (by omega)).mpr q9)
        refine lv_aload_n X.x X.b dX3_addPlaces_24 rfl (lv_at hl 2 rfl) ?_
        refine lv_aload_n X.x X.b dX3_addPlaces_25 rfl (lv_at hl 3 rfl) ?_
        refine f_get X hh (v := .ref (gad G (3 * q + 1))) (sh_row G (r := q) (by omega) _) (by omega) rfl in_X3 1 (by decide) kf_X3_22 rfl dX3_addPlaces_26 ?_
        refine lv_iload X.x X.b dX3_addPlaces_29 (lv_at hl 0 rfl) ?_
        refine f_ialdx X hh (j := i) (y := nI (w2 i)) (sh_rw G (r := q) (by omega) _) (by omega) rfl (by omega) (by unfold roomN; split <;> (try split) <;> decide) (hv2.2.2.1 _ (by omega)) dX3_addPlaces_31 ?_
        refine lv_aload_n X.x X.b dX3_addPlaces_32 rfl (lv_at hl 3 rfl) ?_
        refine f_get X hh (v := .ref (gad G (3 * q + 2))) (sh_row G (r := q) (by omega) _) (by omega) rfl in_X3 2 (by decide) kf_X3_26 rfl dX3_addPlaces_33 ?_
        refine lv_iload X.x X.b dX3_addPlaces_36 (lv_at hl 0 rfl) ?_
        refine f_ialdx X hh (j := i) (y := nI (z2 i)) (sh_rs G (r := q) (by omega) _) (by omega) rfl (by omega) (by unfold roomN; split <;> (try split) <;> decide) (hv2.2.2.2 _ (by omega)) dX3_addPlaces_38 ?_
        refine f_callv X hh (c_add l G (a := w2 i) (b := z2 i) hr hv (by omega)) mf_yX3_add ki_yX3_add kl_yX3_add km_X3_32 (sh_row G (r := r) (by omega) _) (by omega) rfl rfl hl.1 [] rfl (Nat.le_of_ble_eq_true rfl) ⟨by decide, by decide⟩ ⟨Nat.zero_le _, Nat.zero_le _⟩ dX3_addPlaces_39 (fun τ H locs hq hh => ?_)
        obtain ⟨hv3, hf3⟩ := hq
        refine lv_iinc (v := nI (i + 1)) (lv' := [(5, .int (nI (i + 1))), (4, .int (nI b)), (0, .ref (gad G (3 * r))), (1, .ref (gad G (3 * q))), (2, .int (nI a)), (3, .int (nI b))]) X.x X.b dX3_addPlaces_42 hl (k := 0) rfl (nI_1 i) (by decide) rfl (fun ls hl => ?_)
        refine lv_goto (tgt := 17) X.x X.b dX3_addPlaces_45 (by decide) ?_
        refine ih (b - (i + 1)) (by omega) (i + 1) rfl (by omega) (by omega) _ ?_ (hf.tr hf3) ls H locs (lv_sub hl [0, 1, 2, 3, 4, 5] rfl) hh
        rw [show n + (i + 1 - a) = n + (i - a) + 1 by omega]
        refine hv3.ext (fun j hj => ?_) (fun j hj => ?_)
        · by_cases e9 : j = n + (i - a)
          · subst e9; rw [if_neg (by omega), if_pos rfl, show a + (n + (i - a) - n) = i by omega]
          · simp [e9]
        · by_cases e9 : j = n + (i - a)
          · subst e9; rw [if_neg (by omega), if_pos rfl, show a + (n + (i - a) - n) = i by omega]
          · simp [e9]
  have hl : lv_has ls 6 [(0, .ref (gad G (3 * r))), (1, .ref (gad G (3 * q))), (2, .int (nI a)), (3, .int (nI b))] := hl
  refine lv_iload_n X.x X.b dX3_addPlaces_0 rfl (lv_at hl 3 rfl) ?_
  refine lv_aload_n X.x X.b dX3_addPlaces_1 rfl (lv_at hl 1 rfl) ?_
  refine f_geti X hh (x := nI n2) (sh_row G (r := q) (by omega) _) (by omega) rfl in_X3 3 (by decide) kf_X3_7 rfl hw2.1 dX3_addPlaces_2 ?_
  refine f_mmin X (z := nI b) (if_neg (nI_nlt hb (by omega))) km_X3_29 hl.1 (by decide) (Nat.le_of_ble_eq_true rfl) ⟨Nat.zero_le _, Nat.zero_le _⟩ ks_yJ9_min_7cf53 kn_J9 kc_yJ9_min_7cf53 dX3_addPlaces_5 ?_
  refine lv_istore (lv' := [(4, .int (nI b)), (0, .ref (gad G (3 * r))), (1, .ref (gad G (3 * q))), (2, .int (nI a)), (3, .int (nI b))]) X.x X.b dX3_addPlaces_8 hl (by decide) rfl (fun ls hl => ?_)
  refine lv_iload_n X.x X.b dX3_addPlaces_10 rfl (lv_at hl 3 rfl) ?_
  refine lv_iconst (v := nI 0) X.x X.b dX3_addPlaces_11 (by decide) ?_
  refine f_mmax X (z := nI a) (if_neg (nI_nlt (Nat.zero_le a) (by omega))) km_X3_13 hl.1 (by decide) (Nat.le_of_ble_eq_true rfl) ⟨Nat.zero_le _, Nat.zero_le _⟩ ks_yJ9_max_7cf53 kn_J9 kc_yJ9_max_7cf53 dX3_addPlaces_12 ?_
  refine lv_istore (lv' := [(5, .int (nI a)), (4, .int (nI b)), (0, .ref (gad G (3 * r))), (1, .ref (gad G (3 * q))), (2, .int (nI a)), (3, .int (nI b))]) X.x X.b dX3_addPlaces_15 hl (by decide) rfl (fun ls hl => ?_)
  refine lp (b - a) a rfl (Nat.le_refl a) hab _ ?_ Frr.rf ls H locs (lv_sub hl [0, 1, 2, 3, 4, 5] rfl) hh
  rw [show n + (a - a) = n by omega]
  exact hw.ext (fun j hj => if_pos hj) (fun j hj => if_pos hj)
set_option maxHeartbeats 4000000 in
set_option maxRecDepth 100000 in
theorem c_copyFrom (l : Launch) (G : GG) {σ : Mem} {r q n2 : Nat} {w2 z2 : Nat → Nat} (hr : r < 23) (hq : q < 23) (hqr : q ≠ r) (hw2 : RW σ q n2 w2 z2) (hroom : n2 ≤ roomN r) : Cv l G yX3_copyFrom cX3_copyFrom 2 2 47 [.ref (gad G (3 * r)), .ref (gad G (3 * q))] σ (fun τ => RW τ r n2 w2 z2 ∧ Frr r σ τ) := by
  refine Cv.of (own := RX3) (by decide) rfl (Nat.le_of_ble_eq_true rfl) (fun p e s m args below meth c ls H locs X hl hh => ?_)
  have hl : lv_has ls 2 [(0, .ref (gad G (3 * r))), (1, .ref (gad G (3 * q)))] := hl
  refine lv_aload_n X.x X.b dX3_copyFrom_0 rfl (lv_at hl 0 rfl) ?_
  refine f_callv X hh (c_clear l G hr) mf_yX3_clear ki_yX3_clear kl_yX3_clear km_X3_36 (sh_row G (r := r) (by omega) _) (by omega) rfl rfl hl.1 [] rfl (Nat.le_of_ble_eq_true rfl) ⟨by decide, by decide⟩ ⟨Nat.zero_le _, Nat.zero_le _⟩ dX3_copyFrom_1 (fun τ H locs hq hh => ?_)
  subst hq
  have hf0 := (rw_clear (σ := σ) (r := r)).2
  have hv0 := (rw_clear (σ := σ) (r := r)).1
  have hv2 := hw2.keep hf0 hqr
  refine lv_aload_n X.x X.b dX3_copyFrom_4 rfl (lv_at hl 0 rfl) ?_
  refine lv_aload_n X.x X.b dX3_copyFrom_5 rfl (lv_at hl 1 rfl) ?_
  refine lv_iconst (v := nI 0) X.x X.b dX3_copyFrom_6 (by decide) ?_
  refine lv_aload_n X.x X.b dX3_copyFrom_7 rfl (lv_at hl 1 rfl) ?_
  refine f_geti X hh (x := nI n2) (sh_row G (r := q) (by omega) _) (by omega) rfl in_X3 3 (by decide) kf_X3_7 rfl hv2.1 dX3_copyFrom_8 ?_
  refine f_callv X hh (c_addPlaces l G (a := 0) (b := n2) hr hq hqr hv0 hv2 (Nat.zero_le _) (Nat.le_refl _) (by omega)) mf_yX3_addPlaces ki_yX3_addPlaces kl_yX3_addPlaces km_X3_39 (sh_row G (r := r) (by omega) _) (by omega) rfl rfl hl.1 [] rfl (Nat.le_of_ble_eq_true rfl) ⟨by decide, by decide⟩ ⟨Nat.zero_le _, Nat.zero_le _⟩ dX3_copyFrom_11 (fun τ H locs hq hh => ?_)
  obtain ⟨hv3, hf3⟩ := hq
  exact f_vret X hh ⟨(by rw [show 0 + (n2 - 0) = n2 by omega] at hv3; exact hv3.ext (fun j hj => by simp) (fun j hj => by simp)), hf0.tr hf3⟩ dX3_copyFrom_14
set_option maxHeartbeats 4000000 in
set_option maxRecDepth 100000 in
theorem c_spansInAll (l : Launch) (G : GG) {σ : Mem} {q n : Nat} {w z : Nat → Nat} (hq : q < 23) (hw : RW σ q n w z) : Ci l G yX3_spansInAll cX3_spansInAll 3 (some .int) 0 0 [.ref (gad G (3 * q))] σ (fun r τ => r = nI (sumN z n) ∧ τ = σ) := by
  refine Ci.of (own := RX3) (by decide) rfl (Nat.le_of_ble_eq_true rfl) (fun p e s m args below meth c ls H locs X hl hh => ?_)
  have hR := room_le q
  have hn := hw.2.1
  have lp : ∀ (k i : Nat), n - i = k → i ≤ n → ∀ (ls : Array Slot) (H : Heap) (locs : List Loc), lv_has ls 3 [(2, .int (nI i)), (1, .int (nI (sumN z i))), (0, .ref (gad G (3 * q)))] → HH G s σ H locs → WI l G p e s m args below meth c 0 0 (fun r τ => r = nI (sumN z n) ∧ τ = σ) H locs (F0 m 4 ls []) := by
    intro k
    induction k using Nat.strongRecOn with
    | ind k ih =>
      intro i hk hi ls H locs hl hh
      refine lv_iload_n X.x X.b dX3_spansInAll_4 rfl (lv_at hl 0 rfl) ?_
      refine lv_aload_n X.x X.b dX3_spansInAll_5 rfl (lv_at hl 2 rfl) ?_
      refine f_geti X hh (x := nI n) (sh_row G (r := q) (by omega) _) (by omega) rfl in_X3 3 (by decide) kf_X3_7 rfl hw.1 dX3_spansInAll_6 ?_
      refine lv_icmp_ge (tgt := 27) X.x X.b dX3_spansInAll_9 (by decide) (fun c_1 => ?_) (fun c_1 => ?_)
      · have c_1 : n ≤ i := (nI_leI (a := n) (b := i) (by omega) (by omega)).mp c_1
        refine lv_iload_n X.x X.b dX3_spansInAll_27 rfl (lv_at hl 1 rfl) ?_
        exact f_iret X hh ⟨by rw [show n = i by omega], rfl⟩ dX3_spansInAll_28
      · have c_1 : ¬ n ≤ i := fun q9 => c_1 ((nI_leI (a := n) (b := i) (by omega) (by omega)).mpr q9)
        refine lv_iload_n X.x X.b dX3_spansInAll_12 rfl (lv_at hl 1 rfl) ?_
        refine lv_aload_n X.x X.b dX3_spansInAll_13 rfl (lv_at hl 2 rfl) ?_
        refine f_get X hh (v := .ref (gad G (3 * q + 2))) (sh_row G (r := q) (by omega) _) (by omega) rfl in_X3 2 (by decide) kf_X3_26 rfl dX3_spansInAll_14 ?_
        refine lv_iload_n X.x X.b dX3_spansInAll_17 rfl (lv_at hl 0 rfl) ?_
        refine f_ialdx X hh (j := i) (y := nI (z i)) (sh_rs G (r := q) (by omega) _) (by omega) rfl (by omega) (by unfold roomN; split <;> (try split) <;> decide) (hw.2.2.2 _ (by omega)) dX3_spansInAll_18 ?_
        refine f_iadd X (z := nI (sumN z i + z i)) (nI_add (sumN z i) (z i)) dX3_spansInAll_19 ?_
        refine lv_istore_n (lv' := [(1, .int (nI (sumN z i + z i))), (2, .int (nI i)), (0, .ref (gad G (3 * q)))]) X.x X.b dX3_spansInAll_20 rfl hl (by decide) rfl (fun ls hl => ?_)
        refine lv_iinc (v := nI (i + 1)) (lv' := [(2, .int (nI (i + 1))), (1, .int (nI (sumN z i + z i))), (0, .ref (gad G (3 * q)))]) X.x X.b dX3_spansInAll_21 hl (k := 1) rfl (nI_1 i) (by decide) rfl (fun ls hl => ?_)
        refine lv_goto (tgt := 4) X.x X.b dX3_spansInAll_24 (by decide) ?_
        exact ih (n - (i + 1)) (by omega) (i + 1) rfl (by omega) ls H locs (lv_sub hl [0, 1, 2] rfl) hh
  have hl : lv_has ls 3 [(0, .ref (gad G (3 * q)))] := hl
  refine lv_iconst (v := nI 0) X.x X.b dX3_spansInAll_0 (by decide) ?_
  refine lv_istore_n (lv' := [(1, .int (nI 0)), (0, .ref (gad G (3 * q)))]) X.x X.b dX3_spansInAll_1 rfl hl (by decide) rfl (fun ls hl => ?_)
  refine lv_iconst (v := nI 0) X.x X.b dX3_spansInAll_2 (by decide) ?_
  refine lv_istore_n (lv' := [(2, .int (nI 0)), (1, .int (nI 0)), (0, .ref (gad G (3 * q)))]) X.x X.b dX3_spansInAll_3 rfl hl (by decide) rfl (fun ls hl => ?_)
  exact lp n 0 rfl (Nat.zero_le n) ls H locs hl hh
