/-! the loom: small methods -/
def LM (σ : Mem) (I : LI) : Prop := RW σ 21 (iN I) (iW I) (iZ I) ∧ RW σ 22 (iM I) (iV I) (iQ I) ∧ ∀ k, k < 4 → σ 86 k = nI (iU I k)
def Frl (σ τ : Mem) : Prop := ∀ k, k / 3 ≠ 21 → k / 3 ≠ 22 → k ≠ 86 → τ k = σ k
theorem Frr.l21 {σ τ : Mem} (h : Frr 21 σ τ) : Frl σ τ := fun k a _ _ => h k a
theorem Frr.l22 {σ τ : Mem} (h : Frr 22 σ τ) : Frl σ τ := fun k _ a _ => h k a
theorem Frl.tr {σ τ υ : Mem} (h : Frl σ τ) (g : Frl τ υ) : Frl σ υ := fun k a b c => (g k a b c).trans (h k a b c)
theorem LM.keep {σ τ : Mem} {I : LI} (h : LM σ I) (hk : ∀ k, k / 3 = 21 ∨ k / 3 = 22 ∨ k = 86 → τ k = σ k) : LM τ I := by
  obtain ⟨⟨a1, a2, a3, a4⟩, ⟨b1, b2, b3, b4⟩, c⟩ := h
  refine ⟨⟨?_, a2, fun i hi => ?_, fun i hi => ?_⟩, ⟨?_, b2, fun i hi => ?_, fun i hi => ?_⟩, fun k h => ?_⟩
  · rw [hk _ (by omega)]; exact a1
  · rw [hk _ (by omega)]; exact a3 i hi
  · rw [hk _ (by omega)]; exact a4 i hi
  · rw [hk _ (by omega)]; exact b1
  · rw [hk _ (by omega)]; exact b3 i hi
  · rw [hk _ (by omega)]; exact b4 i hi
  · rw [hk _ (by omega)]; exact c k h
theorem abs_nI {a b : Nat} (ha : a < 2 ^ 30) (hb : b < 2 ^ 30) : (if 0 ≤ nI a - nI b then nI a - nI b else 0 - (nI a - nI b)) = nI (if a ≤ b then b - a else a - b) := by
  by_cases h : b ≤ a
  · rw [pk_sub h, if_pos (nI_pos' (by omega))]
    by_cases h2 : a ≤ b
    · rw [if_pos h2]; congr 1; omega
    · rw [if_neg h2]
  · rw [if_neg (Int32.not_le.mpr (pk_sneg hb (by omega))), if_pos (by omega), ← pk_sub (show a ≤ b by omega)]
    simp

set_option maxHeartbeats 4000000 in
set_option maxRecDepth 100000 in
theorem c_take (l : Launch) (G : GG) {σ : Mem} {i j : Nat} {N : Nat → Nat} {W Z : Nat → Nat → Nat} {U : Nat → Nat} (hi : i < 3) (hj : j < 4) (hw : BK σ 0 N W Z U) : Cv l G yX1_take cX1_take 4 3 68 [.ref (gad G 85), .ref (gad G 69), .int (nI i), .int (nI j)] σ (fun τ => LM τ ((N i, W i, Z i), (N (3 + j), W (3 + j), Z (3 + j)), U) ∧ Frl σ τ) := by
  refine Cv.of (own := RX1) (by decide) rfl (Nat.le_of_ble_eq_true rfl) (fun p e s m args below meth c ls H locs X hl hh => ?_)
  have hl : lv_has ls 4 [(0, .ref (gad G 85)), (1, .ref (gad G 69)), (2, .int (nI i)), (3, .int (nI j))] := hl
  refine lv_aload_n X.x X.b dX1_take_0 rfl (lv_at hl 0 rfl) ?_
  refine f_get X hh (v := .ref (gad G 63)) (sh_85 G _) (by decide) rfl in_X1 0 (by decide) kf_X1_14 rfl dX1_take_1 ?_
  refine lv_aload_n X.x X.b dX1_take_4 rfl (lv_at hl 1 rfl) ?_
  refine f_get X hh (v := .ref (gad G 70)) (sh_69 G _) (by decide) rfl in_X0 0 (by decide) kf_X1_54 rfl dX1_take_5 ?_
  refine lv_iload_n X.x X.b dX1_take_8 rfl (lv_at hl 2 rfl) ?_
  refine f_aald X hh (j := i) 2 (sh_70 G _) rfl rfl (by decide) rfl (by omega) (by decide) dX1_take_9 ?_
  have hs9 := hw.row (q := i) (by omega)
  refine f_callv X hh (c_copyFrom l G (r := 21) (q := 7 * 0 + i) (by omega) (by omega) (by omega) hs9 (by have := hs9.2.1; rw [room_bk (by decide) (by omega), if_pos hi] at this; exact this)) mf_yX3_copyFrom ki_yX3_copyFrom kl_yX3_copyFrom km_X1_60 (sh_63 G _) (by decide) rfl rfl hl.1 [] rfl (Nat.le_of_ble_eq_true rfl) ⟨by decide, by decide⟩ ⟨Nat.zero_le _, Nat.zero_le _⟩ dX1_take_10 (fun τ H locs hq hh => ?_)
  obtain ⟨hv1, hf1⟩ := hq
  refine lv_aload_n X.x X.b dX1_take_13 rfl (lv_at hl 0 rfl) ?_
  refine f_get X hh (v := .ref (gad G 66)) (sh_85 G _) (by decide) rfl in_X1 1 (by decide) kf_X1_20 rfl dX1_take_14 ?_
  refine lv_aload_n X.x X.b dX1_take_17 rfl (lv_at hl 1 rfl) ?_
  refine f_get X hh (v := .ref (gad G 71)) (sh_69 G _) (by decide) rfl in_X0 1 (by decide) kf_X1_64 rfl dX1_take_18 ?_
  refine lv_iload_n X.x X.b dX1_take_21 rfl (lv_at hl 3 rfl) ?_
  refine f_aald X hh (j := j) 2 (sh_71 G _) rfl rfl (by decide) rfl (by omega) (by decide) dX1_take_22 ?_
  have hs9 := (hw.row (q := 3 + j) (by omega)).keep hf1 (by omega)
  refine f_callv X hh (c_copyFrom l G (r := 22) (q := 7 * 0 + (3 + j)) (by omega) (by omega) (by omega) hs9 (by have := hs9.2.1; rw [room_bk (by decide) (by omega), if_neg (by omega)] at this; exact this)) mf_yX3_copyFrom ki_yX3_copyFrom kl_yX3_copyFrom km_X1_60 (sh_66 G _) (by decide) rfl rfl hl.1 [] rfl (Nat.le_of_ble_eq_true rfl) ⟨by decide, by decide⟩ ⟨Nat.zero_le _, Nat.zero_le _⟩ dX1_take_23 (fun τ H locs hq hh => ?_)
  obtain ⟨hv2, hf2⟩ := hq
  refine lv_aload_n X.x X.b dX1_take_26 rfl (lv_at hl 1 rfl) ?_
  refine f_get X hh (v := .ref (gad G 72)) (sh_69 G _) (by decide) rfl in_X0 2 (by decide) kf_X1_67 rfl dX1_take_27 ?_
  refine lv_iconst (v := nI 0) X.x X.b dX1_take_30 (by decide) ?_
  refine lv_aload_n X.x X.b dX1_take_31 rfl (lv_at hl 0 rfl) ?_
  refine f_get X hh (v := .ref (gad G 86)) (sh_85 G _) (by decide) rfl in_X1 2 (by decide) kf_X1_23 rfl dX1_take_32 ?_
  refine lv_iconst (v := nI 0) X.x X.b dX1_take_35 (by decide) ?_
  refine lv_iconst (v := nI 4) X.x X.b dX1_take_36 (by decide) ?_
  refine f_copy X hh (a0 := 0) (a1 := 0) (n := 4) (sh_72 G _) (fun g9 => sh_86 G g9) (by decide) (by decide) rfl rfl rfl (by decide) (by decide) (by decide) (by decide) km_X1_68 hl.1 (by decide) (Nat.le_of_ble_eq_true rfl) kx_arraycopyName ks_arraycopyName kn_J10 dX1_take_37 (fun H locs hh => ?_)
  refine f_vret X hh ?_ dX1_take_40
  refine ⟨⟨?_, ?_, fun k9 hk => ?_⟩, fun k9 h1 h2 h3 => ?_⟩
  · exact (hv1.keep hf2 (by decide)).keep (q := 28) (fun k9 hk => mrow_n (by omega)) (by decide)
  · exact hv2.keep (q := 28) (fun k9 hk => mrow_n (by omega)) (by decide)
  · rw [mrow_s, pk_cpy_in (by omega) (by omega), hf2 72 (by decide), hf1 72 (by decide), show 0 + (k9 - 0) = k9 by omega]; exact hw.2 k9 hk
  · rw [mrow_n h3, hf2 k9 h2, hf1 k9 h1]
set_option maxHeartbeats 4000000 in
set_option maxRecDepth 100000 in
theorem c_turnTune (l : Launch) (G : GG) {σ : Mem} {q n a : Nat} {w z : Nat → Nat} (hq0 : q < 21) (ha : a < n) (hw : RW σ q n w z) (hn : n ≤ 11) : Cv l G yX1_turnTune cX1_turnTune 3 2 47 [.ref (gad G 85), .ref (gad G (3 * q)), .int (nI a)] σ (fun τ => RW τ 22 n (fun i => w ((i + a) % n)) (fun i => z ((i + a) % n)) ∧ Frr 22 σ τ) := by
  refine Cv.of (own := RX1) (by decide) rfl (Nat.le_of_ble_eq_true rfl) (fun p e s m args below meth c ls H locs X hl hh => ?_)
  have hl : lv_has ls 3 [(0, .ref (gad G 85)), (1, .ref (gad G (3 * q))), (2, .int (nI a))] := hl
  refine lv_aload_n X.x X.b dX1_turnTune_0 rfl (lv_at hl 0 rfl) ?_
  refine f_get X hh (v := .ref (gad G 66)) (sh_85 G _) (by decide) rfl in_X1 1 (by decide) kf_X1_20 rfl dX1_turnTune_1 ?_
  refine f_callv X hh (c_clear l G (r := 22) (by decide)) mf_yX3_clear ki_yX3_clear kl_yX3_clear km_X1_74 (sh_66 G _) (by decide) rfl rfl hl.1 [] rfl (Nat.le_of_ble_eq_true rfl) ⟨by decide, by decide⟩ ⟨Nat.zero_le _, Nat.zero_le _⟩ dX1_turnTune_4 (fun τ H locs hq hh => ?_)
  subst hq
  have hf0 := (rw_clear (σ := σ) (r := 22)).2
  have hv0 := (rw_clear (σ := σ) (r := 22)).1
  have hw0 := hw.keep hf0 (by omega)
  refine lv_aload_n X.x X.b dX1_turnTune_7 rfl (lv_at hl 0 rfl) ?_
  refine f_get X hh (v := .ref (gad G 66)) (sh_85 G _) (by decide) rfl in_X1 1 (by decide) kf_X1_20 rfl dX1_turnTune_8 ?_
  refine lv_aload_n X.x X.b dX1_turnTune_11 rfl (lv_at hl 1 rfl) ?_
  refine lv_iload_n X.x X.b dX1_turnTune_12 rfl (lv_at hl 2 rfl) ?_
  refine lv_aload_n X.x X.b dX1_turnTune_13 rfl (lv_at hl 1 rfl) ?_
  refine f_geti X hh (x := nI n) (sh_row G (r := q) (by omega) _) (by omega) rfl in_X3 3 (by decide) kf_X1_77 rfl hw0.1 dX1_turnTune_14 ?_
  refine f_callv X hh (c_addPlaces l G (r := 22) (q := q) (a := a) (b := n) (by decide) (by omega) (by omega) hv0 hw0 (by omega) (Nat.le_refl _) (show 0 + (n - a) ≤ 11 by omega)) mf_yX3_addPlaces ki_yX3_addPlaces kl_yX3_addPlaces km_X1_80 (sh_66 G _) (by decide) rfl rfl hl.1 [] rfl (Nat.le_of_ble_eq_true rfl) ⟨by decide, by decide⟩ ⟨Nat.zero_le _, Nat.zero_le _⟩ dX1_turnTune_17 (fun τ H locs hq hh => ?_)
  obtain ⟨hv1, hf1⟩ := hq
  have hw1 := hw0.keep hf1 (by omega)
  refine lv_aload_n X.x X.b dX1_turnTune_20 rfl (lv_at hl 0 rfl) ?_
  refine f_get X hh (v := .ref (gad G 66)) (sh_85 G _) (by decide) rfl in_X1 1 (by decide) kf_X1_20 rfl dX1_turnTune_21 ?_
  refine lv_aload_n X.x X.b dX1_turnTune_24 rfl (lv_at hl 1 rfl) ?_
  refine lv_iconst (v := nI 0) X.x X.b dX1_turnTune_25 (by decide) ?_
  refine lv_iload_n X.x X.b dX1_turnTune_26 rfl (lv_at hl 2 rfl) ?_
  refine f_callv X hh (c_addPlaces l G (r := 22) (q := q) (a := 0) (b := a) (by decide) (by omega) (by omega) hv1 hw1 (by omega) (by omega) (show 0 + (n - a) + (a - 0) ≤ 11 by omega)) mf_yX3_addPlaces ki_yX3_addPlaces kl_yX3_addPlaces km_X1_80 (sh_66 G _) (by decide) rfl rfl hl.1 [] rfl (Nat.le_of_ble_eq_true rfl) ⟨by decide, by decide⟩ ⟨Nat.zero_le _, Nat.zero_le _⟩ dX1_turnTune_27 (fun τ H locs hq hh => ?_)
  obtain ⟨hv2, hf2⟩ := hq
  refine f_vret X hh ?_ dX1_turnTune_30
  refine ⟨?_, (hf0.tr hf1).tr hf2⟩
  rw [show 0 + (n - a) + (a - 0) = n by omega] at hv2
  refine hv2.ext (fun i hi => ?_) (fun i hi => ?_)
  · by_cases e9 : i < n - a
    · rw [if_pos (by omega), if_neg (by omega), Nat.mod_eq_of_lt (by omega)]; congr 1; omega
    · rw [if_neg (by omega), show (i + a) % n = i + a - n by rw [Nat.mod_eq_sub_mod (by omega), Nat.mod_eq_of_lt (by omega)]]; congr 1; omega
  · by_cases e9 : i < n - a
    · rw [if_pos (by omega), if_neg (by omega), Nat.mod_eq_of_lt (by omega)]; congr 1; omega
    · rw [if_neg (by omega), show (i + a) % n = i + a - n by rw [Nat.mod_eq_sub_mod (by omega), Nat.mod_eq_of_lt (by omega)]]; congr 1; omega
set_option maxHeartbeats 4000000 in
set_option maxRecDepth 100000 in
theorem c_stress (l : Launch) (G : GG) {σ : Mem} {n i x : Nat} {w z : Nat → Nat} (hw : RW σ 21 n w z) (hi : i < n) : Cv l G yX1_stressSyllable cX1_stressSyllable 3 1 22 [.ref (gad G 85), .int (nI i), .int (nI x)] σ (fun τ => RW τ 21 n (fun j => if j = i then x else w j) z ∧ Frr 21 σ τ) := by
  refine Cv.of (own := RX1) (by decide) rfl (Nat.le_of_ble_eq_true rfl) (fun p e s m args below meth c ls H locs X hl hh => ?_)
  have hn : n ≤ 9 := hw.2.1
  have hl : lv_has ls 3 [(0, .ref (gad G 85)), (1, .int (nI i)), (2, .int (nI x))] := hl
  refine lv_iload_n X.x X.b dX1_stressSyllable_0 rfl (lv_at hl 1 rfl) ?_
  refine lv_iconst (v := nI 0) X.x X.b dX1_stressSyllable_1 (by decide) ?_
  refine lv_aload_n X.x X.b dX1_stressSyllable_2 rfl (lv_at hl 0 rfl) ?_
  refine f_get X hh (v := .ref (gad G 63)) (sh_85 G _) (by decide) rfl in_X1 0 (by decide) kf_X1_14 rfl dX1_stressSyllable_3 ?_
  refine f_geti X hh (x := nI n) (sh_63 G _) (by decide) rfl in_X3 3 (by decide) kf_X1_77 rfl hw.1 dX1_stressSyllable_6 ?_
  refine lv_iconst (v := nI 1) X.x X.b dX1_stressSyllable_9 (by decide) ?_
  refine f_isub X (z := nI (n - 1)) (pk_sub (a := n) (b := 1) (by omega)) dX1_stressSyllable_10 ?_
  refine f_ncalli X hh (c_within l G i 0 (n - 1) (by omega) (by omega) (by omega)) mf_yX4_isWithin ks_yX4_isWithin X.2.2.2.2.2.2.2.2.2.1 rfl hl.1 [] rfl (Nat.le_of_ble_eq_true rfl) ⟨by decide, by decide⟩ ⟨Nat.zero_le _, Nat.zero_le _⟩ dX1_stressSyllable_11 (fun r τ H locs hq hh => ?_)
  obtain ⟨hr9, hτ⟩ := hq
  rw [if_pos (by omega)] at hr9
  subst hr9
  rw [hτ] at hh
  clear hτ
  refine lv_if_eq (tgt := 27) X.x X.b dX1_stressSyllable_14 (by decide) (fun h9 => absurd h9 (by decide)) (fun _ => ?_)
  refine lv_aload_n X.x X.b dX1_stressSyllable_17 rfl (lv_at hl 0 rfl) ?_
  refine f_get X hh (v := .ref (gad G 63)) (sh_85 G _) (by decide) rfl in_X1 0 (by decide) kf_X1_14 rfl dX1_stressSyllable_18 ?_
  refine f_get X hh (v := .ref (gad G 64)) (sh_63 G _) (by decide) rfl in_X3 1 (by decide) kf_X1_88 rfl dX1_stressSyllable_21 ?_
  refine lv_iload_n X.x X.b dX1_stressSyllable_24 rfl (lv_at hl 1 rfl) ?_
  refine lv_iload_n X.x X.b dX1_stressSyllable_25 rfl (lv_at hl 2 rfl) ?_
  refine f_iast X hh (j := i) (sh_64 G) (by decide) rfl (by omega) (by decide) dX1_stressSyllable_26 (fun H locs hh => ?_)
  refine f_vret X hh ?_ dX1_stressSyllable_27
  refine ⟨⟨?_, hw.2.1, fun j hj => ?_, fun j hj => ?_⟩, fun k9 hk => mset_n (by omega)⟩
  · rw [mset_n (by decide)]; exact hw.1
  · by_cases e9 : j = i
    · subst e9; show mset σ 64 j (nI x) 64 j = _; rw [mset_ss]; simp
    · show mset σ 64 i (nI x) 64 j = _; rw [mset_sn e9]; simp [e9]; exact hw.2.2.1 j hj
  · rw [mset_n (by decide)]; exact hw.2.2.2 j hj
set_option maxHeartbeats 4000000 in
set_option maxRecDepth 100000 in
theorem c_hasLaying (l : Launch) (G : GG) {σ : Mem} {I : LI} (hB : LB I) (hM : LM σ I) : Ci l G yX1_hasLaying cX1_hasLaying 1 (some .boolean) 0 0 [.ref (gad G 85)] σ (fun r τ => r = (if (iN I = 0 ↔ iM I = 0) then 1 else 0) ∧ τ = σ) := by
  refine Ci.of (own := RX1) (by decide) rfl (Nat.le_of_ble_eq_true rfl) (fun p e s m args below meth c ls H locs X hl hh => ?_)
  have hb1 := hB.1
  have hb2 := hB.2.1
  have hl : lv_has ls 1 [(0, .ref (gad G 85))] := hl
  refine lv_aload_n X.x X.b dX1_hasLaying_0 rfl (lv_at hl 0 rfl) ?_
  refine f_get X hh (v := .ref (gad G 63)) (sh_85 G _) (by decide) rfl in_X1 0 (by decide) kf_X1_14 rfl dX1_hasLaying_1 ?_
  refine f_geti X hh (x := nI (iN I)) (sh_63 G _) (by decide) rfl in_X3 3 (by decide) kf_X1_77 rfl hM.1.1 dX1_hasLaying_4 ?_
  refine lv_if_ne (tgt := 14) X.x X.b dX1_hasLaying_7 (by decide) (fun c_1 => ?_) (fun c_1 => ?_)
  · have c_1 : ¬ (iN I) = 0 := fun q9 => c_1 ((nI_eq (a := (iN I)) (b := 0) (by omega) (by omega)).mpr q9)
    refine lv_iconst (v := nI 0) X.x X.b dX1_hasLaying_14 (by decide) ?_
    refine lv_aload_n X.x X.b dX1_hasLaying_15 rfl (lv_at hl 0 rfl) ?_
    refine f_get X hh (v := .ref (gad G 66)) (sh_85 G _) (by decide) rfl in_X1 1 (by decide) kf_X1_20 rfl dX1_hasLaying_16 ?_
    refine f_geti X hh (x := nI (iM I)) (sh_66 G _) (by decide) rfl in_X3 3 (by decide) kf_X1_77 rfl hM.2.1.1 dX1_hasLaying_19 ?_
    refine lv_if_ne (tgt := 29) X.x X.b dX1_hasLaying_22 (by decide) (fun c_2 => ?_) (fun c_2 => ?_)
    · have c_2 : ¬ (iM I) = 0 := fun q9 => c_2 ((nI_eq (a := (iM I)) (b := 0) (by omega) (by omega)).mpr q9)
      refine lv_iconst (v := nI 0) X.x X.b dX1_hasLaying_29 (by decide) ?_
      refine lv_icmp_ne (tgt := 37) X.x X.b dX1_hasLaying_30 (by decide) (fun h9 => absurd (show _ by decide) h9) (fun _ => ?_)
      refine lv_iconst (v := nI 1) X.x X.b dX1_hasLaying_33 (by decide) ?_
      refine lv_goto (tgt := 38) X.x X.b dX1_hasLaying_34 (by decide) ?_
      exact f_zret X hh rfl ⟨by first | (rw [if_pos (by omega)]; rfl) | (rw [if_neg (by omega)]; rfl), rfl⟩ dX1_hasLaying_38
    · have c_2 : (iM I) = 0 := (nI_eq (a := (iM I)) (b := 0) (by omega) (by omega)).mp c_2
      refine lv_iconst (v := nI 1) X.x X.b dX1_hasLaying_25 (by decide) ?_
      refine lv_goto (tgt := 30) X.x X.b dX1_hasLaying_26 (by decide) ?_
      refine lv_icmp_ne (tgt := 37) X.x X.b dX1_hasLaying_30 (by decide) (fun _ => ?_) (fun h9 => absurd h9 (by decide))
      refine lv_iconst (v := nI 0) X.x X.b dX1_hasLaying_37 (by decide) ?_
      exact f_zret X hh rfl ⟨by first | (rw [if_pos (by omega)]; rfl) | (rw [if_neg (by omega)]; rfl), rfl⟩ dX1_hasLaying_38
  · have c_1 : (iN I) = 0 := (nI_eq (a := (iN I)) (b := 0) (by omega) (by omega)).mp c_1
    refine lv_iconst (v := nI 1) X.x X.b dX1_hasLaying_10 (by decide) ?_
    refine lv_goto (tgt := 15) X.x X.b dX1_hasLaying_11 (by decide) ?_
    refine lv_aload_n X.x X.b dX1_hasLaying_15 rfl (lv_at hl 0 rfl) ?_
    refine f_get X hh (v := .ref (gad G 66)) (sh_85 G _) (by decide) rfl in_X1 1 (by decide) kf_X1_20 rfl dX1_hasLaying_16 ?_
    refine f_geti X hh (x := nI (iM I)) (sh_66 G _) (by decide) rfl in_X3 3 (by decide) kf_X1_77 rfl hM.2.1.1 dX1_hasLaying_19 ?_
    refine lv_if_ne (tgt := 29) X.x X.b dX1_hasLaying_22 (by decide) (fun c_5 => ?_) (fun c_5 => ?_)
    · have c_5 : ¬ (iM I) = 0 := fun q9 => c_5 ((nI_eq (a := (iM I)) (b := 0) (by omega) (by omega)).mpr q9)
      refine lv_iconst (v := nI 0) X.x X.b dX1_hasLaying_29 (by decide) ?_
      refine lv_icmp_ne (tgt := 37) X.x X.b dX1_hasLaying_30 (by decide) (fun _ => ?_) (fun h9 => absurd h9 (by decide))
      refine lv_iconst (v := nI 0) X.x X.b dX1_hasLaying_37 (by decide) ?_
      exact f_zret X hh rfl ⟨by first | (rw [if_pos (by omega)]; rfl) | (rw [if_neg (by omega)]; rfl), rfl⟩ dX1_hasLaying_38
    · have c_5 : (iM I) = 0 := (nI_eq (a := (iM I)) (b := 0) (by omega) (by omega)).mp c_5
      refine lv_iconst (v := nI 1) X.x X.b dX1_hasLaying_25 (by decide) ?_
      refine lv_goto (tgt := 30) X.x X.b dX1_hasLaying_26 (by decide) ?_
      refine lv_icmp_ne (tgt := 37) X.x X.b dX1_hasLaying_30 (by decide) (fun h9 => absurd (show _ by decide) h9) (fun _ => ?_)
      refine lv_iconst (v := nI 1) X.x X.b dX1_hasLaying_33 (by decide) ?_
      refine lv_goto (tgt := 38) X.x X.b dX1_hasLaying_34 (by decide) ?_
      exact f_zret X hh rfl ⟨by first | (rw [if_pos (by omega)]; rfl) | (rw [if_neg (by omega)]; rfl), rfl⟩ dX1_hasLaying_38
set_option maxHeartbeats 4000000 in
set_option maxRecDepth 100000 in
theorem c_isEnd (l : Launch) (G : GG) {σ : Mem} {I : LI} {i j : Nat} (hB : LB I) (hM : LM σ I) (hi : i ≤ iN I) (hj : j ≤ iM I) : Ci l G yX1_isEnd cX1_isEnd 3 (some .boolean) 0 0 [.ref (gad G 85), .int (nI i), .int (nI j)] σ (fun r τ => r = (if i = iN I ∧ j = iM I then 1 else 0) ∧ τ = σ) := by
  refine Ci.of (own := RX1) (by decide) rfl (Nat.le_of_ble_eq_true rfl) (fun p e s m args below meth c ls H locs X hl hh => ?_)
  have hb1 := hB.1
  have hb2 := hB.2.1
  have hl : lv_has ls 3 [(0, .ref (gad G 85)), (1, .int (nI i)), (2, .int (nI j))] := hl
  refine lv_iload_n X.x X.b dX1_isEnd_0 rfl (lv_at hl 1 rfl) ?_
  refine lv_aload_n X.x X.b dX1_isEnd_1 rfl (lv_at hl 0 rfl) ?_
  refine f_get X hh (v := .ref (gad G 63)) (sh_85 G _) (by decide) rfl in_X1 0 (by decide) kf_X1_14 rfl dX1_isEnd_2 ?_
  refine f_geti X hh (x := nI (iN I)) (sh_63 G _) (by decide) rfl in_X3 3 (by decide) kf_X1_77 rfl hM.1.1 dX1_isEnd_5 ?_
  refine lv_icmp_ne (tgt := 26) X.x X.b dX1_isEnd_8 (by decide) (fun c_1 => ?_) (fun c_1 => ?_)
  · have c_1 : ¬ i = (iN I) := fun q9 => c_1 ((nI_eq (a := i) (b := (iN I)) (by omega) (by omega)).mpr q9)
    refine lv_iconst (v := nI 0) X.x X.b dX1_isEnd_26 (by decide) ?_
    exact f_zret X hh rfl ⟨by first | (rw [if_pos (by omega)]; rfl) | (rw [if_neg (by omega)]; rfl), rfl⟩ dX1_isEnd_27
  · have c_1 : i = (iN I) := (nI_eq (a := i) (b := (iN I)) (by omega) (by omega)).mp c_1
    refine lv_iload_n X.x X.b dX1_isEnd_11 rfl (lv_at hl 2 rfl) ?_
    refine lv_aload_n X.x X.b dX1_isEnd_12 rfl (lv_at hl 0 rfl) ?_
    refine f_get X hh (v := .ref (gad G 66)) (sh_85 G _) (by decide) rfl in_X1 1 (by decide) kf_X1_20 rfl dX1_isEnd_13 ?_
    refine f_geti X hh (x := nI (iM I)) (sh_66 G _) (by decide) rfl in_X3 3 (by decide) kf_X1_77 rfl hM.2.1.1 dX1_isEnd_16 ?_
    refine lv_icmp_ne (tgt := 26) X.x X.b dX1_isEnd_19 (by decide) (fun c_2 => ?_) (fun c_2 => ?_)
    · have c_2 : ¬ j = (iM I) := fun q9 => c_2 ((nI_eq (a := j) (b := (iM I)) (by omega) (by omega)).mpr q9)
      refine lv_iconst (v := nI 0) X.x X.b dX1_isEnd_26 (by decide) ?_
      exact f_zret X hh rfl ⟨by first | (rw [if_pos (by omega)]; rfl) | (rw [if_neg (by omega)]; rfl), rfl⟩ dX1_isEnd_27
    · have c_2 : j = (iM I) := (nI_eq (a := j) (b := (iM I)) (by omega) (by omega)).mp c_2
      refine lv_iconst (v := nI 1) X.x X.b dX1_isEnd_22 (by decide) ?_
      refine lv_goto (tgt := 27) X.x X.b dX1_isEnd_23 (by decide) ?_
      exact f_zret X hh rfl ⟨by first | (rw [if_pos (by omega)]; rfl) | (rw [if_neg (by omega)]; rfl), rfl⟩ dX1_isEnd_27
set_option maxHeartbeats 4000000 in
set_option maxRecDepth 100000 in
theorem c_canStep (l : Launch) (G : GG) {σ : Mem} {I : LI} {st i j : Nat} (hB : LB I) (hM : LM σ I) (hs : st < 3) (hi : i ≤ iN I) (hj : j ≤ iM I) : Ci l G yX1_canStep cX1_canStep 4 (some .boolean) 0 0 [.ref (gad G 85), .int (nI st), .int (nI i), .int (nI j)] σ (fun r τ => r = (if can I st i j = true then 1 else 0) ∧ τ = σ) := by
  refine Ci.of (own := RX1) (by decide) rfl (Nat.le_of_ble_eq_true rfl) (fun p e s m args below meth c ls H locs X hl hh => ?_)
  have hb1 := hB.1
  have hb2 := hB.2.1
  rcases (show st = 0 ∨ st = 1 ∨ st = 2 by omega) with rfl | rfl | rfl
  · have hl : lv_has ls 4 [(0, .ref (gad G 85)), (1, .int (nI 0)), (2, .int (nI i)), (3, .int (nI j))] := hl
    refine lv_iload_n X.x X.b dX1_canStep_0 rfl (lv_at hl 1 rfl) ?_
    refine lv_tableIn (off := 27) (tgt := 28) X.x X.b dX1_canStep_1 (by decide) (by decide) (by decide +kernel) (by decide) ?_
    refine lv_iload_n X.x X.b dX1_canStep_28 rfl (lv_at hl 2 rfl) ?_
    refine lv_aload_n X.x X.b dX1_canStep_29 rfl (lv_at hl 0 rfl) ?_
    refine f_get X hh (v := .ref (gad G 63)) (sh_85 G _) (by decide) rfl in_X1 0 (by decide) kf_X1_14 rfl dX1_canStep_30 ?_
    refine f_geti X hh (x := nI (iN I)) (sh_63 G _) (by decide) rfl in_X3 3 (by decide) kf_X1_77 rfl hM.1.1 dX1_canStep_33 ?_
    refine lv_icmp_ge (tgt := 54) X.x X.b dX1_canStep_36 (by decide) (fun c_1 => ?_) (fun c_1 => ?_)
    · have c_1 : (iN I) ≤ i := (nI_leI (a := (iN I)) (b := i) (by omega) (by omega)).mp c_1
      refine lv_iconst (v := nI 0) X.x X.b dX1_canStep_54 (by decide) ?_
      exact f_zret X hh rfl ⟨by first | (rw [if_pos (can0.mpr (by omega))]; rfl) | (rw [if_neg (fun q9 => absurd (can0.mp q9) (by omega))]; rfl), rfl⟩ dX1_canStep_55
    · have c_1 : ¬ (iN I) ≤ i := fun q9 => c_1 ((nI_leI (a := (iN I)) (b := i) (by omega) (by omega)).mpr q9)
      refine lv_iload_n X.x X.b dX1_canStep_39 rfl (lv_at hl 3 rfl) ?_
      refine lv_aload_n X.x X.b dX1_canStep_40 rfl (lv_at hl 0 rfl) ?_
      refine f_get X hh (v := .ref (gad G 66)) (sh_85 G _) (by decide) rfl in_X1 1 (by decide) kf_X1_20 rfl dX1_canStep_41 ?_
      refine f_geti X hh (x := nI (iM I)) (sh_66 G _) (by decide) rfl in_X3 3 (by decide) kf_X1_77 rfl hM.2.1.1 dX1_canStep_44 ?_
      refine lv_icmp_ge (tgt := 54) X.x X.b dX1_canStep_47 (by decide) (fun c_2 => ?_) (fun c_2 => ?_)
      · have c_2 : (iM I) ≤ j := (nI_leI (a := (iM I)) (b := j) (by omega) (by omega)).mp c_2
        refine lv_iconst (v := nI 0) X.x X.b dX1_canStep_54 (by decide) ?_
        exact f_zret X hh rfl ⟨by first | (rw [if_pos (can0.mpr (by omega))]; rfl) | (rw [if_neg (fun q9 => absurd (can0.mp q9) (by omega))]; rfl), rfl⟩ dX1_canStep_55
      · have c_2 : ¬ (iM I) ≤ j := fun q9 => c_2 ((nI_leI (a := (iM I)) (b := j) (by omega) (by omega)).mpr q9)
        refine lv_iconst (v := nI 1) X.x X.b dX1_canStep_50 (by decide) ?_
        refine lv_goto (tgt := 55) X.x X.b dX1_canStep_51 (by decide) ?_
        exact f_zret X hh rfl ⟨by first | (rw [if_pos (can0.mpr (by omega))]; rfl) | (rw [if_neg (fun q9 => absurd (can0.mp q9) (by omega))]; rfl), rfl⟩ dX1_canStep_55
  · have hl : lv_has ls 4 [(0, .ref (gad G 85)), (1, .int (nI 1)), (2, .int (nI i)), (3, .int (nI j))] := hl
    refine lv_iload_n X.x X.b dX1_canStep_0 rfl (lv_at hl 1 rfl) ?_
    refine lv_tableIn (off := 55) (tgt := 56) X.x X.b dX1_canStep_1 (by decide) (by decide) (by decide +kernel) (by decide) ?_
    refine lv_iload_n X.x X.b dX1_canStep_56 rfl (lv_at hl 2 rfl) ?_
    refine lv_if_le (tgt := 75) X.x X.b dX1_canStep_57 (by decide) (fun c_3 => ?_) (fun c_3 => ?_)
    · have c_3 : i ≤ 0 := (nI_leI (a := i) (b := 0) (by omega) (by omega)).mp c_3
      refine lv_iconst (v := nI 0) X.x X.b dX1_canStep_75 (by decide) ?_
      exact f_zret X hh rfl ⟨by first | (rw [if_pos (can1.mpr (by omega))]; rfl) | (rw [if_neg (fun q9 => absurd (can1.mp q9) (by omega))]; rfl), rfl⟩ dX1_canStep_76
    · have c_3 : ¬ i ≤ 0 := fun q9 => c_3 ((nI_leI (a := i) (b := 0) (by omega) (by omega)).mpr q9)
      refine lv_iload_n X.x X.b dX1_canStep_60 rfl (lv_at hl 3 rfl) ?_
      refine lv_aload_n X.x X.b dX1_canStep_61 rfl (lv_at hl 0 rfl) ?_
      refine f_get X hh (v := .ref (gad G 66)) (sh_85 G _) (by decide) rfl in_X1 1 (by decide) kf_X1_20 rfl dX1_canStep_62 ?_
      refine f_geti X hh (x := nI (iM I)) (sh_66 G _) (by decide) rfl in_X3 3 (by decide) kf_X1_77 rfl hM.2.1.1 dX1_canStep_65 ?_
      refine lv_icmp_ge (tgt := 75) X.x X.b dX1_canStep_68 (by decide) (fun c_4 => ?_) (fun c_4 => ?_)
      · have c_4 : (iM I) ≤ j := (nI_leI (a := (iM I)) (b := j) (by omega) (by omega)).mp c_4
        refine lv_iconst (v := nI 0) X.x X.b dX1_canStep_75 (by decide) ?_
        exact f_zret X hh rfl ⟨by first | (rw [if_pos (can1.mpr (by omega))]; rfl) | (rw [if_neg (fun q9 => absurd (can1.mp q9) (by omega))]; rfl), rfl⟩ dX1_canStep_76
      · have c_4 : ¬ (iM I) ≤ j := fun q9 => c_4 ((nI_leI (a := (iM I)) (b := j) (by omega) (by omega)).mpr q9)
        refine lv_iconst (v := nI 1) X.x X.b dX1_canStep_71 (by decide) ?_
        refine lv_goto (tgt := 76) X.x X.b dX1_canStep_72 (by decide) ?_
        exact f_zret X hh rfl ⟨by first | (rw [if_pos (can1.mpr (by omega))]; rfl) | (rw [if_neg (fun q9 => absurd (can1.mp q9) (by omega))]; rfl), rfl⟩ dX1_canStep_76
  · have hl : lv_has ls 4 [(0, .ref (gad G 85)), (1, .int (nI 2)), (2, .int (nI i)), (3, .int (nI j))] := hl
    refine lv_iload_n X.x X.b dX1_canStep_0 rfl (lv_at hl 1 rfl) ?_
    refine lv_tableIn (off := 76) (tgt := 77) X.x X.b dX1_canStep_1 (by decide) (by decide) (by decide +kernel) (by decide) ?_
    refine lv_iload_n X.x X.b dX1_canStep_77 rfl (lv_at hl 2 rfl) ?_
    refine lv_aload_n X.x X.b dX1_canStep_78 rfl (lv_at hl 0 rfl) ?_
    refine f_get X hh (v := .ref (gad G 63)) (sh_85 G _) (by decide) rfl in_X1 0 (by decide) kf_X1_14 rfl dX1_canStep_79 ?_
    refine f_geti X hh (x := nI (iN I)) (sh_63 G _) (by decide) rfl in_X3 3 (by decide) kf_X1_77 rfl hM.1.1 dX1_canStep_82 ?_
    refine lv_icmp_ge (tgt := 96) X.x X.b dX1_canStep_85 (by decide) (fun c_5 => ?_) (fun c_5 => ?_)
    · have c_5 : (iN I) ≤ i := (nI_leI (a := (iN I)) (b := i) (by omega) (by omega)).mp c_5
      refine lv_iconst (v := nI 0) X.x X.b dX1_canStep_96 (by decide) ?_
      exact f_zret X hh rfl ⟨by first | (rw [if_pos (can2.mpr (by omega))]; rfl) | (rw [if_neg (fun q9 => absurd (can2.mp q9) (by omega))]; rfl), rfl⟩ dX1_canStep_97
    · have c_5 : ¬ (iN I) ≤ i := fun q9 => c_5 ((nI_leI (a := (iN I)) (b := i) (by omega) (by omega)).mpr q9)
      refine lv_iload_n X.x X.b dX1_canStep_88 rfl (lv_at hl 3 rfl) ?_
      refine lv_if_le (tgt := 96) X.x X.b dX1_canStep_89 (by decide) (fun c_6 => ?_) (fun c_6 => ?_)
      · have c_6 : j ≤ 0 := (nI_leI (a := j) (b := 0) (by omega) (by omega)).mp c_6
        refine lv_iconst (v := nI 0) X.x X.b dX1_canStep_96 (by decide) ?_
        exact f_zret X hh rfl ⟨by first | (rw [if_pos (can2.mpr (by omega))]; rfl) | (rw [if_neg (fun q9 => absurd (can2.mp q9) (by omega))]; rfl), rfl⟩ dX1_canStep_97
      · have c_6 : ¬ j ≤ 0 := fun q9 => c_6 ((nI_leI (a := j) (b := 0) (by omega) (by omega)).mpr q9)
        refine lv_iconst (v := nI 1) X.x X.b dX1_canStep_92 (by decide) ?_
        refine lv_goto (tgt := 97) X.x X.b dX1_canStep_93 (by decide) ?_
        exact f_zret X hh rfl ⟨by first | (rw [if_pos (can2.mpr (by omega))]; rfl) | (rw [if_neg (fun q9 => absurd (can2.mp q9) (by omega))]; rfl), rfl⟩ dX1_canStep_97
set_option maxHeartbeats 4000000 in
set_option maxRecDepth 100000 in
theorem c_stepCost (l : Launch) (G : GG) {σ : Mem} {I : LI} {st i j : Nat} (hB : LB I) (hM : LM σ I) (hs : st < 3) (hc : can I st i j = true) (hi : i ≤ iN I) (hj : j ≤ iM I) : Ci l G yX1_stepCost cX1_stepCost 7 (some .int) 1 22 [.ref (gad G 85), .int (nI st), .int (nI i), .int (nI j)] σ (fun r τ => r = nI (cst I st i j) ∧ τ = σ) := by
  refine Ci.of (own := RX1) (by decide) rfl (Nat.le_of_ble_eq_true rfl) (fun p e s m args below meth c ls H locs X hl hh => ?_)
  have hb1 := hB.1
  have hb2 := hB.2.1
  rcases (show st = 0 ∨ st = 1 ∨ st = 2 by omega) with rfl | rfl | rfl
  · have hc2 := can0.mp hc
    have hw2 := hB.2.2.1 i (by omega)
    have hv2 := hB.2.2.2.1 j (by omega)
    have hz2 := hB.2.2.2.2.2.1 i (by omega)
    have hq2 := hB.2.2.2.2.2.2 j (by omega)
    have hl : lv_has ls 7 [(0, .ref (gad G 85)), (1, .int (nI 0)), (2, .int (nI i)), (3, .int (nI j))] := hl
    refine lv_iload_n X.x X.b dX1_stepCost_0 rfl (lv_at hl 1 rfl) ?_
    refine lv_iconst (v := nI 1) X.x X.b dX1_stepCost_1 (by decide) ?_
    refine lv_icmp_ne (tgt := 12) X.x X.b dX1_stepCost_2 (by decide) (fun _ => ?_) (fun h9 => absurd h9 (by decide))
    refine lv_iload_n X.x X.b dX1_stepCost_12 rfl (lv_at hl 1 rfl) ?_
    refine lv_if_ne (tgt := 20) X.x X.b dX1_stepCost_13 (by decide) (fun h9 => absurd (show _ by decide) h9) (fun _ => ?_)
    refine lv_iload_n X.x X.b dX1_stepCost_16 rfl (lv_at hl 3 rfl) ?_
    refine lv_goto (tgt := 23) X.x X.b dX1_stepCost_17 (by decide) ?_
    refine lv_istore (lv' := [(4, .int (nI j)), (0, .ref (gad G 85)), (1, .int (nI 0)), (2, .int (nI i)), (3, .int (nI j))]) X.x X.b dX1_stepCost_23 hl (by decide) rfl (fun ls hl => ?_)
    refine lv_aload_n X.x X.b dX1_stepCost_25 rfl (lv_at hl 1 rfl) ?_
    refine f_get X hh (v := .ref (gad G 86)) (sh_85 G _) (by decide) rfl in_X1 2 (by decide) kf_X1_23 rfl dX1_stepCost_26 ?_
    refine lv_iconst (v := nI 0) X.x X.b dX1_stepCost_29 (by decide) ?_
    refine f_ialdx X hh (j := 0) (y := nI (iU I 0)) (sh_86 G _) (by decide) rfl (by omega) (by decide) (hM.2.2 _ (by decide)) dX1_stepCost_30 ?_
    refine lv_aload_n X.x X.b dX1_stepCost_31 rfl (lv_at hl 1 rfl) ?_
    refine f_get X hh (v := .ref (gad G 63)) (sh_85 G _) (by decide) rfl in_X1 0 (by decide) kf_X1_14 rfl dX1_stepCost_32 ?_
    refine f_get X hh (v := .ref (gad G 64)) (sh_63 G _) (by decide) rfl in_X3 1 (by decide) kf_X1_88 rfl dX1_stepCost_35 ?_
    refine lv_iload_n X.x X.b dX1_stepCost_38 rfl (lv_at hl 3 rfl) ?_
    refine f_ialdx X hh (j := i) (y := nI (iW I i)) (sh_64 G _) (by decide) rfl (by omega) (by decide) (hM.1.2.2.1 _ (by omega)) dX1_stepCost_39 ?_
    refine lv_aload_n X.x X.b dX1_stepCost_40 rfl (lv_at hl 1 rfl) ?_
    refine f_get X hh (v := .ref (gad G 66)) (sh_85 G _) (by decide) rfl in_X1 1 (by decide) kf_X1_20 rfl dX1_stepCost_41 ?_
    refine f_get X hh (v := .ref (gad G 67)) (sh_66 G _) (by decide) rfl in_X3 1 (by decide) kf_X1_88 rfl dX1_stepCost_44 ?_
    refine lv_iload X.x X.b dX1_stepCost_47 (lv_at hl 0 rfl) ?_
    refine f_ialdx X hh (j := j) (y := nI (iV I j)) (sh_67 G _) (by decide) rfl (by omega) (by decide) (hM.2.1.2.2.1 _ (by omega)) dX1_stepCost_49 ?_
    refine f_isub X (z := nI (iW I i) - nI (iV I j)) rfl dX1_stepCost_50 ?_
    refine f_mabs X (z := nI ((if iW I i ≤ iV I j then iV I j - iW I i else iW I i - iV I j))) (abs_nI (by omega) (by omega)) km_X1_136 hl.1 (by decide) (Nat.le_of_ble_eq_true rfl) ⟨Nat.zero_le _, Nat.zero_le _⟩ ks_yJ9_abs_0f7a4 kn_J9 kc_yJ9_abs_0f7a4 dX1_stepCost_51 ?_
    refine f_imul X (z := nI (fitN I i j)) (pk_mul _ _) dX1_stepCost_54 ?_
    refine lv_istore (lv' := [(5, .int (nI (fitN I i j))), (4, .int (nI j)), (0, .ref (gad G 85)), (1, .int (nI 0)), (2, .int (nI i)), (3, .int (nI j))]) X.x X.b dX1_stepCost_55 hl (by decide) rfl (fun ls hl => ?_)
    refine lv_iload_n X.x X.b dX1_stepCost_57 rfl (lv_at hl 3 rfl) ?_
    refine lv_iconst (v := nI 2) X.x X.b dX1_stepCost_58 (by decide) ?_
    refine lv_icmp_ne (tgt := 72) X.x X.b dX1_stepCost_59 (by decide) (fun _ => ?_) (fun h9 => absurd h9 (by decide))
    refine lv_aload_n X.x X.b dX1_stepCost_72 rfl (lv_at hl 2 rfl) ?_
    refine f_get X hh (v := .ref (gad G 63)) (sh_85 G _) (by decide) rfl in_X1 0 (by decide) kf_X1_14 rfl dX1_stepCost_73 ?_
    refine f_get X hh (v := .ref (gad G 65)) (sh_63 G _) (by decide) rfl in_X3 2 (by decide) kf_X1_141 rfl dX1_stepCost_76 ?_
    refine lv_iload_n X.x X.b dX1_stepCost_79 rfl (lv_at hl 4 rfl) ?_
    refine f_ialdx X hh (j := i) (y := nI (iZ I i)) (sh_65 G _) (by decide) rfl (by omega) (by decide) (hM.1.2.2.2 _ (by omega)) dX1_stepCost_80 ?_
    refine lv_iconst (v := nI 1) X.x X.b dX1_stepCost_81 (by decide) ?_
    refine lv_icmp_ne (tgt := 103) X.x X.b dX1_stepCost_82 (by decide) (fun c_4 => ?_) (fun c_4 => ?_)
    · have c_4 : ¬ (iZ I i) = 1 := fun q9 => c_4 ((nI_eq (a := (iZ I i)) (b := 1) (by omega) (by omega)).mpr q9)
      refine lv_iconst (v := nI 0) X.x X.b dX1_stepCost_103 (by decide) ?_
      refine lv_istore (lv' := [(6, .int (nI 0)), (5, .int (nI (fitN I i j))), (4, .int (nI j)), (0, .ref (gad G 85)), (1, .int (nI 0)), (2, .int (nI i)), (3, .int (nI j))]) X.x X.b dX1_stepCost_104 hl (by decide) rfl (fun ls hl => ?_)
      refine lv_iload X.x X.b dX1_stepCost_106 (lv_at hl 0 rfl) ?_
      refine lv_if_eq (tgt := 123) X.x X.b dX1_stepCost_108 (by decide) (fun _ => ?_) (fun h9 => absurd (show _ by decide) h9)
      refine lv_iload X.x X.b dX1_stepCost_123 (lv_at hl 1 rfl) ?_
      exact f_iret X hh ⟨by show _ = nI (fitN I i j + (if iZ I i = 1 ∧ iQ I j = 1 then iU I 3 else 0)); first | (rw [if_pos (by omega), Nat.add_comm (iU I 3)]) | (rw [if_neg (by omega)]; rfl), rfl⟩ dX1_stepCost_125
    · have c_4 : (iZ I i) = 1 := (nI_eq (a := (iZ I i)) (b := 1) (by omega) (by omega)).mp c_4
      refine lv_aload_n X.x X.b dX1_stepCost_85 rfl (lv_at hl 2 rfl) ?_
      refine f_get X hh (v := .ref (gad G 66)) (sh_85 G _) (by decide) rfl in_X1 1 (by decide) kf_X1_20 rfl dX1_stepCost_86 ?_
      refine f_get X hh (v := .ref (gad G 68)) (sh_66 G _) (by decide) rfl in_X3 2 (by decide) kf_X1_141 rfl dX1_stepCost_89 ?_
      refine lv_iload X.x X.b dX1_stepCost_92 (lv_at hl 1 rfl) ?_
      refine f_ialdx X hh (j := j) (y := nI (iQ I j)) (sh_68 G _) (by decide) rfl (by omega) (by decide) (hM.2.1.2.2.2 _ (by omega)) dX1_stepCost_94 ?_
      refine lv_iconst (v := nI 1) X.x X.b dX1_stepCost_95 (by decide) ?_
      refine lv_icmp_ne (tgt := 103) X.x X.b dX1_stepCost_96 (by decide) (fun c_6 => ?_) (fun c_6 => ?_)
      · have c_6 : ¬ (iQ I j) = 1 := fun q9 => c_6 ((nI_eq (a := (iQ I j)) (b := 1) (by omega) (by omega)).mpr q9)
        refine lv_iconst (v := nI 0) X.x X.b dX1_stepCost_103 (by decide) ?_
        refine lv_istore (lv' := [(6, .int (nI 0)), (5, .int (nI (fitN I i j))), (4, .int (nI j)), (0, .ref (gad G 85)), (1, .int (nI 0)), (2, .int (nI i)), (3, .int (nI j))]) X.x X.b dX1_stepCost_104 hl (by decide) rfl (fun ls hl => ?_)
        refine lv_iload X.x X.b dX1_stepCost_106 (lv_at hl 0 rfl) ?_
        refine lv_if_eq (tgt := 123) X.x X.b dX1_stepCost_108 (by decide) (fun _ => ?_) (fun h9 => absurd (show _ by decide) h9)
        refine lv_iload X.x X.b dX1_stepCost_123 (lv_at hl 1 rfl) ?_
        exact f_iret X hh ⟨by show _ = nI (fitN I i j + (if iZ I i = 1 ∧ iQ I j = 1 then iU I 3 else 0)); first | (rw [if_pos (by omega), Nat.add_comm (iU I 3)]) | (rw [if_neg (by omega)]; rfl), rfl⟩ dX1_stepCost_125
      · have c_6 : (iQ I j) = 1 := (nI_eq (a := (iQ I j)) (b := 1) (by omega) (by omega)).mp c_6
        refine lv_iconst (v := nI 1) X.x X.b dX1_stepCost_99 (by decide) ?_
        refine lv_goto (tgt := 104) X.x X.b dX1_stepCost_100 (by decide) ?_
        refine lv_istore (lv' := [(6, .int (nI 1)), (5, .int (nI (fitN I i j))), (4, .int (nI j)), (0, .ref (gad G 85)), (1, .int (nI 0)), (2, .int (nI i)), (3, .int (nI j))]) X.x X.b dX1_stepCost_104 hl (by decide) rfl (fun ls hl => ?_)
        refine lv_iload X.x X.b dX1_stepCost_106 (lv_at hl 0 rfl) ?_
        refine lv_if_eq (tgt := 123) X.x X.b dX1_stepCost_108 (by decide) (fun h9 => absurd h9 (by decide)) (fun _ => ?_)
        refine lv_aload_n X.x X.b dX1_stepCost_111 rfl (lv_at hl 3 rfl) ?_
        refine f_get X hh (v := .ref (gad G 86)) (sh_85 G _) (by decide) rfl in_X1 2 (by decide) kf_X1_23 rfl dX1_stepCost_112 ?_
        refine lv_iconst (v := nI 3) X.x X.b dX1_stepCost_115 (by decide) ?_
        refine f_ialdx X hh (j := 3) (y := nI (iU I 3)) (sh_86 G _) (by decide) rfl (by omega) (by decide) (hM.2.2 _ (by decide)) dX1_stepCost_116 ?_
        refine lv_iload X.x X.b dX1_stepCost_117 (lv_at hl 1 rfl) ?_
        refine f_iadd X (z := nI (iU I 3 + fitN I i j)) (nI_add (iU I 3) (fitN I i j)) dX1_stepCost_119 ?_
        refine lv_goto (tgt := 125) X.x X.b dX1_stepCost_120 (by decide) ?_
        exact f_iret X hh ⟨by show _ = nI (fitN I i j + (if iZ I i = 1 ∧ iQ I j = 1 then iU I 3 else 0)); first | (rw [if_pos (by omega), Nat.add_comm (iU I 3)]) | (rw [if_neg (by omega)]; rfl), rfl⟩ dX1_stepCost_125
  · have hl : lv_has ls 7 [(0, .ref (gad G 85)), (1, .int (nI 1)), (2, .int (nI i)), (3, .int (nI j))] := hl
    refine lv_iload_n X.x X.b dX1_stepCost_0 rfl (lv_at hl 1 rfl) ?_
    refine lv_iconst (v := nI 1) X.x X.b dX1_stepCost_1 (by decide) ?_
    refine lv_icmp_ne (tgt := 12) X.x X.b dX1_stepCost_2 (by decide) (fun h9 => absurd (show _ by decide) h9) (fun _ => ?_)
    refine lv_aload_n X.x X.b dX1_stepCost_5 rfl (lv_at hl 0 rfl) ?_
    refine f_get X hh (v := .ref (gad G 86)) (sh_85 G _) (by decide) rfl in_X1 2 (by decide) kf_X1_23 rfl dX1_stepCost_6 ?_
    refine lv_iconst (v := nI 1) X.x X.b dX1_stepCost_9 (by decide) ?_
    refine f_ialdx X hh (j := 1) (y := nI (iU I 1)) (sh_86 G _) (by decide) rfl (by omega) (by decide) (hM.2.2 _ (by decide)) dX1_stepCost_10 ?_
    exact f_iret X hh ⟨rfl, rfl⟩ dX1_stepCost_11
  · have hc2 := can2.mp hc
    have hw2 := hB.2.2.1 i (by omega)
    have hv2 := hB.2.2.2.1 (j - 1) (by omega)
    have hz2 := hB.2.2.2.2.2.1 i (by omega)
    have hq2 := hB.2.2.2.2.2.2 (j - 1) (by omega)
    have hl : lv_has ls 7 [(0, .ref (gad G 85)), (1, .int (nI 2)), (2, .int (nI i)), (3, .int (nI j))] := hl
    refine lv_iload_n X.x X.b dX1_stepCost_0 rfl (lv_at hl 1 rfl) ?_
    refine lv_iconst (v := nI 1) X.x X.b dX1_stepCost_1 (by decide) ?_
    refine lv_icmp_ne (tgt := 12) X.x X.b dX1_stepCost_2 (by decide) (fun _ => ?_) (fun h9 => absurd h9 (by decide))
    refine lv_iload_n X.x X.b dX1_stepCost_12 rfl (lv_at hl 1 rfl) ?_
    refine lv_if_ne (tgt := 20) X.x X.b dX1_stepCost_13 (by decide) (fun _ => ?_) (fun h9 => absurd h9 (by decide))
    refine lv_iload_n X.x X.b dX1_stepCost_20 rfl (lv_at hl 3 rfl) ?_
    refine lv_iconst (v := nI 1) X.x X.b dX1_stepCost_21 (by decide) ?_
    refine f_isub X (z := nI (j - 1)) (pk_sub (a := j) (b := 1) (by omega)) dX1_stepCost_22 ?_
    refine lv_istore (lv' := [(4, .int (nI (j - 1))), (0, .ref (gad G 85)), (1, .int (nI 2)), (2, .int (nI i)), (3, .int (nI j))]) X.x X.b dX1_stepCost_23 hl (by decide) rfl (fun ls hl => ?_)
    refine lv_aload_n X.x X.b dX1_stepCost_25 rfl (lv_at hl 1 rfl) ?_
    refine f_get X hh (v := .ref (gad G 86)) (sh_85 G _) (by decide) rfl in_X1 2 (by decide) kf_X1_23 rfl dX1_stepCost_26 ?_
    refine lv_iconst (v := nI 0) X.x X.b dX1_stepCost_29 (by decide) ?_
    refine f_ialdx X hh (j := 0) (y := nI (iU I 0)) (sh_86 G _) (by decide) rfl (by omega) (by decide) (hM.2.2 _ (by decide)) dX1_stepCost_30 ?_
    refine lv_aload_n X.x X.b dX1_stepCost_31 rfl (lv_at hl 1 rfl) ?_
    refine f_get X hh (v := .ref (gad G 63)) (sh_85 G _) (by decide) rfl in_X1 0 (by decide) kf_X1_14 rfl dX1_stepCost_32 ?_
    refine f_get X hh (v := .ref (gad G 64)) (sh_63 G _) (by decide) rfl in_X3 1 (by decide) kf_X1_88 rfl dX1_stepCost_35 ?_
    refine lv_iload_n X.x X.b dX1_stepCost_38 rfl (lv_at hl 3 rfl) ?_
    refine f_ialdx X hh (j := i) (y := nI (iW I i)) (sh_64 G _) (by decide) rfl (by omega) (by decide) (hM.1.2.2.1 _ (by omega)) dX1_stepCost_39 ?_
    refine lv_aload_n X.x X.b dX1_stepCost_40 rfl (lv_at hl 1 rfl) ?_
    refine f_get X hh (v := .ref (gad G 66)) (sh_85 G _) (by decide) rfl in_X1 1 (by decide) kf_X1_20 rfl dX1_stepCost_41 ?_
    refine f_get X hh (v := .ref (gad G 67)) (sh_66 G _) (by decide) rfl in_X3 1 (by decide) kf_X1_88 rfl dX1_stepCost_44 ?_
    refine lv_iload X.x X.b dX1_stepCost_47 (lv_at hl 0 rfl) ?_
    refine f_ialdx X hh (j := j - 1) (y := nI (iV I (j - 1))) (sh_67 G _) (by decide) rfl (by omega) (by decide) (hM.2.1.2.2.1 _ (by omega)) dX1_stepCost_49 ?_
    refine f_isub X (z := nI (iW I i) - nI (iV I (j - 1))) rfl dX1_stepCost_50 ?_
    refine f_mabs X (z := nI ((if iW I i ≤ iV I (j - 1) then iV I (j - 1) - iW I i else iW I i - iV I (j - 1)))) (abs_nI (by omega) (by omega)) km_X1_136 hl.1 (by decide) (Nat.le_of_ble_eq_true rfl) ⟨Nat.zero_le _, Nat.zero_le _⟩ ks_yJ9_abs_0f7a4 kn_J9 kc_yJ9_abs_0f7a4 dX1_stepCost_51 ?_
    refine f_imul X (z := nI (fitN I i (j - 1))) (pk_mul _ _) dX1_stepCost_54 ?_
    refine lv_istore (lv' := [(5, .int (nI (fitN I i (j - 1)))), (4, .int (nI (j - 1))), (0, .ref (gad G 85)), (1, .int (nI 2)), (2, .int (nI i)), (3, .int (nI j))]) X.x X.b dX1_stepCost_55 hl (by decide) rfl (fun ls hl => ?_)
    refine lv_iload_n X.x X.b dX1_stepCost_57 rfl (lv_at hl 3 rfl) ?_
    refine lv_iconst (v := nI 2) X.x X.b dX1_stepCost_58 (by decide) ?_
    refine lv_icmp_ne (tgt := 72) X.x X.b dX1_stepCost_59 (by decide) (fun h9 => absurd (show _ by decide) h9) (fun _ => ?_)
    refine lv_aload_n X.x X.b dX1_stepCost_62 rfl (lv_at hl 2 rfl) ?_
    refine f_get X hh (v := .ref (gad G 86)) (sh_85 G _) (by decide) rfl in_X1 2 (by decide) kf_X1_23 rfl dX1_stepCost_63 ?_
    refine lv_iconst (v := nI 2) X.x X.b dX1_stepCost_66 (by decide) ?_
    refine f_ialdx X hh (j := 2) (y := nI (iU I 2)) (sh_86 G _) (by decide) rfl (by omega) (by decide) (hM.2.2 _ (by decide)) dX1_stepCost_67 ?_
    refine lv_iload X.x X.b dX1_stepCost_68 (lv_at hl 0 rfl) ?_
    refine f_iadd X (z := nI (iU I 2 + fitN I i (j - 1))) (nI_add (iU I 2) (fitN I i (j - 1))) dX1_stepCost_70 ?_
    exact f_iret X hh ⟨by show _ = nI (fitN I i (j - 1) + iU I 2); rw [Nat.add_comm (iU I 2)], rfl⟩ dX1_stepCost_71
set_option maxHeartbeats 4000000 in
set_option maxRecDepth 100000 in
theorem c_isCheaper (l : Launch) (G : GG) {σ : Mem}  (x y : Int32) : Ci l G yX4_isCheaper cX4_isCheaper 2 (some .boolean) 0 0 [.int x, .int y] σ (fun r τ => r = (if x ≠ -6 ∧ (y = -6 ∨ x < y) then 1 else 0) ∧ τ = σ) := by
  refine Ci.of (own := RX4) (by decide) rfl (Nat.le_of_ble_eq_true rfl) (fun p e s m args below meth c ls H locs X hl hh => ?_)
  have hl : lv_has ls 2 [(0, .int x), (1, .int y)] := hl
  refine lv_iload_n X.x X.b dX4_isCheaper_0 rfl (lv_at hl 0 rfl) ?_
  refine lv_bipush (v := (-6)) X.x X.b dX4_isCheaper_1 (by decide) ?_
  refine lv_icmp_eq (tgt := 21) X.x X.b dX4_isCheaper_3 (by decide) (fun c_1 => ?_) (fun c_1 => ?_)
  · refine lv_iconst (v := nI 0) X.x X.b dX4_isCheaper_21 (by decide) ?_
    exact f_zret X hh rfl ⟨by first | (rw [if_pos ⟨‹_›, Or.inl ‹_›⟩]; rfl) | (rw [if_pos ⟨‹_›, Or.inr (Int32.not_le.mp ‹_›)⟩]; rfl) | (rw [if_neg (fun q9 => q9.1 ‹_›)]; rfl) | (rw [if_neg (fun q9 => q9.2.elim (fun q8 => absurd q8 ‹_›) (fun q8 => absurd q8 (Int32.not_lt.mpr ‹_›)))]; rfl), rfl⟩ dX4_isCheaper_22
  · refine lv_iload_n X.x X.b dX4_isCheaper_6 rfl (lv_at hl 1 rfl) ?_
    refine lv_bipush (v := (-6)) X.x X.b dX4_isCheaper_7 (by decide) ?_
    refine lv_icmp_eq (tgt := 17) X.x X.b dX4_isCheaper_9 (by decide) (fun c_2 => ?_) (fun c_2 => ?_)
    · refine lv_iconst (v := nI 1) X.x X.b dX4_isCheaper_17 (by decide) ?_
      refine lv_goto (tgt := 22) X.x X.b dX4_isCheaper_18 (by decide) ?_
      exact f_zret X hh rfl ⟨by first | (rw [if_pos ⟨‹_›, Or.inl ‹_›⟩]; rfl) | (rw [if_pos ⟨‹_›, Or.inr (Int32.not_le.mp ‹_›)⟩]; rfl) | (rw [if_neg (fun q9 => q9.1 ‹_›)]; rfl) | (rw [if_neg (fun q9 => q9.2.elim (fun q8 => absurd q8 ‹_›) (fun q8 => absurd q8 (Int32.not_lt.mpr ‹_›)))]; rfl), rfl⟩ dX4_isCheaper_22
    · refine lv_iload_n X.x X.b dX4_isCheaper_12 rfl (lv_at hl 0 rfl) ?_
      refine lv_iload_n X.x X.b dX4_isCheaper_13 rfl (lv_at hl 1 rfl) ?_
      refine lv_icmp_ge (tgt := 21) X.x X.b dX4_isCheaper_14 (by decide) (fun c_3 => ?_) (fun c_3 => ?_)
      · refine lv_iconst (v := nI 0) X.x X.b dX4_isCheaper_21 (by decide) ?_
        exact f_zret X hh rfl ⟨by first | (rw [if_pos ⟨‹_›, Or.inl ‹_›⟩]; rfl) | (rw [if_pos ⟨‹_›, Or.inr (Int32.not_le.mp ‹_›)⟩]; rfl) | (rw [if_neg (fun q9 => q9.1 ‹_›)]; rfl) | (rw [if_neg (fun q9 => q9.2.elim (fun q8 => absurd q8 ‹_›) (fun q8 => absurd q8 (Int32.not_lt.mpr ‹_›)))]; rfl), rfl⟩ dX4_isCheaper_22
      · refine lv_iconst (v := nI 1) X.x X.b dX4_isCheaper_17 (by decide) ?_
        refine lv_goto (tgt := 22) X.x X.b dX4_isCheaper_18 (by decide) ?_
        exact f_zret X hh rfl ⟨by first | (rw [if_pos ⟨‹_›, Or.inl ‹_›⟩]; rfl) | (rw [if_pos ⟨‹_›, Or.inr (Int32.not_le.mp ‹_›)⟩]; rfl) | (rw [if_neg (fun q9 => q9.1 ‹_›)]; rfl) | (rw [if_neg (fun q9 => q9.2.elim (fun q8 => absurd q8 ‹_›) (fun q8 => absurd q8 (Int32.not_lt.mpr ‹_›)))]; rfl), rfl⟩ dX4_isCheaper_22
