theorem LM.turn {σ τ : Mem} {I : LI} {n : Nat} {w z : Nat → Nat} (h : LM σ I) (hr : RW τ 22 n w z) (hf : Frr 22 σ τ) : LM τ (I.1, (n, w, z), I.2.2) := ⟨h.1.keep hf (by decide), hr, fun k hk => by rw [hf _ (by decide)]; exact h.2.2 k hk⟩
theorem LM.strs {σ τ : Mem} {I : LI} {n : Nat} {w z : Nat → Nat} (h : LM σ I) (hr : RW τ 21 n w z) (hf : Frr 21 σ τ) : LM τ ((n, w, z), I.2) := ⟨hr, h.2.1.keep hf (by decide), fun k hk => by rw [hf _ (by decide)]; exact h.2.2 k hk⟩
theorem anN_s {a : AS} {i j s v : Nat} (hv : v < 3) : anN a i j (3 * s + v + 1) = if lcN (instA a i j s v) ≠ -6 ∧ ((anN a i j (3 * s + v)).2.2 = -6 ∨ lcN (instA a i j s v) < (anN a i j (3 * s + v)).2.2) then (nI s, nI v, lcN (instA a i j s v)) else anN a i j (3 * s + v) := by
  have e1 : (3 * s + v) / 3 = s := by omega
  have e2 : (3 * s + v) % 3 = v := by omega
  show (if lcN (instA a i j ((3 * s + v) / 3) ((3 * s + v) % 3)) ≠ -6 ∧ _ then (nI ((3 * s + v) / 3), nI ((3 * s + v) % 3), lcN (instA a i j ((3 * s + v) / 3) ((3 * s + v) % 3))) else _) = _
  rw [e1, e2]
  rfl
theorem nI_2 {k : Nat} (h : k < 2 ^ 31) : nI k = 2 ↔ k = 2 := nI_eq (b := 2) h (by decide)
theorem kb_or {a : AS} {k : Nat} (hk : k ≤ 1) : nI (kbit a) ||| (nI 1 <<< (nI k &&& 31)) = nI (kbit (ns_image (nI k) a)) := by
  have hb : inB (nI k) 0 1 := (inB_nI (by omega)).mpr (by omega)
  unfold ns_image
  rw [if_pos hb, ix_nI (by omega)]
  unfold kbit aK
  dsimp only
  rcases (show k = 0 ∨ k = 1 by omega) with rfl | rfl <;> by_cases h0 : a.2.2.2 0 = true <;> by_cases h1 : a.2.2.2 1 = true <;> simp [h0, h1] <;> decide
theorem kb_shr {a : AS} {k : Nat} (hk : k ≤ 1) : (nI (kbit a) >>> (nI k &&& 31)) &&& nI 1 = nI (if aK a k = true then 1 else 0) := by
  unfold kbit
  rcases (show k = 0 ∨ k = 1 by omega) with rfl | rfl
  · by_cases h0 : aK a 0 = true <;> by_cases h1 : aK a 1 = true <;> simp only [h0, h1, if_true, if_false] <;> decide
  · by_cases h0 : aK a 0 = true <;> by_cases h1 : aK a 1 = true <;> simp only [h0, h1, if_true, if_false] <;> decide
theorem RC.img {σ τ υ : Mem} {a : AS} {k : Nat} (h : RC σ a) (hk : k ≤ 1) (hb : BK τ (1 + k) (bN (aB a)) (bW (aB a)) (bZ (aB a)) (bU (aB a))) (hf : Frb (1 + k) σ τ) (he : ∀ j, j ≠ 81 → υ j = τ j) (h4 : υ 81 4 = nI (kbit (ns_image (nI k) a))) : RC υ (ns_image (nI k) a) := by
  have hi : inB (nI k) 0 1 := (inB_nI (by omega)).mpr (by omega)
  have e : ns_image (nI k) a = (a.1, aB a, (fun q => if q = k then aB a else aI a q), fun q => if q = k then true else aK a q) := by
    unfold ns_image
    rw [if_pos hi, ix_nI (by omega)]
  rw [e] at h4 ⊢
  obtain ⟨h1, h2, h3, -⟩ := h
  refine ⟨(h1.keep (hf _ (by omega) (by omega)) (hf _ (by omega) (by omega))).keep (he _ (by decide)) (he _ (by decide)), (h2.keep hf (by decide) (by omega) (by omega)).kk (fun x hx => he x (by omega)), fun q hq h9 => ?_, h4⟩
  by_cases eq : q = k
  · subst eq
    show BK υ (1 + q) (bN (if q = q then aB a else aI a q)) (bW (if q = q then aB a else aI a q)) (bZ (if q = q then aB a else aI a q)) (bU (if q = q then aB a else aI a q))
    rw [if_pos rfl]
    exact hb.kk (fun x hx => he x (by omega))
  · have h9 : (if q = k then true else aK a q) = true := h9
    rw [if_neg eq] at h9
    show BK υ (1 + q) (bN (if q = k then aB a else aI a q)) (bW (if q = k then aB a else aI a q)) (bZ (if q = k then aB a else aI a q)) (bU (if q = k then aB a else aI a q))
    rw [if_neg eq]
    exact ((h3 q hq h9).keep hf (by omega) (by omega) (by omega)).kk (fun x hx => he x (by omega))
theorem RC.rst {σ τ : Mem} {a : AS} {k : Nat} (h : RC σ a) (hk : k ≤ 1) (hb : BK τ 0 (bN (aI a k)) (bW (aI a k)) (bZ (aI a k)) (bU (aI a k))) (hf : Frb 0 σ τ) : RC τ (a.1, aI a k, a.2.2) := by
  obtain ⟨h1, h2, h3, h4⟩ := h
  refine ⟨h1.keep (hf _ (by omega) (by omega)) (hf _ (by omega) (by omega)), hb, fun q hq h9 => (h3 q hq h9).keep hf (by omega) (by decide) (by omega), ?_⟩
  rw [hf _ (by omega) (by omega)]; exact h4
set_option maxHeartbeats 4000000 in
set_option maxRecDepth 100000 in
theorem c4_verse (l : Launch) (G : GG) {σ : Mem} {a : AS} (x : Int32) (hA : AOK a) (hR : RC σ a) : Ci l G yX4_verse cX4_verse 2 (some .int) 6 139 [.ref (gad G 81), .int x] σ (fun r τ => r = sp_verse x a ∧ RC τ a ∧ FrC σ τ) := by
  refine Ci.of (own := RX4) (by decide) rfl (Nat.le_of_ble_eq_true rfl) (fun p e s m args below meth c ls H locs X hl hh => ?_)
  have hl : lv_has ls 2 [(0, .ref (gad G 81)), (1, .int x)] := hl
  refine lv_iload_n X.x X.b dX4_verse_0 rfl (lv_at hl 1 rfl) ?_
  refine f_scalli X hh (c4_isTune l G x) mf_yX4_isTune ks_yX4_isTune km_X4_74 rfl hl.1 [] rfl (Nat.le_of_ble_eq_true rfl) ⟨by decide, by decide⟩ ⟨Nat.zero_le _, Nat.zero_le _⟩ dX4_verse_1 (fun r τ H locs hq hh => ?_)
  obtain ⟨rfl, hτ⟩ := hq
  rw [hτ] at hh
  clear hτ
  by_cases c_1 : inB x 0 3
  · rw [show (if inB x 0 3 then (1 : Int32) else 0) = 1 from if_pos c_1]
    obtain ⟨k, ha_k, hb_k, rfl⟩ := inB_of c_1 (by decide)
    refine lv_if_eq (tgt := 15) X.x X.b dX4_verse_4 (by decide) (fun h9 => absurd h9 (by decide)) (fun _ => ?_)
    refine lv_aload_n X.x X.b dX4_verse_7 rfl (lv_at hl 0 rfl) ?_
    refine lv_iload_n X.x X.b dX4_verse_8 rfl (lv_at hl 1 rfl) ?_
    refine f_calli X hh (c4_verseOf l G (j := k) hA hR (by omega)) mf_yX4_verseOf ki_yX4_verseOf kl_yX4_verseOf km_X4_129 (sh_81 G _) (by decide) rfl rfl hl.1 [] rfl (Nat.le_of_ble_eq_true rfl) ⟨by decide, by decide⟩ ⟨Nat.zero_le _, Nat.zero_le _⟩ dX4_verse_9 (fun r τ H locs hq hh => ?_)
    obtain ⟨rfl, hR1, hf1⟩ := hq
    refine lv_goto (tgt := 16) X.x X.b dX4_verse_12 (by decide) ?_
    exact f_iret X hh ⟨by unfold sp_verse; rw [if_pos c_1, ix_nI (by omega)], hR1, hf1.c⟩ dX4_verse_16
  · rw [show (if inB x 0 3 then (1 : Int32) else 0) = 0 from if_neg c_1]
    refine lv_if_eq (tgt := 15) X.x X.b dX4_verse_4 (by decide) (fun _ => ?_) (fun h9 => absurd (show _ by decide) h9)
    refine lv_iconst (v := (-1)) X.x X.b dX4_verse_15 (by decide) ?_
    exact f_iret X hh ⟨(if_neg c_1).symm, hR, FrC.rf⟩ dX4_verse_16
set_option maxHeartbeats 4000000 in
set_option maxRecDepth 100000 in
theorem c4_best (l : Launch) (G : GG) {σ : Mem} {a : AS} (x : Int32) (hA : AOK a) (hR : RC σ a) : Ci l G yX4_best cX4_best 6 (some .int) 6 139 [.ref (gad G 81), .int x] σ (fun r τ => r = sp_best x a ∧ RC τ a ∧ FrC σ τ) := by
  refine Ci.of (own := RX4) (by decide) rfl (Nat.le_of_ble_eq_true rfl) (fun p e s m args below meth c ls H locs X hl hh => ?_)
  have hl : lv_has ls 6 [(0, .ref (gad G 81)), (1, .int x)] := hl
  refine lv_iload_n X.x X.b dX4_best_0 rfl (lv_at hl 1 rfl) ?_
  refine lv_iconst (v := nI 0) X.x X.b dX4_best_1 (by decide) ?_
  refine lv_iconst (v := nI 1) X.x X.b dX4_best_2 (by decide) ?_
  refine f_scalli X hh (c_withinB l G x 0 1 (by decide) (by decide)) mf_yX4_isWithin ks_yX4_isWithin km_X4_38 rfl hl.1 [] rfl (Nat.le_of_ble_eq_true rfl) ⟨by decide, by decide⟩ ⟨Nat.zero_le _, Nat.zero_le _⟩ dX4_best_3 (fun r τ H locs hq hh => ?_)
  obtain ⟨rfl, hτ⟩ := hq
  rw [hτ] at hh
  clear hτ
  by_cases c_1 : inB x 0 1
  · rw [show (if inB x 0 1 then (1 : Int32) else 0) = 1 from if_pos c_1]
    obtain ⟨k, ha_k, hb_k, rfl⟩ := inB_of c_1 (by decide)
    refine lv_if_ne (tgt := 12) X.x X.b dX4_best_6 (by decide) (fun _ => ?_) (fun h9 => absurd h9 (by decide))
    have lp : ∀ (q i : Nat), 4 - i = q → i ≤ 4 → ∀ (υ : Mem), RC υ a → FrT σ υ → ∀ (ls : Array Slot) (H : Heap) (locs : List Loc), lv_has ls 6 [(4, .int (nI i)), (3, .int ((bst (vsN a) i).2)), (2, .int ((bst (vsN a) i).1)), (0, .ref (gad G 81)), (1, .int (nI k))] → HH G s υ H locs → WI l G p e s m args below meth c 6 139 (fun r τ => r = sp_best (nI k) a ∧ RC τ a ∧ FrC σ τ) H locs (F0 m 21 ls []) := by
      intro km
      induction km using Nat.strongRecOn with
      | ind km ih =>
        intro i hk hi υ hR0 hf0 ls H locs hl hh
        refine lv_iload X.x X.b dX4_best_21 (lv_at hl 0 rfl) ?_
        refine lv_iconst (v := nI 4) X.x X.b dX4_best_23 (by decide) ?_
        refine lv_icmp_ge (tgt := 56) X.x X.b dX4_best_24 (by decide) (fun c_3 => ?_) (fun c_3 => ?_)
        · have c_3 : 4 ≤ i := (nI_leI (a := 4) (b := i) (by omega) (by omega)).mp c_3
          refine lv_iload_n X.x X.b dX4_best_56 rfl (lv_at hl 4 rfl) ?_
          refine lv_if_ne (tgt := 64) X.x X.b dX4_best_57 (by decide) (fun c_4 => ?_) (fun c_4 => ?_)
          · have c_4 : ¬ k = 0 := fun q9 => c_4 ((nI_eq (a := k) (b := 0) (by omega) (by omega)).mpr q9)
            refine lv_iload_n X.x X.b dX4_best_64 rfl (lv_at hl 1 rfl) ?_
            exact f_iret X hh ⟨by obtain rfl : i = 4 := (by omega); unfold sp_best; rw [if_pos c_1, if_neg (fun q9 => c_4 ((nI_z (by omega)).mp q9))], hR0, hf0.c⟩ dX4_best_65
          · have c_4 : k = 0 := (nI_eq (a := k) (b := 0) (by omega) (by omega)).mp c_4
            refine lv_iload_n X.x X.b dX4_best_60 rfl (lv_at hl 2 rfl) ?_
            refine lv_goto (tgt := 65) X.x X.b dX4_best_61 (by decide) ?_
            exact f_iret X hh ⟨by obtain rfl : i = 4 := (by omega); unfold sp_best; rw [if_pos c_1, if_pos ((nI_z (by omega)).mpr c_4)], hR0, hf0.c⟩ dX4_best_65
        · have c_3 : ¬ 4 ≤ i := fun q9 => c_3 ((nI_leI (a := 4) (b := i) (by omega) (by omega)).mpr q9)
          refine lv_aload_n X.x X.b dX4_best_27 rfl (lv_at hl 3 rfl) ?_
          refine lv_iload X.x X.b dX4_best_28 (lv_at hl 0 rfl) ?_
          refine f_calli X hh (c4_verseOf l G (j := i) hA hR0 (by omega)) mf_yX4_verseOf ki_yX4_verseOf kl_yX4_verseOf km_X4_129 (sh_81 G _) (by decide) rfl rfl hl.1 [] rfl (Nat.le_of_ble_eq_true rfl) ⟨by decide, by decide⟩ ⟨Nat.zero_le _, Nat.zero_le _⟩ dX4_best_30 (fun r τ H locs hq hh => ?_)
          obtain ⟨rfl, hR1, hf1⟩ := hq
          refine lv_istore (lv' := [(5, .int (vsN a i)), (4, .int (nI i)), (3, .int ((bst (vsN a) i).2)), (2, .int ((bst (vsN a) i).1)), (0, .ref (gad G 81)), (1, .int (nI k))]) X.x X.b dX4_best_33 hl (by decide) rfl (fun ls hl => ?_)
          refine lv_iload X.x X.b dX4_best_35 (lv_at hl 0 rfl) ?_
          refine lv_iload_n X.x X.b dX4_best_37 rfl (lv_at hl 2 rfl) ?_
          refine f_scalli X hh (c_isCheaper l G (vsN a i) ((bst (vsN a) i).2)) mf_yX4_isCheaper ks_yX4_isCheaper km_X4_132 rfl hl.1 [] rfl (Nat.le_of_ble_eq_true rfl) ⟨by decide, by decide⟩ ⟨Nat.zero_le _, Nat.zero_le _⟩ dX4_best_38 (fun r τ H locs hq hh => ?_)
          obtain ⟨rfl, hτ⟩ := hq
          rw [hτ] at hh
          clear hτ
          by_cases c_5 : vsN a i ≠ -6 ∧ ((bst (vsN a) i).2 = -6 ∨ vsN a i < (bst (vsN a) i).2)
          · rw [show (if vsN a i ≠ -6 ∧ ((bst (vsN a) i).2 = -6 ∨ vsN a i < (bst (vsN a) i).2) then (1 : Int32) else 0) = 1 from if_pos c_5]
            refine lv_if_eq (tgt := 50) X.x X.b dX4_best_41 (by decide) (fun h9 => absurd h9 (by decide)) (fun _ => ?_)
            refine lv_iload X.x X.b dX4_best_44 (lv_at hl 1 rfl) ?_
            refine lv_istore_n (lv' := [(2, .int (nI i)), (5, .int (vsN a i)), (4, .int (nI i)), (3, .int ((bst (vsN a) i).2)), (0, .ref (gad G 81)), (1, .int (nI k))]) X.x X.b dX4_best_46 rfl hl (by decide) rfl (fun ls hl => ?_)
            refine lv_iload X.x X.b dX4_best_47 (lv_at hl 1 rfl) ?_
            refine lv_istore_n (lv' := [(3, .int (vsN a i)), (2, .int (nI i)), (5, .int (vsN a i)), (4, .int (nI i)), (0, .ref (gad G 81)), (1, .int (nI k))]) X.x X.b dX4_best_49 rfl hl (by decide) rfl (fun ls hl => ?_)
            refine lv_iinc (v := nI (i + 1)) (lv' := [(4, .int (nI (i + 1))), (3, .int (vsN a i)), (2, .int (nI i)), (5, .int (vsN a i)), (0, .ref (gad G 81)), (1, .int (nI k))]) X.x X.b dX4_best_50 hl (k := 3) rfl (nI_1 i) (by decide) rfl (fun ls hl => ?_)
            refine lv_goto (tgt := 21) X.x X.b dX4_best_53 (by decide) ?_
            refine ih (4 - (i + 1)) (by omega) (i + 1) rfl (by omega) _ hR1 (hf0.tr hf1) ls H locs ?_ hh
            rw [show bst (vsN a) (i + 1) = (nI i, vsN a i) from if_pos c_5]
            exact lv_sub hl [0, 1, 2, 4, 5] rfl
          · rw [show (if vsN a i ≠ -6 ∧ ((bst (vsN a) i).2 = -6 ∨ vsN a i < (bst (vsN a) i).2) then (1 : Int32) else 0) = 0 from if_neg c_5]
            refine lv_if_eq (tgt := 50) X.x X.b dX4_best_41 (by decide) (fun _ => ?_) (fun h9 => absurd (show _ by decide) h9)
            refine lv_iinc (v := nI (i + 1)) (lv' := [(4, .int (nI (i + 1))), (5, .int (vsN a i)), (3, .int ((bst (vsN a) i).2)), (2, .int ((bst (vsN a) i).1)), (0, .ref (gad G 81)), (1, .int (nI k))]) X.x X.b dX4_best_50 hl (k := 1) rfl (nI_1 i) (by decide) rfl (fun ls hl => ?_)
            refine lv_goto (tgt := 21) X.x X.b dX4_best_53 (by decide) ?_
            refine ih (4 - (i + 1)) (by omega) (i + 1) rfl (by omega) _ hR1 (hf0.tr hf1) ls H locs ?_ hh
            rw [show bst (vsN a) (i + 1) = bst (vsN a) i from if_neg c_5]
            exact lv_sub hl [0, 2, 3, 4, 5] rfl
    refine lv_bipush (v := (-6)) X.x X.b dX4_best_12 (by decide) ?_
    refine lv_istore_n (lv' := [(2, .int ((-6))), (0, .ref (gad G 81)), (1, .int (nI k))]) X.x X.b dX4_best_14 rfl hl (by decide) rfl (fun ls hl => ?_)
    refine lv_bipush (v := (-6)) X.x X.b dX4_best_15 (by decide) ?_
    refine lv_istore_n (lv' := [(3, .int ((-6))), (2, .int ((-6))), (0, .ref (gad G 81)), (1, .int (nI k))]) X.x X.b dX4_best_17 rfl hl (by decide) rfl (fun ls hl => ?_)
    refine lv_iconst (v := nI 0) X.x X.b dX4_best_18 (by decide) ?_
    refine lv_istore (lv' := [(4, .int (nI 0)), (3, .int ((-6))), (2, .int ((-6))), (0, .ref (gad G 81)), (1, .int (nI k))]) X.x X.b dX4_best_19 hl (by decide) rfl (fun ls hl => ?_)
    exact lp 4 0 rfl (by omega) σ hR FrT.rf ls H locs (lv_sub hl [0, 1, 2, 3, 4] rfl) hh
  · rw [show (if inB x 0 1 then (1 : Int32) else 0) = 0 from if_neg c_1]
    refine lv_if_ne (tgt := 12) X.x X.b dX4_best_6 (by decide) (fun h9 => absurd (show _ by decide) h9) (fun _ => ?_)
    refine lv_bipush (v := (-2)) X.x X.b dX4_best_9 (by decide) ?_
    exact f_iret X hh ⟨(if_neg c_1).symm, hR, FrC.rf⟩ dX4_best_11
set_option maxHeartbeats 4000000 in
set_option maxRecDepth 100000 in
theorem c4_turned (l : Launch) (G : GG) {σ : Mem} {a : AS} (x y v : Int32) (hA : AOK a) (hR : RC σ a) : Ci l G yX4_turned cX4_turned 9 (some .int) 5 116 [.ref (gad G 81), .int x, .int y, .int v] σ (fun r τ => r = sp_turned x y v a ∧ RC τ a ∧ FrC σ τ) := by
  refine Ci.of (own := RX4) (by decide) rfl (Nat.le_of_ble_eq_true rfl) (fun p e s m args below meth c ls H locs X hl hh => ?_)
  have hl : lv_has ls 9 [(0, .ref (gad G 81)), (1, .int x), (2, .int y), (3, .int v)] := hl
  refine lv_iload_n X.x X.b dX4_turned_0 rfl (lv_at hl 1 rfl) ?_
  refine lv_iload_n X.x X.b dX4_turned_1 rfl (lv_at hl 2 rfl) ?_
  refine f_scalli X hh (c4_areKnown l G x y) mf_yX4_areKnown ks_yX4_areKnown km_X4_91 rfl hl.1 [] rfl (Nat.le_of_ble_eq_true rfl) ⟨by decide, by decide⟩ ⟨Nat.zero_le _, Nat.zero_le _⟩ dX4_turned_2 (fun r τ H locs hq hh => ?_)
  obtain ⟨rfl, hτ⟩ := hq
  rw [hτ] at hh
  clear hτ
  by_cases c_1 : kno x y
  · rw [show (if kno x y then (1 : Int32) else 0) = 1 from if_pos c_1]
    obtain ⟨i, ha_i, hb_i, rfl⟩ := inB_of c_1.1 (by decide)
    obtain ⟨j, ha_j, hb_j, rfl⟩ := inB_of c_1.2 (by decide)
    have hI := inst_ok hA (show i < 3 by omega) (show j < 4 by omega)
    have ei := ix_nI (show i < 2 ^ 31 by omega)
    have ej := ix_nI (show j < 2 ^ 31 by omega)
    refine lv_if_ne (tgt := 10) X.x X.b dX4_turned_5 (by decide) (fun _ => ?_) (fun h9 => absurd h9 (by decide))
    refine lv_iload_n X.x X.b dX4_turned_10 rfl (lv_at hl 3 rfl) ?_
    refine lv_iconst (v := nI 0) X.x X.b dX4_turned_11 (by decide) ?_
    refine lv_iconst (v := nI 1) X.x X.b dX4_turned_12 (by decide) ?_
    refine f_scalli X hh (c_withinB l G v 0 1 (by decide) (by decide)) mf_yX4_isWithin ks_yX4_isWithin km_X4_38 rfl hl.1 [] rfl (Nat.le_of_ble_eq_true rfl) ⟨by decide, by decide⟩ ⟨Nat.zero_le _, Nat.zero_le _⟩ dX4_turned_13 (fun r τ H locs hq hh => ?_)
    obtain ⟨rfl, hτ⟩ := hq
    rw [hτ] at hh
    clear hτ
    by_cases c_3 : inB v 0 1
    · rw [show (if inB v 0 1 then (1 : Int32) else 0) = 1 from if_pos c_3]
      obtain ⟨k, ha_k, hb_k, rfl⟩ := inB_of c_3 (by decide)
      refine lv_if_ne (tgt := 22) X.x X.b dX4_turned_16 (by decide) (fun _ => ?_) (fun h9 => absurd h9 (by decide))
      have hm9 : bN (aB a) (3 + j) ≤ 11 := hI.2.1
      have lp : ∀ (q0 q : Nat), bN (aB a) (3 + j) - q = q0 → q ≤ bN (aB a) (3 + j) → ∀ (υ : Mem), RC υ a → FrT σ υ → ∀ (ls : Array Slot) (H : Heap) (locs : List Loc), lv_has ls 9 [(7, .int (nI q)), (6, .int (nI (bN (aB a) (3 + j)))), (5, .int ((tur a i j q).2)), (4, .int ((tur a i j q).1)), (0, .ref (gad G 81)), (1, .int (nI i)), (2, .int (nI j)), (3, .int (nI k))] → HH G s υ H locs → WI l G p e s m args below meth c 5 116 (fun r τ => r = sp_turned (nI i) (nI j) (nI k) a ∧ RC τ a ∧ FrC σ τ) H locs (F0 m 47 ls []) := by
        intro km
        induction km using Nat.strongRecOn with
        | ind km ih =>
          intro q hk hi υ hR0 hf0 ls H locs hl hh
          refine lv_iload X.x X.b dX4_turned_47 (lv_at hl 0 rfl) ?_
          refine lv_iload X.x X.b dX4_turned_49 (lv_at hl 1 rfl) ?_
          refine lv_icmp_ge (tgt := 118) X.x X.b dX4_turned_51 (by decide) (fun c_5 => ?_) (fun c_5 => ?_)
          · have c_5 : (bN (aB a) (3 + j)) ≤ q := (nI_leI (a := (bN (aB a) (3 + j))) (b := q) (by omega) (by omega)).mp c_5
            refine lv_iload_n X.x X.b dX4_turned_118 rfl (lv_at hl 7 rfl) ?_
            refine lv_if_ne (tgt := 127) X.x X.b dX4_turned_119 (by decide) (fun c_6 => ?_) (fun c_6 => ?_)
            · have c_6 : ¬ k = 0 := fun q9 => c_6 ((nI_eq (a := k) (b := 0) (by omega) (by omega)).mpr q9)
              refine lv_iload X.x X.b dX4_turned_127 (lv_at hl 2 rfl) ?_
              exact f_iret X hh ⟨by have e9 : q = bN (aB a) (3 + j) := (by omega); unfold sp_turned; rw [if_pos c_1, if_pos c_3, ei, ej, if_neg (fun q9 => c_6 ((nI_z (by omega)).mp q9)), e9], hR0, hf0.c⟩ dX4_turned_129
            · have c_6 : k = 0 := (nI_eq (a := k) (b := 0) (by omega) (by omega)).mp c_6
              refine lv_iload X.x X.b dX4_turned_122 (lv_at hl 3 rfl) ?_
              refine lv_goto (tgt := 129) X.x X.b dX4_turned_124 (by decide) ?_
              exact f_iret X hh ⟨by have e9 : q = bN (aB a) (3 + j) := (by omega); unfold sp_turned; rw [if_pos c_1, if_pos c_3, ei, ej, if_pos ((nI_z (by omega)).mpr c_6), e9], hR0, hf0.c⟩ dX4_turned_129
          · have c_5 : ¬ (bN (aB a) (3 + j)) ≤ q := fun q9 => c_5 ((nI_leI (a := (bN (aB a) (3 + j))) (b := q) (by omega) (by omega)).mpr q9)
            refine lv_aload_n X.x X.b dX4_turned_54 rfl (lv_at hl 4 rfl) ?_
            refine f_get X hh (v := .ref (gad G 85)) (sh_81 G _) (by decide) rfl in_X4 3 (by decide) kf_X4_30 rfl dX4_turned_55 ?_
            refine lv_aload_n X.x X.b dX4_turned_58 rfl (lv_at hl 4 rfl) ?_
            refine f_get X hh (v := .ref (gad G 69)) (sh_81 G _) (by decide) rfl in_X4 1 (by decide) kf_X4_19 rfl dX4_turned_59 ?_
            refine lv_iload_n X.x X.b dX4_turned_62 rfl (lv_at hl 5 rfl) ?_
            refine lv_iload_n X.x X.b dX4_turned_63 rfl (lv_at hl 6 rfl) ?_
            refine f_callv X hh (c_take l G (i := i) (j := j) (by omega) (by omega) hR0.2.1) mf_yX1_take ki_yX1_take kl_yX1_take km_X4_99 (sh_85 G _) (by decide) rfl rfl hl.1 [] rfl (Nat.le_of_ble_eq_true rfl) ⟨by decide, by decide⟩ ⟨Nat.zero_le _, Nat.zero_le _⟩ dX4_turned_64 (fun τ H locs hq hh => ?_)
            obtain ⟨hM1, hf1⟩ := hq
            have hR1 := hR0.kt hf1.t
            refine lv_aload_n X.x X.b dX4_turned_67 rfl (lv_at hl 4 rfl) ?_
            refine f_get X hh (v := .ref (gad G 85)) (sh_81 G _) (by decide) rfl in_X4 3 (by decide) kf_X4_30 rfl dX4_turned_68 ?_
            refine lv_aload_n X.x X.b dX4_turned_71 rfl (lv_at hl 4 rfl) ?_
            refine f_get X hh (v := .ref (gad G 69)) (sh_81 G _) (by decide) rfl in_X4 1 (by decide) kf_X4_19 rfl dX4_turned_72 ?_
            refine f_get X hh (v := .ref (gad G 71)) (sh_69 G _) (by decide) rfl in_X0 1 (by decide) kf_X4_77 rfl dX4_turned_75 ?_
            refine lv_iload_n X.x X.b dX4_turned_78 rfl (lv_at hl 6 rfl) ?_
            refine f_aald X hh (j := j) 2 (sh_71 G _) rfl rfl (by decide) rfl (by omega) (by decide) dX4_turned_79 ?_
            refine lv_iload X.x X.b dX4_turned_80 (lv_at hl 0 rfl) ?_
            refine f_callv X hh (c_turnTune l G (q := 7 * 0 + (3 + j)) (a := q) (by omega) (by omega) (hR1.2.1.1 (3 + j) (by omega)) hm9) mf_yX1_turnTune ki_yX1_turnTune kl_yX1_turnTune km_X4_135 (sh_85 G _) (by decide) rfl rfl hl.1 [] rfl (Nat.le_of_ble_eq_true rfl) ⟨by decide, by decide⟩ ⟨Nat.zero_le _, Nat.zero_le _⟩ dX4_turned_82 (fun τ H locs hq hh => ?_)
            obtain ⟨hv2, hf2⟩ := hq
            have hM2 : LM τ (instT a i j q) := hM1.turn hv2 hf2
            have hR2 := hR1.kt (hf2.t (Or.inr rfl))
            refine lv_aload_n X.x X.b dX4_turned_85 rfl (lv_at hl 4 rfl) ?_
            refine f_get X hh (v := .ref (gad G 85)) (sh_81 G _) (by decide) rfl in_X4 3 (by decide) kf_X4_30 rfl dX4_turned_86 ?_
            refine f_calli X hh (c_leastCost l G (I := instT a i j q) (instT_ok hA (by omega) (by omega)) hM2) mf_yX1_leastCost ki_yX1_leastCost kl_yX1_leastCost km_X4_107 (sh_85 G _) (by decide) rfl rfl hl.1 [] rfl (Nat.le_of_ble_eq_true rfl) ⟨by decide, by decide⟩ ⟨Nat.zero_le _, Nat.zero_le _⟩ dX4_turned_89 (fun r τ H locs hq hh => ?_)
            obtain ⟨rfl, hf3⟩ := hq
            have hR3 := hR2.kt hf3.t
            refine lv_istore (lv' := [(8, .int (lcN (instT a i j q))), (7, .int (nI q)), (6, .int (nI (bN (aB a) (3 + j)))), (5, .int ((tur a i j q).2)), (4, .int ((tur a i j q).1)), (0, .ref (gad G 81)), (1, .int (nI i)), (2, .int (nI j)), (3, .int (nI k))]) X.x X.b dX4_turned_92 hl (by decide) rfl (fun ls hl => ?_)
            refine lv_iload X.x X.b dX4_turned_94 (lv_at hl 0 rfl) ?_
            refine lv_iload X.x X.b dX4_turned_96 (lv_at hl 3 rfl) ?_
            refine f_scalli X hh (c_isCheaper l G (lcN (instT a i j q)) ((tur a i j q).2)) mf_yX4_isCheaper ks_yX4_isCheaper km_X4_132 rfl hl.1 [] rfl (Nat.le_of_ble_eq_true rfl) ⟨by decide, by decide⟩ ⟨Nat.zero_le _, Nat.zero_le _⟩ dX4_turned_98 (fun r τ H locs hq hh => ?_)
            obtain ⟨rfl, hτ⟩ := hq
            rw [hτ] at hh
            clear hτ
            by_cases c_7 : lcN (instT a i j q) ≠ -6 ∧ ((tur a i j q).2 = -6 ∨ lcN (instT a i j q) < (tur a i j q).2)
            · rw [show (if lcN (instT a i j q) ≠ -6 ∧ ((tur a i j q).2 = -6 ∨ lcN (instT a i j q) < (tur a i j q).2) then (1 : Int32) else 0) = 1 from if_pos c_7]
              refine lv_if_eq (tgt := 112) X.x X.b dX4_turned_101 (by decide) (fun h9 => absurd h9 (by decide)) (fun _ => ?_)
              refine lv_iload X.x X.b dX4_turned_104 (lv_at hl 1 rfl) ?_
              refine lv_istore (lv' := [(4, .int (nI q)), (8, .int (lcN (instT a i j q))), (7, .int (nI q)), (6, .int (nI (bN (aB a) (3 + j)))), (5, .int ((tur a i j q).2)), (0, .ref (gad G 81)), (1, .int (nI i)), (2, .int (nI j)), (3, .int (nI k))]) X.x X.b dX4_turned_106 hl (by decide) rfl (fun ls hl => ?_)
              refine lv_iload X.x X.b dX4_turned_108 (lv_at hl 1 rfl) ?_
              refine lv_istore (lv' := [(5, .int (lcN (instT a i j q))), (4, .int (nI q)), (8, .int (lcN (instT a i j q))), (7, .int (nI q)), (6, .int (nI (bN (aB a) (3 + j)))), (0, .ref (gad G 81)), (1, .int (nI i)), (2, .int (nI j)), (3, .int (nI k))]) X.x X.b dX4_turned_110 hl (by decide) rfl (fun ls hl => ?_)
              refine lv_iinc (v := nI (q + 1)) (lv' := [(7, .int (nI (q + 1))), (5, .int (lcN (instT a i j q))), (4, .int (nI q)), (8, .int (lcN (instT a i j q))), (6, .int (nI (bN (aB a) (3 + j)))), (0, .ref (gad G 81)), (1, .int (nI i)), (2, .int (nI j)), (3, .int (nI k))]) X.x X.b dX4_turned_112 hl (k := 3) rfl (nI_1 q) (by decide) rfl (fun ls hl => ?_)
              refine lv_goto (tgt := 47) X.x X.b dX4_turned_115 (by decide) ?_
              refine ih (bN (aB a) (3 + j) - (q + 1)) (by omega) (q + 1) rfl (by omega) _ hR3 (((hf0.tr hf1.t).tr (hf2.t (Or.inr rfl))).tr hf3.t) ls H locs ?_ hh
              rw [show tur a i j (q + 1) = (nI q, lcN (instT a i j q)) from if_pos c_7]
              exact lv_sub hl [0, 4, 1, 2, 5, 6, 7, 8] rfl
            · rw [show (if lcN (instT a i j q) ≠ -6 ∧ ((tur a i j q).2 = -6 ∨ lcN (instT a i j q) < (tur a i j q).2) then (1 : Int32) else 0) = 0 from if_neg c_7]
              refine lv_if_eq (tgt := 112) X.x X.b dX4_turned_101 (by decide) (fun _ => ?_) (fun h9 => absurd (show _ by decide) h9)
              refine lv_iinc (v := nI (q + 1)) (lv' := [(7, .int (nI (q + 1))), (8, .int (lcN (instT a i j q))), (6, .int (nI (bN (aB a) (3 + j)))), (5, .int ((tur a i j q).2)), (4, .int ((tur a i j q).1)), (0, .ref (gad G 81)), (1, .int (nI i)), (2, .int (nI j)), (3, .int (nI k))]) X.x X.b dX4_turned_112 hl (k := 1) rfl (nI_1 q) (by decide) rfl (fun ls hl => ?_)
              refine lv_goto (tgt := 47) X.x X.b dX4_turned_115 (by decide) ?_
              refine ih (bN (aB a) (3 + j) - (q + 1)) (by omega) (q + 1) rfl (by omega) _ hR3 (((hf0.tr hf1.t).tr (hf2.t (Or.inr rfl))).tr hf3.t) ls H locs ?_ hh
              rw [show tur a i j (q + 1) = tur a i j q from if_neg c_7]
              exact lv_sub hl [0, 2, 3, 4, 5, 6, 7, 8] rfl
      refine lv_bipush (v := (-6)) X.x X.b dX4_turned_22 (by decide) ?_
      refine lv_istore (lv' := [(4, .int ((-6))), (0, .ref (gad G 81)), (1, .int (nI i)), (2, .int (nI j)), (3, .int (nI k))]) X.x X.b dX4_turned_24 hl (by decide) rfl (fun ls hl => ?_)
      refine lv_bipush (v := (-6)) X.x X.b dX4_turned_26 (by decide) ?_
      refine lv_istore (lv' := [(5, .int ((-6))), (4, .int ((-6))), (0, .ref (gad G 81)), (1, .int (nI i)), (2, .int (nI j)), (3, .int (nI k))]) X.x X.b dX4_turned_28 hl (by decide) rfl (fun ls hl => ?_)
      refine lv_aload_n X.x X.b dX4_turned_30 rfl (lv_at hl 2 rfl) ?_
      refine f_get X hh (v := .ref (gad G 69)) (sh_81 G _) (by decide) rfl in_X4 1 (by decide) kf_X4_19 rfl dX4_turned_31 ?_
      refine f_get X hh (v := .ref (gad G 71)) (sh_69 G _) (by decide) rfl in_X0 1 (by decide) kf_X4_77 rfl dX4_turned_34 ?_
      refine lv_iload_n X.x X.b dX4_turned_37 rfl (lv_at hl 4 rfl) ?_
      refine f_aald X hh (j := j) 2 (sh_71 G _) rfl rfl (by decide) rfl (by omega) (by decide) dX4_turned_38 ?_
      refine f_geti X hh (x := nI (bN (aB a) (3 + j))) (sh_row G (r := 7 * 0 + (3 + j)) (by omega) _) (by omega) rfl in_X3 3 (by decide) kf_X4_71 rfl (hR.2.1.1 _ (by omega)).1 dX4_turned_39 ?_
      refine lv_istore (lv' := [(6, .int (nI (bN (aB a) (3 + j)))), (5, .int ((-6))), (4, .int ((-6))), (0, .ref (gad G 81)), (1, .int (nI i)), (2, .int (nI j)), (3, .int (nI k))]) X.x X.b dX4_turned_42 hl (by decide) rfl (fun ls hl => ?_)
      refine lv_iconst (v := nI 0) X.x X.b dX4_turned_44 (by decide) ?_
      refine lv_istore (lv' := [(7, .int (nI 0)), (6, .int (nI (bN (aB a) (3 + j)))), (5, .int ((-6))), (4, .int ((-6))), (0, .ref (gad G 81)), (1, .int (nI i)), (2, .int (nI j)), (3, .int (nI k))]) X.x X.b dX4_turned_45 hl (by decide) rfl (fun ls hl => ?_)
      exact lp (bN (aB a) (3 + j)) 0 rfl (by omega) σ hR FrT.rf ls H locs (lv_sub hl [0, 1, 2, 3, 4, 5, 6, 7] rfl) hh
    · rw [show (if inB v 0 1 then (1 : Int32) else 0) = 0 from if_neg c_3]
      refine lv_if_ne (tgt := 22) X.x X.b dX4_turned_16 (by decide) (fun h9 => absurd (show _ by decide) h9) (fun _ => ?_)
      refine lv_bipush (v := (-2)) X.x X.b dX4_turned_19 (by decide) ?_
      exact f_iret X hh ⟨by unfold sp_turned; rw [if_pos c_1, if_neg c_3], hR, FrC.rf⟩ dX4_turned_21
  · rw [show (if kno x y then (1 : Int32) else 0) = 0 from if_neg c_1]
    refine lv_if_ne (tgt := 10) X.x X.b dX4_turned_5 (by decide) (fun h9 => absurd (show _ by decide) h9) (fun _ => ?_)
    refine lv_iconst (v := (-1)) X.x X.b dX4_turned_8 (by decide) ?_
    exact f_iret X hh ⟨(if_neg c_1).symm, hR, FrC.rf⟩ dX4_turned_9
set_option maxHeartbeats 4000000 in
set_option maxRecDepth 100000 in
theorem c4_anew (l : Launch) (G : GG) {σ : Mem} {a : AS} (x y v : Int32) (hA : AOK a) (hR : RC σ a) : Ci l G yX4_anew cX4_anew 11 (some .int) 5 116 [.ref (gad G 81), .int x, .int y, .int v] σ (fun r τ => r = sp_anew x y v a ∧ RC τ a ∧ FrC σ τ) := by
  refine Ci.of (own := RX4) (by decide) rfl (Nat.le_of_ble_eq_true rfl) (fun p e s m args below meth c ls H locs X hl hh => ?_)
  have hl : lv_has ls 11 [(0, .ref (gad G 81)), (1, .int x), (2, .int y), (3, .int v)] := hl
  refine lv_iload_n X.x X.b dX4_anew_0 rfl (lv_at hl 1 rfl) ?_
  refine lv_iload_n X.x X.b dX4_anew_1 rfl (lv_at hl 2 rfl) ?_
  refine f_scalli X hh (c4_areKnown l G x y) mf_yX4_areKnown ks_yX4_areKnown km_X4_91 rfl hl.1 [] rfl (Nat.le_of_ble_eq_true rfl) ⟨by decide, by decide⟩ ⟨Nat.zero_le _, Nat.zero_le _⟩ dX4_anew_2 (fun r τ H locs hq hh => ?_)
  obtain ⟨rfl, hτ⟩ := hq
  rw [hτ] at hh
  clear hτ
  by_cases c_1 : kno x y
  · rw [show (if kno x y then (1 : Int32) else 0) = 1 from if_pos c_1]
    obtain ⟨i, ha_i, hb_i, rfl⟩ := inB_of c_1.1 (by decide)
    obtain ⟨j, ha_j, hb_j, rfl⟩ := inB_of c_1.2 (by decide)
    have hI := inst_ok hA (show i < 3 by omega) (show j < 4 by omega)
    have ei := ix_nI (show i < 2 ^ 31 by omega)
    have ej := ix_nI (show j < 2 ^ 31 by omega)
    refine lv_if_ne (tgt := 10) X.x X.b dX4_anew_5 (by decide) (fun _ => ?_) (fun h9 => absurd h9 (by decide))
    refine lv_iload_n X.x X.b dX4_anew_10 rfl (lv_at hl 3 rfl) ?_
    refine lv_iconst (v := nI 0) X.x X.b dX4_anew_11 (by decide) ?_
    refine lv_iconst (v := nI 2) X.x X.b dX4_anew_12 (by decide) ?_
    refine f_scalli X hh (c_withinB l G v 0 2 (by decide) (by decide)) mf_yX4_isWithin ks_yX4_isWithin km_X4_38 rfl hl.1 [] rfl (Nat.le_of_ble_eq_true rfl) ⟨by decide, by decide⟩ ⟨Nat.zero_le _, Nat.zero_le _⟩ dX4_anew_13 (fun r τ H locs hq hh => ?_)
    obtain ⟨rfl, hτ⟩ := hq
    rw [hτ] at hh
    clear hτ
    by_cases c_3 : inB v 0 2
    · rw [show (if inB v 0 2 then (1 : Int32) else 0) = 1 from if_pos c_3]
      obtain ⟨k, ha_k, hb_k, rfl⟩ := inB_of c_3 (by decide)
      refine lv_if_ne (tgt := 22) X.x X.b dX4_anew_16 (by decide) (fun _ => ?_) (fun h9 => absurd h9 (by decide))
      have hm9 : bN (aB a) i ≤ 9 := hI.1
      have lp : ∀ (q0 q : Nat), bN (aB a) i - q = q0 → q ≤ bN (aB a) i → ∀ (υ : Mem), RC υ a → FrT σ υ → ∀ (ls : Array Slot) (H : Heap) (locs : List Loc), lv_has ls 11 [(8, .int (nI q)), (7, .int (nI (bN (aB a) i))), (6, .int ((anN a i j (3 * q)).2.2)), (5, .int ((anN a i j (3 * q)).2.1)), (4, .int ((anN a i j (3 * q)).1)), (0, .ref (gad G 81)), (1, .int (nI i)), (2, .int (nI j)), (3, .int (nI k))] → HH G s υ H locs → WI l G p e s m args below meth c 5 116 (fun r τ => r = sp_anew (nI i) (nI j) (nI k) a ∧ RC τ a ∧ FrC σ τ) H locs (F0 m 69 ls []) := by
        intro km
        induction km using Nat.strongRecOn with
        | ind km ih =>
          intro q hk hi υ hR4 hf4 ls H locs hl hh
          refine lv_iload X.x X.b dX4_anew_69 (lv_at hl 0 rfl) ?_
          refine lv_iload X.x X.b dX4_anew_71 (lv_at hl 1 rfl) ?_
          refine lv_icmp_ge (tgt := 152) X.x X.b dX4_anew_73 (by decide) (fun c_5 => ?_) (fun c_5 => ?_)
          · have c_5 : (bN (aB a) i) ≤ q := (nI_leI (a := (bN (aB a) i)) (b := q) (by omega) (by omega)).mp c_5
            refine lv_iload_n X.x X.b dX4_anew_152 rfl (lv_at hl 8 rfl) ?_
            refine lv_iconst (v := nI 2) X.x X.b dX4_anew_153 (by decide) ?_
            refine lv_icmp_ne (tgt := 172) X.x X.b dX4_anew_154 (by decide) (fun c_6 => ?_) (fun c_6 => ?_)
            · have c_6 : ¬ k = 2 := fun q9 => c_6 ((nI_eq (a := k) (b := 2) (by omega) (by omega)).mpr q9)
              refine lv_iload_n X.x X.b dX4_anew_172 rfl (lv_at hl 8 rfl) ?_
              refine lv_if_ne (tgt := 181) X.x X.b dX4_anew_173 (by decide) (fun c_7 => ?_) (fun c_7 => ?_)
              · have c_7 : ¬ k = 0 := fun q9 => c_7 ((nI_eq (a := k) (b := 0) (by omega) (by omega)).mpr q9)
                refine lv_iload X.x X.b dX4_anew_181 (lv_at hl 3 rfl) ?_
                exact f_iret X hh ⟨by have e9 : q = bN (aB a) i := (by omega); subst e9; unfold sp_anew; rw [if_pos c_1, if_pos c_3, ei, ej]; unfold anr; rw [if_neg (fun q9 => c_6 ((nI_2 (by omega)).mp q9)), if_neg (fun q9 => c_7 ((nI_z (by omega)).mp q9))], hR4, hf4.c⟩ dX4_anew_183
              · have c_7 : k = 0 := (nI_eq (a := k) (b := 0) (by omega) (by omega)).mp c_7
                refine lv_iload X.x X.b dX4_anew_176 (lv_at hl 4 rfl) ?_
                refine lv_goto (tgt := 183) X.x X.b dX4_anew_178 (by decide) ?_
                exact f_iret X hh ⟨by have e9 : q = bN (aB a) i := (by omega); subst e9; unfold sp_anew; rw [if_pos c_1, if_pos c_3, ei, ej]; unfold anr; rw [if_neg (fun q9 => c_6 ((nI_2 (by omega)).mp q9)), if_pos ((nI_z (by omega)).mpr c_7)], hR4, hf4.c⟩ dX4_anew_183
            · have c_6 : k = 2 := (nI_eq (a := k) (b := 2) (by omega) (by omega)).mp c_6
              refine lv_iload X.x X.b dX4_anew_157 (lv_at hl 4 rfl) ?_
              refine lv_bipush (v := (-6)) X.x X.b dX4_anew_159 (by decide) ?_
              refine lv_icmp_ne (tgt := 169) X.x X.b dX4_anew_161 (by decide) (fun c_8 => ?_) (fun c_8 => ?_)
              · refine lv_iload X.x X.b dX4_anew_169 (lv_at hl 2 rfl) ?_
                exact f_iret X hh ⟨by have e9 : q = bN (aB a) i := (by omega); subst e9; unfold sp_anew; rw [if_pos c_1, if_pos c_3, ei, ej]; unfold anr; rw [if_pos ((nI_2 (by omega)).mpr c_6), if_neg c_8], hR4, hf4.c⟩ dX4_anew_171
              · refine lv_bipush (v := (-6)) X.x X.b dX4_anew_164 (by decide) ?_
                refine lv_goto (tgt := 171) X.x X.b dX4_anew_166 (by decide) ?_
                exact f_iret X hh ⟨by have e9 : q = bN (aB a) i := (by omega); subst e9; unfold sp_anew; rw [if_pos c_1, if_pos c_3, ei, ej]; unfold anr; rw [if_pos ((nI_2 (by omega)).mpr c_6), if_pos c_8], hR4, hf4.c⟩ dX4_anew_171
          · have c_5 : ¬ (bN (aB a) i) ≤ q := fun q9 => c_5 ((nI_leI (a := (bN (aB a) i)) (b := q) (by omega) (by omega)).mpr q9)
            refine lv_iconst (v := nI 0) X.x X.b dX4_anew_76 (by decide) ?_
            refine lv_istore (lv' := [(9, .int (nI 0)), (8, .int (nI q)), (7, .int (nI (bN (aB a) i))), (6, .int ((anN a i j (3 * q)).2.2)), (5, .int ((anN a i j (3 * q)).2.1)), (4, .int ((anN a i j (3 * q)).1)), (0, .ref (gad G 81)), (1, .int (nI i)), (2, .int (nI j)), (3, .int (nI k))]) X.x X.b dX4_anew_77 hl (by decide) rfl (fun ls hl => ?_)
            have lpi : ∀ (u0 u : Nat), 3 - u = u0 → u ≤ 3 → ∀ (ξ : Mem), RC ξ a → FrT σ ξ → ∀ (ls : Array Slot) (H : Heap) (locs : List Loc), lv_has ls 11 [(9, .int (nI u)), (8, .int (nI q)), (7, .int (nI (bN (aB a) i))), (6, .int ((anN a i j (3 * q + u)).2.2)), (5, .int ((anN a i j (3 * q + u)).2.1)), (4, .int ((anN a i j (3 * q + u)).1)), (0, .ref (gad G 81)), (1, .int (nI i)), (2, .int (nI j)), (3, .int (nI k))] → HH G s ξ H locs → WI l G p e s m args below meth c 5 116 (fun r τ => r = sp_anew (nI i) (nI j) (nI k) a ∧ RC τ a ∧ FrC σ τ) H locs (F0 m 79 ls []) := by
              intro km
              induction km using Nat.strongRecOn with
              | ind km ih2 =>
                intro u hk2 hu ξ hR5 hf5 ls H locs hl hh
                refine lv_iload X.x X.b dX4_anew_79 (lv_at hl 0 rfl) ?_
                refine lv_iconst (v := nI 2) X.x X.b dX4_anew_81 (by decide) ?_
                refine lv_icmp_gt (tgt := 146) X.x X.b dX4_anew_82 (by decide) (fun c_9 => ?_) (fun c_9 => ?_)
                · have c_9 : 2 < u := (nI_ltI (a := 2) (b := u) (by omega) (by omega)).mp c_9
                  refine lv_iinc (v := nI (q + 1)) (lv' := [(8, .int (nI (q + 1))), (9, .int (nI u)), (7, .int (nI (bN (aB a) i))), (6, .int ((anN a i j (3 * q + u)).2.2)), (5, .int ((anN a i j (3 * q + u)).2.1)), (4, .int ((anN a i j (3 * q + u)).1)), (0, .ref (gad G 81)), (1, .int (nI i)), (2, .int (nI j)), (3, .int (nI k))]) X.x X.b dX4_anew_146 hl (k := 1) rfl (nI_1 q) (by decide) rfl (fun ls hl => ?_)
                  refine lv_goto (tgt := 69) X.x X.b dX4_anew_149 (by decide) ?_
                  refine ih (bN (aB a) i - (q + 1)) (by omega) (q + 1) rfl (by omega) _ hR5 hf5 ls H locs ?_ hh
                  rw [show 3 * (q + 1) = 3 * q + u by omega]
                  exact lv_sub hl [0, 2, 3, 4, 5, 6, 7, 8, 9] rfl
                · have c_9 : ¬ 2 < u := fun q9 => c_9 ((nI_ltI (a := 2) (b := u) (by omega) (by omega)).mpr q9)
                  refine lv_aload_n X.x X.b dX4_anew_85 rfl (lv_at hl 6 rfl) ?_
                  refine f_get X hh (v := .ref (gad G 85)) (sh_81 G _) (by decide) rfl in_X4 3 (by decide) kf_X4_30 rfl dX4_anew_86 ?_
                  refine lv_aload_n X.x X.b dX4_anew_89 rfl (lv_at hl 6 rfl) ?_
                  refine f_get X hh (v := .ref (gad G 69)) (sh_81 G _) (by decide) rfl in_X4 1 (by decide) kf_X4_19 rfl dX4_anew_90 ?_
                  refine lv_iload_n X.x X.b dX4_anew_93 rfl (lv_at hl 7 rfl) ?_
                  refine lv_iload_n X.x X.b dX4_anew_94 rfl (lv_at hl 8 rfl) ?_
                  refine f_callv X hh (c_take l G (i := i) (j := j) (by omega) (by omega) hR5.2.1) mf_yX1_take ki_yX1_take kl_yX1_take km_X4_99 (sh_85 G _) (by decide) rfl rfl hl.1 [] rfl (Nat.le_of_ble_eq_true rfl) ⟨by decide, by decide⟩ ⟨Nat.zero_le _, Nat.zero_le _⟩ dX4_anew_95 (fun τ H locs hq hh => ?_)
                  obtain ⟨hM6, hf6⟩ := hq
                  have hR6 := hR5.kt hf6.t
                  refine lv_aload_n X.x X.b dX4_anew_98 rfl (lv_at hl 6 rfl) ?_
                  refine f_get X hh (v := .ref (gad G 85)) (sh_81 G _) (by decide) rfl in_X4 3 (by decide) kf_X4_30 rfl dX4_anew_99 ?_
                  refine lv_iload X.x X.b dX4_anew_102 (lv_at hl 1 rfl) ?_
                  refine lv_iload X.x X.b dX4_anew_104 (lv_at hl 0 rfl) ?_
                  refine f_callv X hh (c_stress l G (i := q) (x := u) hM6.1 (show q < bN (aB a) i by omega)) mf_yX1_stressSyllable ki_yX1_stressSyllable kl_yX1_stressSyllable km_X4_139 (sh_85 G _) (by decide) rfl rfl hl.1 [] rfl (Nat.le_of_ble_eq_true rfl) ⟨by decide, by decide⟩ ⟨Nat.zero_le _, Nat.zero_le _⟩ dX4_anew_106 (fun τ H locs hq hh => ?_)
                  obtain ⟨hv7, hf7⟩ := hq
                  have hM7 : LM τ (instA a i j q u) := hM6.strs hv7 hf7
                  have hR7 := hR6.kt (hf7.t (Or.inl rfl))
                  refine lv_aload_n X.x X.b dX4_anew_109 rfl (lv_at hl 6 rfl) ?_
                  refine f_get X hh (v := .ref (gad G 85)) (sh_81 G _) (by decide) rfl in_X4 3 (by decide) kf_X4_30 rfl dX4_anew_110 ?_
                  refine f_calli X hh (c_leastCost l G (I := instA a i j q u) (instA_ok hA (by omega) (by omega) (by omega)) hM7) mf_yX1_leastCost ki_yX1_leastCost kl_yX1_leastCost km_X4_107 (sh_85 G _) (by decide) rfl rfl hl.1 [] rfl (Nat.le_of_ble_eq_true rfl) ⟨by decide, by decide⟩ ⟨Nat.zero_le _, Nat.zero_le _⟩ dX4_anew_113 (fun r τ H locs hq hh => ?_)
                  obtain ⟨rfl, hf8⟩ := hq
                  have hR8 := hR7.kt hf8.t
                  refine lv_istore (lv' := [(10, .int (lcN (instA a i j q u))), (9, .int (nI u)), (8, .int (nI q)), (7, .int (nI (bN (aB a) i))), (6, .int ((anN a i j (3 * q + u)).2.2)), (5, .int ((anN a i j (3 * q + u)).2.1)), (4, .int ((anN a i j (3 * q + u)).1)), (0, .ref (gad G 81)), (1, .int (nI i)), (2, .int (nI j)), (3, .int (nI k))]) X.x X.b dX4_anew_116 hl (by decide) rfl (fun ls hl => ?_)
                  refine lv_iload X.x X.b dX4_anew_118 (lv_at hl 0 rfl) ?_
                  refine lv_iload X.x X.b dX4_anew_120 (lv_at hl 4 rfl) ?_
                  refine f_scalli X hh (c_isCheaper l G (lcN (instA a i j q u)) ((anN a i j (3 * q + u)).2.2)) mf_yX4_isCheaper ks_yX4_isCheaper km_X4_132 rfl hl.1 [] rfl (Nat.le_of_ble_eq_true rfl) ⟨by decide, by decide⟩ ⟨Nat.zero_le _, Nat.zero_le _⟩ dX4_anew_122 (fun r τ H locs hq hh => ?_)
                  obtain ⟨rfl, hτ⟩ := hq
                  rw [hτ] at hh
                  clear hτ
                  by_cases c_10 : lcN (instA a i j q u) ≠ -6 ∧ ((anN a i j (3 * q + u)).2.2 = -6 ∨ lcN (instA a i j q u) < (anN a i j (3 * q + u)).2.2)
                  · rw [show (if lcN (instA a i j q u) ≠ -6 ∧ ((anN a i j (3 * q + u)).2.2 = -6 ∨ lcN (instA a i j q u) < (anN a i j (3 * q + u)).2.2) then (1 : Int32) else 0) = 1 from if_pos c_10]
                    refine lv_if_eq (tgt := 140) X.x X.b dX4_anew_125 (by decide) (fun h9 => absurd h9 (by decide)) (fun _ => ?_)
                    refine lv_iload X.x X.b dX4_anew_128 (lv_at hl 2 rfl) ?_
                    refine lv_istore (lv' := [(4, .int (nI q)), (10, .int (lcN (instA a i j q u))), (9, .int (nI u)), (8, .int (nI q)), (7, .int (nI (bN (aB a) i))), (6, .int ((anN a i j (3 * q + u)).2.2)), (5, .int ((anN a i j (3 * q + u)).2.1)), (0, .ref (gad G 81)), (1, .int (nI i)), (2, .int (nI j)), (3, .int (nI k))]) X.x X.b dX4_anew_130 hl (by decide) rfl (fun ls hl => ?_)
                    refine lv_iload X.x X.b dX4_anew_132 (lv_at hl 2 rfl) ?_
                    refine lv_istore (lv' := [(5, .int (nI u)), (4, .int (nI q)), (10, .int (lcN (instA a i j q u))), (9, .int (nI u)), (8, .int (nI q)), (7, .int (nI (bN (aB a) i))), (6, .int ((anN a i j (3 * q + u)).2.2)), (0, .ref (gad G 81)), (1, .int (nI i)), (2, .int (nI j)), (3, .int (nI k))]) X.x X.b dX4_anew_134 hl (by decide) rfl (fun ls hl => ?_)
                    refine lv_iload X.x X.b dX4_anew_136 (lv_at hl 2 rfl) ?_
                    refine lv_istore (lv' := [(6, .int (lcN (instA a i j q u))), (5, .int (nI u)), (4, .int (nI q)), (10, .int (lcN (instA a i j q u))), (9, .int (nI u)), (8, .int (nI q)), (7, .int (nI (bN (aB a) i))), (0, .ref (gad G 81)), (1, .int (nI i)), (2, .int (nI j)), (3, .int (nI k))]) X.x X.b dX4_anew_138 hl (by decide) rfl (fun ls hl => ?_)
                    refine lv_iinc (v := nI (u + 1)) (lv' := [(9, .int (nI (u + 1))), (6, .int (lcN (instA a i j q u))), (5, .int (nI u)), (4, .int (nI q)), (10, .int (lcN (instA a i j q u))), (8, .int (nI q)), (7, .int (nI (bN (aB a) i))), (0, .ref (gad G 81)), (1, .int (nI i)), (2, .int (nI j)), (3, .int (nI k))]) X.x X.b dX4_anew_140 hl (k := 4) rfl (nI_1 u) (by decide) rfl (fun ls hl => ?_)
                    refine lv_goto (tgt := 79) X.x X.b dX4_anew_143 (by decide) ?_
                    refine ih2 (3 - (u + 1)) (by omega) (u + 1) rfl (by omega) _ hR8 (((hf5.tr hf6.t).tr (hf7.t (Or.inl rfl))).tr hf8.t) ls H locs ?_ hh
                    rw [← Nat.add_assoc, anN_s (by omega), if_pos c_10]
                    exact lv_sub hl [0, 5, 6, 1, 2, 3, 7, 8, 9, 10] rfl
                  · rw [show (if lcN (instA a i j q u) ≠ -6 ∧ ((anN a i j (3 * q + u)).2.2 = -6 ∨ lcN (instA a i j q u) < (anN a i j (3 * q + u)).2.2) then (1 : Int32) else 0) = 0 from if_neg c_10]
                    refine lv_if_eq (tgt := 140) X.x X.b dX4_anew_125 (by decide) (fun _ => ?_) (fun h9 => absurd (show _ by decide) h9)
                    refine lv_iinc (v := nI (u + 1)) (lv' := [(9, .int (nI (u + 1))), (10, .int (lcN (instA a i j q u))), (8, .int (nI q)), (7, .int (nI (bN (aB a) i))), (6, .int ((anN a i j (3 * q + u)).2.2)), (5, .int ((anN a i j (3 * q + u)).2.1)), (4, .int ((anN a i j (3 * q + u)).1)), (0, .ref (gad G 81)), (1, .int (nI i)), (2, .int (nI j)), (3, .int (nI k))]) X.x X.b dX4_anew_140 hl (k := 1) rfl (nI_1 u) (by decide) rfl (fun ls hl => ?_)
                    refine lv_goto (tgt := 79) X.x X.b dX4_anew_143 (by decide) ?_
                    refine ih2 (3 - (u + 1)) (by omega) (u + 1) rfl (by omega) _ hR8 (((hf5.tr hf6.t).tr (hf7.t (Or.inl rfl))).tr hf8.t) ls H locs ?_ hh
                    rw [← Nat.add_assoc, anN_s (by omega), if_neg c_10]
                    exact lv_sub hl [0, 2, 3, 4, 5, 6, 7, 8, 9, 10] rfl
            exact lpi 3 0 rfl (by omega) υ hR4 hf4 ls H locs (lv_sub hl [0, 1, 2, 3, 4, 5, 6, 7, 8, 9] rfl) hh
      refine lv_bipush (v := (-6)) X.x X.b dX4_anew_22 (by decide) ?_
      refine lv_istore (lv' := [(4, .int ((-6))), (0, .ref (gad G 81)), (1, .int (nI i)), (2, .int (nI j)), (3, .int (nI k))]) X.x X.b dX4_anew_24 hl (by decide) rfl (fun ls hl => ?_)
      refine lv_bipush (v := (-6)) X.x X.b dX4_anew_26 (by decide) ?_
      refine lv_istore (lv' := [(5, .int ((-6))), (4, .int ((-6))), (0, .ref (gad G 81)), (1, .int (nI i)), (2, .int (nI j)), (3, .int (nI k))]) X.x X.b dX4_anew_28 hl (by decide) rfl (fun ls hl => ?_)
      refine lv_aload_n X.x X.b dX4_anew_30 rfl (lv_at hl 2 rfl) ?_
      refine f_get X hh (v := .ref (gad G 85)) (sh_81 G _) (by decide) rfl in_X4 3 (by decide) kf_X4_30 rfl dX4_anew_31 ?_
      refine lv_aload_n X.x X.b dX4_anew_34 rfl (lv_at hl 2 rfl) ?_
      refine f_get X hh (v := .ref (gad G 69)) (sh_81 G _) (by decide) rfl in_X4 1 (by decide) kf_X4_19 rfl dX4_anew_35 ?_
      refine lv_iload_n X.x X.b dX4_anew_38 rfl (lv_at hl 3 rfl) ?_
      refine lv_iload_n X.x X.b dX4_anew_39 rfl (lv_at hl 4 rfl) ?_
      refine f_callv X hh (c_take l G (i := i) (j := j) (by omega) (by omega) hR.2.1) mf_yX1_take ki_yX1_take kl_yX1_take km_X4_99 (sh_85 G _) (by decide) rfl rfl hl.1 [] rfl (Nat.le_of_ble_eq_true rfl) ⟨by decide, by decide⟩ ⟨Nat.zero_le _, Nat.zero_le _⟩ dX4_anew_40 (fun τ H locs hq hh => ?_)
      obtain ⟨hM1, hf1⟩ := hq
      have hR1 := hR.kt hf1.t
      refine lv_aload_n X.x X.b dX4_anew_43 rfl (lv_at hl 2 rfl) ?_
      refine f_get X hh (v := .ref (gad G 85)) (sh_81 G _) (by decide) rfl in_X4 3 (by decide) kf_X4_30 rfl dX4_anew_44 ?_
      refine f_calli X hh (c_leastCost l G (I := inst a i j) hI hM1) mf_yX1_leastCost ki_yX1_leastCost kl_yX1_leastCost km_X4_107 (sh_85 G _) (by decide) rfl rfl hl.1 [] rfl (Nat.le_of_ble_eq_true rfl) ⟨by decide, by decide⟩ ⟨Nat.zero_le _, Nat.zero_le _⟩ dX4_anew_47 (fun r τ H locs hq hh => ?_)
      obtain ⟨rfl, hf2⟩ := hq
      have hR2 := hR1.kt hf2.t
      refine lv_istore (lv' := [(6, .int (lcN (inst a i j))), (5, .int ((-6))), (4, .int ((-6))), (0, .ref (gad G 81)), (1, .int (nI i)), (2, .int (nI j)), (3, .int (nI k))]) X.x X.b dX4_anew_50 hl (by decide) rfl (fun ls hl => ?_)
      refine lv_aload_n X.x X.b dX4_anew_52 rfl (lv_at hl 3 rfl) ?_
      refine f_get X hh (v := .ref (gad G 69)) (sh_81 G _) (by decide) rfl in_X4 1 (by decide) kf_X4_19 rfl dX4_anew_53 ?_
      refine f_get X hh (v := .ref (gad G 70)) (sh_69 G _) (by decide) rfl in_X0 0 (by decide) kf_X4_63 rfl dX4_anew_56 ?_
      refine lv_iload_n X.x X.b dX4_anew_59 rfl (lv_at hl 4 rfl) ?_
      refine f_aald X hh (j := i) 2 (sh_70 G _) rfl rfl (by decide) rfl (by omega) (by decide) dX4_anew_60 ?_
      refine f_geti X hh (x := nI (bN (aB a) i)) (sh_row G (r := 7 * 0 + i) (by omega) _) (by omega) rfl in_X3 3 (by decide) kf_X4_71 rfl (hR2.2.1.1 _ (by omega)).1 dX4_anew_61 ?_
      refine lv_istore (lv' := [(7, .int (nI (bN (aB a) i))), (6, .int (lcN (inst a i j))), (5, .int ((-6))), (4, .int ((-6))), (0, .ref (gad G 81)), (1, .int (nI i)), (2, .int (nI j)), (3, .int (nI k))]) X.x X.b dX4_anew_64 hl (by decide) rfl (fun ls hl => ?_)
      refine lv_iconst (v := nI 0) X.x X.b dX4_anew_66 (by decide) ?_
      refine lv_istore (lv' := [(8, .int (nI 0)), (7, .int (nI (bN (aB a) i))), (6, .int (lcN (inst a i j))), (5, .int ((-6))), (4, .int ((-6))), (0, .ref (gad G 81)), (1, .int (nI i)), (2, .int (nI j)), (3, .int (nI k))]) X.x X.b dX4_anew_67 hl (by decide) rfl (fun ls hl => ?_)
      exact lp (bN (aB a) i) 0 rfl (by omega) _ hR2 (hf1.t.tr hf2.t) ls H locs (lv_sub hl [0, 1, 2, 3, 4, 5, 6, 7, 8] rfl) hh
    · rw [show (if inB v 0 2 then (1 : Int32) else 0) = 0 from if_neg c_3]
      refine lv_if_ne (tgt := 22) X.x X.b dX4_anew_16 (by decide) (fun h9 => absurd (show _ by decide) h9) (fun _ => ?_)
      refine lv_bipush (v := (-2)) X.x X.b dX4_anew_19 (by decide) ?_
      exact f_iret X hh ⟨by unfold sp_anew; rw [if_pos c_1, if_neg c_3], hR, FrC.rf⟩ dX4_anew_21
  · rw [show (if kno x y then (1 : Int32) else 0) = 0 from if_neg c_1]
    refine lv_if_ne (tgt := 10) X.x X.b dX4_anew_5 (by decide) (fun h9 => absurd (show _ by decide) h9) (fun _ => ?_)
    refine lv_iconst (v := (-1)) X.x X.b dX4_anew_8 (by decide) ?_
    exact f_iret X hh ⟨(if_neg c_1).symm, hR, FrC.rf⟩ dX4_anew_9
set_option maxHeartbeats 4000000 in
set_option maxRecDepth 100000 in
theorem c4_image (l : Launch) (G : GG) {σ : Mem} {a : AS} (x : Int32) (hA : AOK a) (hR : RC σ a) : Ci l G yX4_image cX4_image 2 (some .int) 4 90 [.ref (gad G 81), .int x] σ (fun r τ => r = sp_image x a ∧ RC τ (ns_image x a) ∧ FrC σ τ) := by
  refine Ci.of (own := RX4) (by decide) rfl (Nat.le_of_ble_eq_true rfl) (fun p e s m args below meth c ls H locs X hl hh => ?_)
  have hl : lv_has ls 2 [(0, .ref (gad G 81)), (1, .int x)] := hl
  refine lv_iload_n X.x X.b dX4_image_0 rfl (lv_at hl 1 rfl) ?_
  refine lv_iconst (v := nI 0) X.x X.b dX4_image_1 (by decide) ?_
  refine lv_iconst (v := nI 1) X.x X.b dX4_image_2 (by decide) ?_
  refine f_scalli X hh (c_withinB l G x 0 1 (by decide) (by decide)) mf_yX4_isWithin ks_yX4_isWithin km_X4_38 rfl hl.1 [] rfl (Nat.le_of_ble_eq_true rfl) ⟨by decide, by decide⟩ ⟨Nat.zero_le _, Nat.zero_le _⟩ dX4_image_3 (fun r τ H locs hq hh => ?_)
  obtain ⟨rfl, hτ⟩ := hq
  rw [hτ] at hh
  clear hτ
  by_cases c_1 : inB x 0 1
  · rw [show (if inB x 0 1 then (1 : Int32) else 0) = 1 from if_pos c_1]
    obtain ⟨k, ha_k, hb_k, rfl⟩ := inB_of c_1 (by decide)
    refine lv_if_ne (tgt := 12) X.x X.b dX4_image_6 (by decide) (fun _ => ?_) (fun h9 => absurd h9 (by decide))
    refine lv_aload_n X.x X.b dX4_image_12 rfl (lv_at hl 0 rfl) ?_
    refine f_get X hh (v := .ref (gad G 82)) (sh_81 G _) (by decide) rfl in_X4 2 (by decide) kf_X4_23 rfl dX4_image_13 ?_
    refine lv_iload_n X.x X.b dX4_image_16 rfl (lv_at hl 1 rfl) ?_
    refine f_aald X hh (j := k) 3 (sh_82 G _) rfl rfl (by decide) rfl (by omega) (by decide) dX4_image_17 ?_
    refine lv_aload_n X.x X.b dX4_image_18 rfl (lv_at hl 0 rfl) ?_
    refine f_get X hh (v := .ref (gad G 69)) (sh_81 G _) (by decide) rfl in_X4 1 (by decide) kf_X4_19 rfl dX4_image_19 ?_
    refine f_callv X hh (c_bookCopy l G (a := 0) (b := 1 + k) (by decide) (by omega) (by omega) hR.2.1) mf_yX0_copyFrom ki_yX0_copyFrom kl_yX0_copyFrom km_X4_143 (sh_book G (b := 1 + k) (by omega) _) (by omega) rfl rfl hl.1 [] rfl (Nat.le_of_ble_eq_true rfl) ⟨by decide, by decide⟩ ⟨Nat.zero_le _, Nat.zero_le _⟩ dX4_image_22 (fun τ H locs hq hh => ?_)
    obtain ⟨hb1, hf1⟩ := hq
    have hk1 : τ 81 = σ 81 := hf1 _ (by omega) (by omega)
    refine lv_aload_n X.x X.b dX4_image_25 rfl (lv_at hl 0 rfl) ?_
    refine lv_dup X.x X.b dX4_image_26 rfl ?_
    refine f_geti X hh (x := nI (kbit a)) (sh_81 G _) (by decide) rfl in_X4 4 (by decide) kf_X4_34 rfl (by rw [hk1]; exact hR.2.2.2) dX4_image_27 ?_
    refine lv_iconst (v := nI 1) X.x X.b dX4_image_30 (by decide) ?_
    refine lv_iload_n X.x X.b dX4_image_31 rfl (lv_at hl 1 rfl) ?_
    refine lv_ishl X.x X.b dX4_image_32 ?_
    refine lv_ior X.x X.b dX4_image_33 ?_
    rw [kb_or (by omega)]
    refine f_put X hh (x := nI (kbit (ns_image (nI k) a))) (sh_81 G _) (by decide) rfl in_X4 4 (sh_81 G _) tyX4 tyX4_ok nmX4 (by decide) kf_X4_34 rfl (by decide +kernel) (Nat.le_of_ble_eq_true rfl) dX4_image_34 (fun H locs hh => ?_)
    refine lv_iconst (v := nI 1) X.x X.b dX4_image_37 (by decide) ?_
    exact f_iret X hh ⟨(if_pos c_1).symm, hR.img (by omega) hb1 hf1 (fun j9 h9 => mset_n h9) mset_ss, fun k9 h9 => by rw [mset_n (by omega)]; exact hf1 k9 (by omega) (by omega)⟩ dX4_image_38
  · rw [show (if inB x 0 1 then (1 : Int32) else 0) = 0 from if_neg c_1]
    refine lv_if_ne (tgt := 12) X.x X.b dX4_image_6 (by decide) (fun h9 => absurd (show _ by decide) h9) (fun _ => ?_)
    refine lv_bipush (v := (-2)) X.x X.b dX4_image_9 (by decide) ?_
    exact f_iret X hh ⟨(if_neg c_1).symm, by unfold ns_image; rw [if_neg c_1]; exact hR, FrC.rf⟩ dX4_image_11
set_option maxHeartbeats 4000000 in
set_option maxRecDepth 100000 in
theorem c4_restore (l : Launch) (G : GG) {σ : Mem} {a : AS} (x : Int32) (hA : AOK a) (hR : RC σ a) : Ci l G yX4_restore cX4_restore 2 (some .int) 4 90 [.ref (gad G 81), .int x] σ (fun r τ => r = sp_restore x a ∧ RC τ (ns_restore x a) ∧ FrC σ τ) := by
  refine Ci.of (own := RX4) (by decide) rfl (Nat.le_of_ble_eq_true rfl) (fun p e s m args below meth c ls H locs X hl hh => ?_)
  have hl : lv_has ls 2 [(0, .ref (gad G 81)), (1, .int x)] := hl
  refine lv_iload_n X.x X.b dX4_restore_0 rfl (lv_at hl 1 rfl) ?_
  refine lv_iconst (v := nI 0) X.x X.b dX4_restore_1 (by decide) ?_
  refine lv_iconst (v := nI 1) X.x X.b dX4_restore_2 (by decide) ?_
  refine f_scalli X hh (c_withinB l G x 0 1 (by decide) (by decide)) mf_yX4_isWithin ks_yX4_isWithin km_X4_38 rfl hl.1 [] rfl (Nat.le_of_ble_eq_true rfl) ⟨by decide, by decide⟩ ⟨Nat.zero_le _, Nat.zero_le _⟩ dX4_restore_3 (fun r τ H locs hq hh => ?_)
  obtain ⟨rfl, hτ⟩ := hq
  rw [hτ] at hh
  clear hτ
  by_cases c_1 : inB x 0 1
  · rw [show (if inB x 0 1 then (1 : Int32) else 0) = 1 from if_pos c_1]
    obtain ⟨k, ha_k, hb_k, rfl⟩ := inB_of c_1 (by decide)
    refine lv_if_ne (tgt := 12) X.x X.b dX4_restore_6 (by decide) (fun _ => ?_) (fun h9 => absurd h9 (by decide))
    refine lv_aload_n X.x X.b dX4_restore_12 rfl (lv_at hl 0 rfl) ?_
    refine f_geti X hh (x := nI (kbit a)) (sh_81 G _) (by decide) rfl in_X4 4 (by decide) kf_X4_34 rfl hR.2.2.2 dX4_restore_13 ?_
    refine lv_iload_n X.x X.b dX4_restore_16 rfl (lv_at hl 1 rfl) ?_
    refine lv_ishr X.x X.b dX4_restore_17 ?_
    refine lv_iconst (v := nI 1) X.x X.b dX4_restore_18 (by decide) ?_
    refine lv_iand X.x X.b dX4_restore_19 ?_
    rw [kb_shr (by omega)]
    have hk8 : (if aK a k = true then 1 else 0) ≤ 1 := by split <;> omega
    refine lv_if_ne (tgt := 26) X.x X.b dX4_restore_20 (by decide) (fun c_3 => ?_) (fun c_3 => ?_)
    · have c_3 : ¬ (if aK a k = true then 1 else 0) = 0 := fun q9 => c_3 ((nI_eq (a := (if aK a k = true then 1 else 0)) (b := 0) (by omega) (by omega)).mpr q9)
      refine lv_aload_n X.x X.b dX4_restore_26 rfl (lv_at hl 0 rfl) ?_
      refine f_get X hh (v := .ref (gad G 69)) (sh_81 G _) (by decide) rfl in_X4 1 (by decide) kf_X4_19 rfl dX4_restore_27 ?_
      refine lv_aload_n X.x X.b dX4_restore_30 rfl (lv_at hl 0 rfl) ?_
      refine f_get X hh (v := .ref (gad G 82)) (sh_81 G _) (by decide) rfl in_X4 2 (by decide) kf_X4_23 rfl dX4_restore_31 ?_
      refine lv_iload_n X.x X.b dX4_restore_34 rfl (lv_at hl 1 rfl) ?_
      refine f_aald X hh (j := k) 3 (sh_82 G _) rfl rfl (by decide) rfl (by omega) (by decide) dX4_restore_35 ?_
      have hk9 : aK a k = true := Classical.byContradiction (fun q9 => c_3 (if_neg q9))
      refine f_callv X hh (c_bookCopy l G (a := 1 + k) (b := 0) (by omega) (by decide) (by omega) (hR.2.2.1 k (by omega) hk9)) mf_yX0_copyFrom ki_yX0_copyFrom kl_yX0_copyFrom km_X4_143 (sh_69 G _) (by decide) rfl rfl hl.1 [] rfl (Nat.le_of_ble_eq_true rfl) ⟨by decide, by decide⟩ ⟨Nat.zero_le _, Nat.zero_le _⟩ dX4_restore_36 (fun τ H locs hq hh => ?_)
      obtain ⟨hb1, hf1⟩ := hq
      refine lv_iconst (v := nI 1) X.x X.b dX4_restore_39 (by decide) ?_
      exact f_iret X hh ⟨by unfold sp_restore; rw [if_pos c_1, ix_nI (by omega), if_pos hk9], by unfold ns_restore; rw [if_pos c_1, ix_nI (by omega), if_pos hk9]; exact hR.rst (by omega) hb1 hf1, fun k9 h9 => hf1 k9 (by omega) (by omega)⟩ dX4_restore_40
    · have c_3 : (if aK a k = true then 1 else 0) = 0 := (nI_eq (a := (if aK a k = true then 1 else 0)) (b := 0) (by omega) (by omega)).mp c_3
      refine lv_bipush (v := (-3)) X.x X.b dX4_restore_23 (by decide) ?_
      exact f_iret X hh ⟨by unfold sp_restore; rw [if_pos c_1, ix_nI (by omega), if_neg (fun q9 => by rw [if_pos q9] at c_3; cases c_3)], by unfold ns_restore; rw [if_pos c_1, ix_nI (by omega), if_neg (fun q9 => by rw [if_pos q9] at c_3; cases c_3)]; exact hR, FrC.rf⟩ dX4_restore_25
  · rw [show (if inB x 0 1 then (1 : Int32) else 0) = 0 from if_neg c_1]
    refine lv_if_ne (tgt := 12) X.x X.b dX4_restore_6 (by decide) (fun h9 => absurd (show _ by decide) h9) (fun _ => ?_)
    refine lv_bipush (v := (-2)) X.x X.b dX4_restore_9 (by decide) ?_
    exact f_iret X hh ⟨(if_neg c_1).symm, by unfold ns_restore; rw [if_neg c_1]; exact hR, FrC.rf⟩ dX4_restore_11
set_option maxHeartbeats 4000000 in
set_option maxRecDepth 100000 in
theorem c4_count (l : Launch) (G : GG) {σ : Mem} {a : AS} (x : Int32) (hA : AOK a) (hR : RC σ a) : Ci l G yX4_count cX4_count 2 (some .int) 2 44 [.ref (gad G 81), .int x] σ (fun r τ => r = sp_count x a ∧ RC τ a ∧ FrC σ τ) := by
  refine Ci.of (own := RX4) (by decide) rfl (Nat.le_of_ble_eq_true rfl) (fun p e s m args below meth c ls H locs X hl hh => ?_)
  have hl : lv_has ls 2 [(0, .ref (gad G 81)), (1, .int x)] := hl
  refine lv_iload_n X.x X.b dX4_count_0 rfl (lv_at hl 1 rfl) ?_
  refine lv_bipush (v := nI 10) X.x X.b dX4_count_1 (by decide) ?_
  refine lv_bipush (v := nI 13) X.x X.b dX4_count_3 (by decide) ?_
  refine f_scalli X hh (c_withinB l G x 10 13 (by decide) (by decide)) mf_yX4_isWithin ks_yX4_isWithin km_X4_38 rfl hl.1 [] rfl (Nat.le_of_ble_eq_true rfl) ⟨by decide, by decide⟩ ⟨Nat.zero_le _, Nat.zero_le _⟩ dX4_count_5 (fun r τ H locs hq hh => ?_)
  obtain ⟨rfl, hτ⟩ := hq
  rw [hτ] at hh
  clear hτ
  by_cases c_1 : inB x 10 13
  · rw [show (if inB x 10 13 then (1 : Int32) else 0) = 1 from if_pos c_1]
    obtain ⟨k, ha_k, hb_k, rfl⟩ := inB_of c_1 (by decide)
    refine lv_if_eq (tgt := 24) X.x X.b dX4_count_8 (by decide) (fun h9 => absurd h9 (by decide)) (fun _ => ?_)
    refine lv_aload_n X.x X.b dX4_count_11 rfl (lv_at hl 0 rfl) ?_
    refine f_get X hh (v := .ref (gad G 69)) (sh_81 G _) (by decide) rfl in_X4 1 (by decide) kf_X4_19 rfl dX4_count_12 ?_
    refine f_get X hh (v := .ref (gad G 72)) (sh_69 G _) (by decide) rfl in_X0 2 (by decide) kf_X4_83 rfl dX4_count_15 ?_
    refine lv_iload_n X.x X.b dX4_count_18 rfl (lv_at hl 1 rfl) ?_
    refine lv_bipush (v := nI 10) X.x X.b dX4_count_19 (by decide) ?_
    refine f_isub X (z := nI (k - 10)) (pk_sub (a := k) (b := 10) (by omega)) dX4_count_21 ?_
    refine f_ialdx X hh (j := k - 10) (y := nI (bU (aB a) (k - 10))) (sh_72 G _) (by decide) rfl (by omega) (by decide) (hR.2.1.2 _ (by omega)) dX4_count_22 ?_
    exact f_iret X hh ⟨by unfold sp_count; rw [if_pos c_1, ix_nI (by omega)], hR, FrC.rf⟩ dX4_count_23
  · rw [show (if inB x 10 13 then (1 : Int32) else 0) = 0 from if_neg c_1]
    refine lv_if_eq (tgt := 24) X.x X.b dX4_count_8 (by decide) (fun _ => ?_) (fun h9 => absurd (show _ by decide) h9)
    by_cases hx : inB x 0 4
    · obtain ⟨k, ha_k, hb_k, rfl⟩ := inB_of hx (by decide)
      rcases (show k = 0 ∨ k = 1 ∨ k = 2 ∨ k = 3 ∨ k = 4 by omega) with rfl | rfl | rfl | rfl | rfl
      · refine lv_iload_n X.x X.b dX4_count_24 rfl (lv_at hl 1 rfl) ?_
        refine lv_tableIn (off := 35) (tgt := 60) X.x X.b dX4_count_25 (by decide) (by decide) (by decide +kernel) (by decide) ?_
        refine lv_aload_n X.x X.b dX4_count_60 rfl (lv_at hl 0 rfl) ?_
        refine f_get X hh (v := .ref (gad G 69)) (sh_81 G _) (by decide) rfl in_X4 1 (by decide) kf_X4_19 rfl dX4_count_61 ?_
        refine f_calli X hh (c_syllablesInAll l G (b := 0) (by decide) hR.2.1) mf_yX0_syllablesInAll ki_yX0_syllablesInAll kl_yX0_syllablesInAll km_X4_147 (sh_69 G _) (by decide) rfl rfl hl.1 [] rfl (Nat.le_of_ble_eq_true rfl) ⟨by decide, by decide⟩ ⟨Nat.zero_le _, Nat.zero_le _⟩ dX4_count_64 (fun r τ H locs hq hh => ?_)
        obtain ⟨rfl, hτ⟩ := hq
        rw [hτ] at hh
        clear hτ
        exact f_iret X hh ⟨by unfold sp_count; rw [if_neg c_1, if_pos (by decide)], hR, FrC.rf⟩ dX4_count_67
      · refine lv_iload_n X.x X.b dX4_count_24 rfl (lv_at hl 1 rfl) ?_
        refine lv_tableIn (off := 43) (tgt := 68) X.x X.b dX4_count_25 (by decide) (by decide) (by decide +kernel) (by decide) ?_
        refine lv_aload_n X.x X.b dX4_count_68 rfl (lv_at hl 0 rfl) ?_
        refine f_get X hh (v := .ref (gad G 69)) (sh_81 G _) (by decide) rfl in_X4 1 (by decide) kf_X4_19 rfl dX4_count_69 ?_
        refine f_calli X hh (c_notesInAll l G (b := 0) (by decide) hR.2.1) mf_yX0_notesInAll ki_yX0_notesInAll kl_yX0_notesInAll km_X4_150 (sh_69 G _) (by decide) rfl rfl hl.1 [] rfl (Nat.le_of_ble_eq_true rfl) ⟨by decide, by decide⟩ ⟨Nat.zero_le _, Nat.zero_le _⟩ dX4_count_72 (fun r τ H locs hq hh => ?_)
        obtain ⟨rfl, hτ⟩ := hq
        rw [hτ] at hh
        clear hτ
        exact f_iret X hh ⟨by unfold sp_count; rw [if_neg c_1, if_neg (by decide), if_pos (by decide)], hR, FrC.rf⟩ dX4_count_75
      · refine lv_iload_n X.x X.b dX4_count_24 rfl (lv_at hl 1 rfl) ?_
        refine lv_tableIn (off := 51) (tgt := 76) X.x X.b dX4_count_25 (by decide) (by decide) (by decide +kernel) (by decide) ?_
        refine lv_aload_n X.x X.b dX4_count_76 rfl (lv_at hl 0 rfl) ?_
        refine f_get X hh (v := .ref (gad G 83)) (sh_81 G _) (by decide) rfl in_X4 0 (by decide) kf_X4_12 rfl dX4_count_77 ?_
        refine f_geti X hh (x := nI (apn a)) (sh_83 G _) (by decide) rfl in_X2 1 (by decide) kf_X4_42 rfl hR.1.1 dX4_count_80 ?_
        exact f_iret X hh ⟨by unfold sp_count; rw [if_neg c_1, if_neg (by decide), if_neg (by decide), if_pos (by decide)], hR, FrC.rf⟩ dX4_count_83
      · refine lv_iload_n X.x X.b dX4_count_24 rfl (lv_at hl 1 rfl) ?_
        refine lv_tableIn (off := 59) (tgt := 84) X.x X.b dX4_count_25 (by decide) (by decide) (by decide +kernel) (by decide) ?_
        refine lv_aload_n X.x X.b dX4_count_84 rfl (lv_at hl 0 rfl) ?_
        refine f_get X hh (v := .ref (gad G 69)) (sh_81 G _) (by decide) rfl in_X4 1 (by decide) kf_X4_19 rfl dX4_count_85 ?_
        refine f_calli X hh (c_lengthsInAll l G (b := 0) (by decide) hR.2.1) mf_yX0_lengthsInAll ki_yX0_lengthsInAll kl_yX0_lengthsInAll km_X4_153 (sh_69 G _) (by decide) rfl rfl hl.1 [] rfl (Nat.le_of_ble_eq_true rfl) ⟨by decide, by decide⟩ ⟨Nat.zero_le _, Nat.zero_le _⟩ dX4_count_88 (fun r τ H locs hq hh => ?_)
        obtain ⟨rfl, hτ⟩ := hq
        rw [hτ] at hh
        clear hτ
        exact f_iret X hh ⟨by unfold sp_count; rw [if_neg c_1, if_neg (by decide), if_neg (by decide), if_neg (by decide), if_pos (by decide)], hR, FrC.rf⟩ dX4_count_91
      · refine lv_iload_n X.x X.b dX4_count_24 rfl (lv_at hl 1 rfl) ?_
        refine lv_tableIn (off := 67) (tgt := 92) X.x X.b dX4_count_25 (by decide) (by decide) (by decide +kernel) (by decide) ?_
        refine lv_aload_n X.x X.b dX4_count_92 rfl (lv_at hl 0 rfl) ?_
        refine f_geti X hh (x := nI (kbit a)) (sh_81 G _) (by decide) rfl in_X4 4 (by decide) kf_X4_34 rfl hR.2.2.2 dX4_count_93 ?_
        exact f_iret X hh ⟨by unfold sp_count; rw [if_neg c_1, if_neg (by decide), if_neg (by decide), if_neg (by decide), if_neg (by decide), if_pos (by decide)], hR, FrC.rf⟩ dX4_count_96
    · refine lv_iload_n X.x X.b dX4_count_24 rfl (lv_at hl 1 rfl) ?_
      refine lv_tableOut (tgt := 97) X.x X.b dX4_count_25 (by omega) (by decide) ?_
      refine lv_bipush (v := (-2)) X.x X.b dX4_count_97 (by decide) ?_
      exact f_iret X hh ⟨by unfold sp_count; rw [if_neg c_1, if_neg (fun q9 => hx (by rw [q9]; decide)), if_neg (fun q9 => hx (by rw [q9]; decide)), if_neg (fun q9 => hx (by rw [q9]; decide)), if_neg (fun q9 => hx (by rw [q9]; decide)), if_neg (fun q9 => hx (by rw [q9]; decide))], hR, FrC.rf⟩ dX4_count_99
