theorem ho_s0 {I : LI} {y k : Nat} (h : ¬ (pth I (k + 1)).2 = y + 1) : ho I y (k + 1) = ho I y k := by
  have e : ho I y (k + 1) = ho I y k + (if (pth I (k + 1)).2 = y + 1 then 1 else 0) := rfl
  rw [e, if_neg h]; rfl
theorem ho_s1 {I : LI} {y k : Nat} (h : (pth I (k + 1)).2 = y + 1) : ho I y (k + 1) = ho I y k + 1 := by
  have e : ho I y (k + 1) = ho I y k + (if (pth I (k + 1)).2 = y + 1 then 1 else 0) := rfl
  rw [e, if_pos h]
theorem fo_s0 {I : LI} {y k : Nat} (h : ¬ ((fo I y k).isNone ∧ (pth I (k + 1)).2 = y + 1)) : fo I y (k + 1) = fo I y k := by
  have e : fo I y (k + 1) = if (fo I y k).isNone ∧ (pth I (k + 1)).2 = y + 1 then some ((pth I (k + 1)).1 - 1) else fo I y k := rfl
  rw [e, if_neg h]
theorem fo_s1 {I : LI} {y k : Nat} (h : (fo I y k).isNone ∧ (pth I (k + 1)).2 = y + 1) : fo I y (k + 1) = some ((pth I (k + 1)).1 - 1) := by
  have e : fo I y (k + 1) = if (fo I y k).isNone ∧ (pth I (k + 1)).2 = y + 1 then some ((pth I (k + 1)).1 - 1) else fo I y k := rfl
  rw [e, if_pos h]
theorem ho_le {I : LI} {y : Nat} : ∀ (k : Nat), ho I y k ≤ k
  | 0 => Nat.le_refl 0
  | k + 1 => by
    have e : ho I y (k + 1) = ho I y k + (if (pth I (k + 1)).2 = y + 1 then 1 else 0) := rfl
    have := ho_le (I := I) (y := y) k
    rw [e]; split <;> omega
theorem anr6 (x : Int32) : anr (-6, -6, -6) x = -6 := by
  unfold anr
  split
  · rfl
  · split <;> rfl
theorem mset2 {ξ τ : Mem} {k q : Nat} {v w : Int32} (h : τ k = mset ξ k q v k) : mset τ k q w k = mset ξ k q w k := by
  rw [mset_s, mset_s, h, mset_s]
  funext z
  by_cases ez : z = q
  · unfold upd; rw [if_pos ez, if_pos ez]
  · unfold upd; rw [if_neg ez, if_neg ez, if_neg ez]
theorem pth_0 {I : LI} : pth I 0 = (0, 0) := rfl
theorem fo_0 {I : LI} {y : Nat} : fo I y 0 = none := rfl
theorem ho_0 {I : LI} {y : Nat} : ho I y 0 = 0 := rfl
theorem fores_0 : fores none = -6 := rfl
theorem dn_01 : dn ((0, 0) : Nat × Nat).1 = -1 := dn_0
theorem dn_02 : dn ((0, 0) : Nat × Nat).2 = -1 := dn_0
theorem TT_b0 {I : LI} (hB : LB I) : (TT I 0 0).1 ≤ 540 := (TT_b hB (Nat.zero_le _) (Nat.zero_le _)).1
theorem tln_lt {I : LI} (hB : LB I) (hL : hasL I) {t : Nat} (ht : t < tln I) : snx I (pth I t).1 (pth I t).2 ≠ none := by
  unfold tln at ht
  intro e
  cases h : ffst (fun k => (snx I (pth I k).1 (pth I k).2).isSome) 21 with
  | some k =>
    rw [h] at ht
    have h1 := (ffst_f h).2 t ht
    rw [e] at h1; cases h1
  | none =>
    rw [h] at ht
    have h1 := ffst_all h t ht
    rw [e] at h1; cases h1
set_option maxHeartbeats 4000000 in
set_option maxRecDepth 100000 in
theorem c5_sung (l : Launch) (G : GG) {σ : Mem} {a : AS} (x y u v : Int32) (hA : AOK a) (hR : RM σ a) : Ci l G yX5_sung cX5_sung 10 (some .int) 5 119 [.ref (gad G 134), .int x, .int y, .int u, .int v] σ (fun r τ => r = sp_sung x y u v a ∧ RM τ a ∧ FrM σ τ) := by
  refine Ci.of (own := RX5) (by decide) rfl (Nat.le_of_ble_eq_true rfl) (fun p e s m args below meth c ls H locs X hl hh => ?_)
  have hl : lv_has ls 10 [(0, .ref (gad G 134)), (1, .int x), (2, .int y), (3, .int u), (4, .int v)] := hl
  refine lv_iload_n X.x X.b dX5_sung_0 rfl (lv_at hl 1 rfl) ?_
  refine f_scalli X hh (c5_isLine l G x) mf_yX5_isLine ks_yX5_isLine km_X5_68 rfl hl.1 [] rfl (Nat.le_of_ble_eq_true rfl) ⟨by decide, by decide⟩ ⟨Nat.zero_le _, Nat.zero_le _⟩ dX5_sung_1 (fun r τ H locs hq hh => ?_)
  obtain ⟨rfl, hτ⟩ := hq
  rw [hτ] at hh
  clear hτ
  by_cases c_1 : inB x 0 2
  · rw [show (if inB x 0 2 then (1 : Int32) else 0) = 1 from if_pos c_1]
    obtain ⟨i, ha_i, hb_i, rfl⟩ := inB_of c_1 (by decide)
    refine lv_if_eq (tgt := 14) X.x X.b dX5_sung_4 (by decide) (fun h9 => absurd h9 (by decide)) (fun _ => ?_)
    refine lv_iload_n X.x X.b dX5_sung_7 rfl (lv_at hl 2 rfl) ?_
    refine f_scalli X hh (c5_isTune l G y) mf_yX5_isTune ks_yX5_isTune km_X5_72 rfl hl.1 [] rfl (Nat.le_of_ble_eq_true rfl) ⟨by decide, by decide⟩ ⟨Nat.zero_le _, Nat.zero_le _⟩ dX5_sung_8 (fun r τ H locs hq hh => ?_)
    obtain ⟨rfl, hτ⟩ := hq
    rw [hτ] at hh
    clear hτ
    by_cases c_3 : inB y 0 3
    · rw [show (if inB y 0 3 then (1 : Int32) else 0) = 1 from if_pos c_3]
      obtain ⟨j, ha_j, hb_j, rfl⟩ := inB_of c_3 (by decide)
      refine lv_if_ne (tgt := 16) X.x X.b dX5_sung_11 (by decide) (fun _ => ?_) (fun h9 => absurd h9 (by decide))
      have hkn : kno (nI i) (nI j) := ⟨c_1, c_3⟩
      have hI := inst_ok hA (show i < 3 by omega) (show j < 4 by omega)
      have ei := ix_nI (show i < 2 ^ 31 by omega)
      have ej := ix_nI (show j < 2 ^ 31 by omega)
      have hbn1 := hI.1
      have hbn2 := hI.2.1
      have hbn3 : bN (aB a) i ≤ 9 := hI.1
      have hbn4 : bN (aB a) (3 + j) ≤ 11 := hI.2.1
      refine lv_iload_n X.x X.b dX5_sung_16 rfl (lv_at hl 3 rfl) ?_
      refine lv_iconst (v := nI 0) X.x X.b dX5_sung_17 (by decide) ?_
      refine lv_aload_n X.x X.b dX5_sung_18 rfl (lv_at hl 0 rfl) ?_
      refine f_get X hh (v := .ref (gad G 135)) (sh_134 G _) (by decide) rfl in_X5 0 (by decide) kf_X5_7 rfl dX5_sung_19 ?_
      refine lv_bipush (v := nI 57) X.x X.b dX5_sung_22 (by decide) ?_
      refine lv_iload_n X.x X.b dX5_sung_24 rfl (lv_at hl 2 rfl) ?_
      refine f_iadd X (z := nI (57 + j)) (nI_add 57 j) dX5_sung_25 ?_
      refine f_ialdx X hh (j := 57 + j) (y := nI (bN (aB a) (3 + j))) (sh_135 G _) (by decide) rfl (by omega) (by decide) (hR.2.1.2.2.2.1 _ (by omega)) dX5_sung_26 ?_
      refine lv_iconst (v := nI 1) X.x X.b dX5_sung_27 (by decide) ?_
      refine f_isub X (z := nI (bN (aB a) (3 + j)) - nI 1) rfl dX5_sung_28 ?_
      refine f_scalli X hh (c5_inR l G u (n := bN (aB a) (3 + j)) (by omega)) mf_yX5_in ks_yX5_in km_X5_50 rfl hl.1 [] rfl (Nat.le_of_ble_eq_true rfl) ⟨by decide, by decide⟩ ⟨Nat.zero_le _, Nat.zero_le _⟩ dX5_sung_29 (fun r τ H locs hq hh => ?_)
      obtain ⟨rfl, hτ⟩ := hq
      rw [hτ] at hh
      clear hτ
      by_cases c_5 : inR u (bN (aB a) (3 + j))
      · rw [show (if inR u (bN (aB a) (3 + j)) then (1 : Int32) else 0) = 1 from if_pos c_5]
        obtain ⟨q, hq0, rfl⟩ := inR_of c_5 (by omega)
        refine lv_if_eq (tgt := 45) X.x X.b dX5_sung_32 (by decide) (fun h9 => absurd h9 (by decide)) (fun _ => ?_)
        refine lv_iload X.x X.b dX5_sung_35 (lv_at hl 4 rfl) ?_
        refine lv_iconst (v := nI 0) X.x X.b dX5_sung_37 (by decide) ?_
        refine lv_iconst (v := nI 1) X.x X.b dX5_sung_38 (by decide) ?_
        refine f_scalli X hh (c5_inB l G v 0 1 (by decide) (by decide)) mf_yX5_in ks_yX5_in km_X5_50 rfl hl.1 [] rfl (Nat.le_of_ble_eq_true rfl) ⟨by decide, by decide⟩ ⟨Nat.zero_le _, Nat.zero_le _⟩ dX5_sung_39 (fun r τ H locs hq hh => ?_)
        obtain ⟨rfl, hτ⟩ := hq
        rw [hτ] at hh
        clear hτ
        by_cases c_7 : inB v 0 1
        · rw [show (if inB v 0 1 then (1 : Int32) else 0) = 1 from if_pos c_7]
          obtain ⟨k, ha_k, hb_k, rfl⟩ := inB_of c_7 (by decide)
          refine lv_if_ne (tgt := 48) X.x X.b dX5_sung_42 (by decide) (fun _ => ?_) (fun h9 => absurd h9 (by decide))
          refine lv_aload_n X.x X.b dX5_sung_48 rfl (lv_at hl 0 rfl) ?_
          refine lv_iload_n X.x X.b dX5_sung_49 rfl (lv_at hl 1 rfl) ?_
          refine lv_iload_n X.x X.b dX5_sung_50 rfl (lv_at hl 2 rfl) ?_
          refine lv_iconst (v := nI 0) X.x X.b dX5_sung_51 (by decide) ?_
          refine f_callv X hh (c5_go0 l G (k := i) (t := j) hA hR (by omega) (by omega)) mf_yX5_go ki_yX5_go kl_yX5_go km_X5_121 (sh_134 G _) (by decide) rfl rfl hl.1 [] rfl (Nat.le_of_ble_eq_true rfl) ⟨by decide, by decide⟩ ⟨Nat.zero_le _, Nat.zero_le _⟩ dX5_sung_52 (fun τ H locs hq hh => ?_)
          obtain ⟨hM1, hT1, hf1⟩ := hq
          have hR1 := hR.kn hf1
          have hw0 := TT_w0 (inst_ok hA (show i < 3 by omega) (show j < 4 by omega))
          refine lv_aload_n X.x X.b dX5_sung_55 rfl (lv_at hl 0 rfl) ?_
          refine f_get X hh (v := .ref (gad G 145)) (sh_134 G _) (by decide) rfl in_X5 13 (by decide) kf_X5_41 rfl dX5_sung_56 ?_
          refine lv_iconst (v := nI 0) X.x X.b dX5_sung_59 (by decide) ?_
          refine f_ialdx X hh (j := 0) (y := nI ((TT (inst a i j) 0 0).2.2.1)) (sh_145 G _) (by decide) rfl (by omega) (by decide) (hT1 0 0 (Nat.zero_le _) (Nat.zero_le _) trivial).2.2.1 dX5_sung_60 ?_
          refine lv_if_ne (tgt := 67) X.x X.b dX5_sung_61 (by decide) (fun c_9 => ?_) (fun c_9 => ?_)
          · have c_9 : ¬ ((TT (inst a i j) 0 0).2.2.1) = 0 := fun q9 => c_9 ((nI_eq (a := ((TT (inst a i j) 0 0).2.2.1)) (b := 0) (by omega) (by omega)).mpr q9)
            refine lv_aload_n X.x X.b dX5_sung_67 rfl (lv_at hl 0 rfl) ?_
            have hl9 := tln_le hI (hasL_of hI c_9)
            refine f_callv X hh (c5_laySteps l G hI (hasL_of hI c_9) hM1 hT1) mf_yX5_laySteps ki_yX5_laySteps kl_yX5_laySteps km_X5_124 (sh_134 G _) (by decide) rfl rfl hl.1 [] rfl (Nat.le_of_ble_eq_true rfl) ⟨by decide, by decide⟩ ⟨Nat.zero_le _, Nat.zero_le _⟩ dX5_sung_68 (fun τ H locs hq hh => ?_)
            obtain ⟨hS2, hf2⟩ := hq
            have hR2 := hR1.kn hf2.n
            have lp : ∀ (z t : Nat), tln (inst a i j) - t = z → t ≤ tln (inst a i j) → ∀ (ls : Array Slot) (H : Heap) (locs : List Loc), lv_has ls 10 [(9, .int (nI t)), (8, .int (nI (ho (inst a i j) q t))), (7, .int (fores (fo (inst a i j) q t))), (6, .int (dn (pth (inst a i j) t).2)), (5, .int (dn (pth (inst a i j) t).1)), (0, .ref (gad G 134)), (1, .int (nI i)), (2, .int (nI j)), (3, .int (nI q)), (4, .int (nI k))] → HH G s τ H locs → WI l G p e s m args below meth c 5 119 (fun r τ => r = sp_sung (nI i) (nI j) (nI q) (nI k) a ∧ RM τ a ∧ FrM σ τ) H locs (F0 m 87 ls []) := by
              intro km
              induction km using Nat.strongRecOn with
              | ind km ih =>
                intro t hk ht ls H locs hl hh
                have hho := ho_le (I := inst a i j) (y := q) t
                refine lv_iload X.x X.b dX5_sung_87 (lv_at hl 0 rfl) ?_
                refine lv_aload_n X.x X.b dX5_sung_89 rfl (lv_at hl 5 rfl) ?_
                refine f_geti X hh (x := nI (tln (inst a i j))) (sh_134 G _) (by decide) rfl in_X5 16 (by decide) kf_X5_115 rfl hS2.1 dX5_sung_90 ?_
                refine lv_icmp_ge (tgt := 155) X.x X.b dX5_sung_93 (by decide) (fun c_10 => ?_) (fun c_10 => ?_)
                · have c_10 : (tln (inst a i j)) ≤ t := (nI_leI (a := (tln (inst a i j))) (b := t) (by omega) (by omega)).mp c_10
                  refine lv_iload X.x X.b dX5_sung_155 (lv_at hl 9 rfl) ?_
                  refine lv_if_ne (tgt := 165) X.x X.b dX5_sung_157 (by decide) (fun c_11 => ?_) (fun c_11 => ?_)
                  · have c_11 : ¬ k = 0 := fun q9 => c_11 ((nI_eq (a := k) (b := 0) (by omega) (by omega)).mpr q9)
                    refine lv_iload X.x X.b dX5_sung_165 (lv_at hl 1 rfl) ?_
                    exact f_iret X hh ⟨by obtain rfl : t = tln (inst a i j) := (by omega); unfold sp_sung; rw [if_pos hkn, ej, if_pos ⟨c_5, c_7⟩, ei, ix_nI (show q < 2 ^ 31 by omega), if_neg (fun q9 => c_11 ((nI_z (by omega)).mp q9))]; exact (if_pos (hasL_of hI c_9)).symm, hR2, (hf1.tr hf2.n).m⟩ dX5_sung_167
                  · have c_11 : k = 0 := (nI_eq (a := k) (b := 0) (by omega) (by omega)).mp c_11
                    refine lv_iload X.x X.b dX5_sung_160 (lv_at hl 2 rfl) ?_
                    refine lv_goto (tgt := 167) X.x X.b dX5_sung_162 (by decide) ?_
                    exact f_iret X hh ⟨by obtain rfl : t = tln (inst a i j) := (by omega); unfold sp_sung; rw [if_pos hkn, ej, if_pos ⟨c_5, c_7⟩, ei, ix_nI (show q < 2 ^ 31 by omega), if_pos ((nI_z (by omega)).mpr c_11)]; exact (if_pos (hasL_of hI c_9)).symm, hR2, (hf1.tr hf2.n).m⟩ dX5_sung_167
                · have c_10 : ¬ (tln (inst a i j)) ≤ t := fun q9 => c_10 ((nI_leI (a := (tln (inst a i j))) (b := t) (by omega) (by omega)).mpr q9)
                  have hx9 : ∃ st9, snx (inst a i j) (pth (inst a i j) t).1 (pth (inst a i j) t).2 = some st9 := by
                    cases h9 : snx (inst a i j) (pth (inst a i j) t).1 (pth (inst a i j) t).2 with
                    | some z9 => exact ⟨z9, rfl⟩
                    | none => exact absurd h9 (tln_lt hI (hasL_of hI c_9) (by omega))
                  obtain ⟨st9, hs9⟩ := hx9
                  have hs8 := snx_s hs9
                  have hd8 := dmn_next hs8.1 (pth_d t) hs8.2.1
                  have e6 : sta (inst a i j) t = st9 := by unfold sta; rw [hs9]; rfl
                  rw [← e6] at hs8 hd8
                  have hst9 := hs8.1
                  have hp9 := pth_s hs9
                  rw [← e6] at hp9
                  refine lv_iload X.x X.b dX5_sung_96 (lv_at hl 4 rfl) ?_
                  refine lv_aload_n X.x X.b dX5_sung_98 rfl (lv_at hl 5 rfl) ?_
                  refine f_get X hh (v := .ref (gad G 147)) (sh_134 G _) (by decide) rfl in_X5 15 (by decide) kf_X5_47 rfl dX5_sung_99 ?_
                  refine lv_iload X.x X.b dX5_sung_102 (lv_at hl 0 rfl) ?_
                  refine f_ialdx X hh (j := t) (y := nI (sta (inst a i j) t)) (sh_147 G _) (by decide) rfl (by omega) (by decide) (hS2.2 _ (by omega)) dX5_sung_104 ?_
                  refine f_scalli X hh (c5_syllablesOf l G (st := sta (inst a i j) t) hst9) mf_yX5_syllablesOf ks_yX5_syllablesOf km_X5_88 rfl hl.1 [.int (dn (pth (inst a i j) t).1)] rfl (Nat.le_of_ble_eq_true rfl) ⟨by decide, by decide⟩ ⟨Nat.zero_le _, Nat.zero_le _⟩ dX5_sung_105 (fun r τ H locs hq hh => ?_)
                  obtain ⟨rfl, hτ⟩ := hq
                  rw [hτ] at hh
                  clear hτ
                  refine f_iadd X (z := dn ((pth (inst a i j) t).1 + di (sta (inst a i j) t))) (dn_add _ _) dX5_sung_108 ?_
                  refine lv_istore (lv' := [(5, .int (dn ((pth (inst a i j) t).1 + di (sta (inst a i j) t)))), (9, .int (nI t)), (8, .int (nI (ho (inst a i j) q t))), (7, .int (fores (fo (inst a i j) q t))), (6, .int (dn (pth (inst a i j) t).2)), (0, .ref (gad G 134)), (1, .int (nI i)), (2, .int (nI j)), (3, .int (nI q)), (4, .int (nI k))]) X.x X.b dX5_sung_109 hl (by decide) rfl (fun ls hl => ?_)
                  refine lv_iload X.x X.b dX5_sung_111 (lv_at hl 4 rfl) ?_
                  refine lv_aload_n X.x X.b dX5_sung_113 rfl (lv_at hl 5 rfl) ?_
                  refine f_get X hh (v := .ref (gad G 147)) (sh_134 G _) (by decide) rfl in_X5 15 (by decide) kf_X5_47 rfl dX5_sung_114 ?_
                  refine lv_iload X.x X.b dX5_sung_117 (lv_at hl 1 rfl) ?_
                  refine f_ialdx X hh (j := t) (y := nI (sta (inst a i j) t)) (sh_147 G _) (by decide) rfl (by omega) (by decide) (hS2.2 _ (by omega)) dX5_sung_119 ?_
                  refine f_scalli X hh (c5_notesOf l G (st := sta (inst a i j) t) hst9) mf_yX5_notesOf ks_yX5_notesOf km_X5_92 rfl hl.1 [.int (dn (pth (inst a i j) t).2)] rfl (Nat.le_of_ble_eq_true rfl) ⟨by decide, by decide⟩ ⟨Nat.zero_le _, Nat.zero_le _⟩ dX5_sung_120 (fun r τ H locs hq hh => ?_)
                  obtain ⟨rfl, hτ⟩ := hq
                  rw [hτ] at hh
                  clear hτ
                  refine f_iadd X (z := dn ((pth (inst a i j) t).2 + dj (sta (inst a i j) t))) (dn_add _ _) dX5_sung_123 ?_
                  refine lv_istore (lv' := [(6, .int (dn ((pth (inst a i j) t).2 + dj (sta (inst a i j) t)))), (5, .int (dn ((pth (inst a i j) t).1 + di (sta (inst a i j) t)))), (9, .int (nI t)), (8, .int (nI (ho (inst a i j) q t))), (7, .int (fores (fo (inst a i j) q t))), (0, .ref (gad G 134)), (1, .int (nI i)), (2, .int (nI j)), (3, .int (nI q)), (4, .int (nI k))]) X.x X.b dX5_sung_124 hl (by decide) rfl (fun ls hl => ?_)
                  refine lv_iload X.x X.b dX5_sung_126 (lv_at hl 0 rfl) ?_
                  refine lv_iload_n X.x X.b dX5_sung_128 rfl (lv_at hl 8 rfl) ?_
                  refine lv_icmp_ne (tgt := 149) X.x X.b dX5_sung_129 (by decide) (fun c_12 => ?_) (fun c_12 => ?_)
                  · refine lv_iinc (v := nI (t + 1)) (lv' := [(9, .int (nI (t + 1))), (6, .int (dn ((pth (inst a i j) t).2 + dj (sta (inst a i j) t)))), (5, .int (dn ((pth (inst a i j) t).1 + di (sta (inst a i j) t)))), (8, .int (nI (ho (inst a i j) q t))), (7, .int (fores (fo (inst a i j) q t))), (0, .ref (gad G 134)), (1, .int (nI i)), (2, .int (nI j)), (3, .int (nI q)), (4, .int (nI k))]) X.x X.b dX5_sung_149 hl (k := 2) rfl (nI_1 t) (by decide) rfl (fun ls hl => ?_)
                    refine lv_goto (tgt := 87) X.x X.b dX5_sung_152 (by decide) ?_
                    refine ih (tln (inst a i j) - (t + 1)) (by omega) (t + 1) rfl (by omega) ls H locs ?_ hh
                    have e9 : ¬ (pth (inst a i j) (t + 1)).2 = q + 1 := by rw [hp9]; exact fun q9 => c_12 ((dn_eq (by omega) (by omega)).mpr q9)
                    rw [ho_s0 e9, fo_s0 (fun q9 => e9 q9.2), hp9]
                    exact lv_sub hl [0, 3, 4, 1, 2, 5, 6, 7, 8, 9] rfl
                  · refine lv_iload X.x X.b dX5_sung_132 (lv_at hl 3 rfl) ?_
                    refine lv_if_ne (tgt := 142) X.x X.b dX5_sung_134 (by decide) (fun c_13 => ?_) (fun c_13 => ?_)
                    · have c_13 : ¬ (ho (inst a i j) q t) = 0 := fun q9 => c_13 ((nI_eq (a := (ho (inst a i j) q t)) (b := 0) (by omega) (by omega)).mpr q9)
                      refine lv_iload X.x X.b dX5_sung_142 (lv_at hl 4 rfl) ?_
                      refine lv_istore (lv' := [(7, .int (fores (fo (inst a i j) q t))), (6, .int (dn ((pth (inst a i j) t).2 + dj (sta (inst a i j) t)))), (5, .int (dn ((pth (inst a i j) t).1 + di (sta (inst a i j) t)))), (9, .int (nI t)), (8, .int (nI (ho (inst a i j) q t))), (0, .ref (gad G 134)), (1, .int (nI i)), (2, .int (nI j)), (3, .int (nI q)), (4, .int (nI k))]) X.x X.b dX5_sung_144 hl (by decide) rfl (fun ls hl => ?_)
                      refine lv_iinc (v := nI (ho (inst a i j) q t + 1)) (lv' := [(8, .int (nI (ho (inst a i j) q t + 1))), (7, .int (fores (fo (inst a i j) q t))), (6, .int (dn ((pth (inst a i j) t).2 + dj (sta (inst a i j) t)))), (5, .int (dn ((pth (inst a i j) t).1 + di (sta (inst a i j) t)))), (9, .int (nI t)), (0, .ref (gad G 134)), (1, .int (nI i)), (2, .int (nI j)), (3, .int (nI q)), (4, .int (nI k))]) X.x X.b dX5_sung_146 hl (k := 4) rfl (nI_1 (ho (inst a i j) q t)) (by decide) rfl (fun ls hl => ?_)
                      refine lv_iinc (v := nI (t + 1)) (lv' := [(9, .int (nI (t + 1))), (8, .int (nI (ho (inst a i j) q t + 1))), (7, .int (fores (fo (inst a i j) q t))), (6, .int (dn ((pth (inst a i j) t).2 + dj (sta (inst a i j) t)))), (5, .int (dn ((pth (inst a i j) t).1 + di (sta (inst a i j) t)))), (0, .ref (gad G 134)), (1, .int (nI i)), (2, .int (nI j)), (3, .int (nI q)), (4, .int (nI k))]) X.x X.b dX5_sung_149 hl (k := 4) rfl (nI_1 t) (by decide) rfl (fun ls hl => ?_)
                      refine lv_goto (tgt := 87) X.x X.b dX5_sung_152 (by decide) ?_
                      refine ih (tln (inst a i j) - (t + 1)) (by omega) (t + 1) rfl (by omega) ls H locs ?_ hh
                      have e9 : (pth (inst a i j) (t + 1)).2 = q + 1 := by rw [hp9]; exact (dn_eq (by omega) (by omega)).mp c_12
                      have e8 : fo (inst a i j) q (t + 1) = fo (inst a i j) q t := fo_s0 (fun q9 => c_13 (ho_fo.mpr (Option.isNone_iff_eq_none.mp q9.1)))
                      have e7 : fores (fo (inst a i j) q (t + 1)) = fores (fo (inst a i j) q t) := by rw [e8]
                      rw [ho_s1 e9, e7, hp9]
                      exact lv_sub hl [0, 1, 2, 3, 4, 5, 6, 7, 8, 9] rfl
                    · have c_13 : (ho (inst a i j) q t) = 0 := (nI_eq (a := (ho (inst a i j) q t)) (b := 0) (by omega) (by omega)).mp c_13
                      refine lv_iload X.x X.b dX5_sung_137 (lv_at hl 1 rfl) ?_
                      refine lv_goto (tgt := 144) X.x X.b dX5_sung_139 (by decide) ?_
                      refine lv_istore (lv' := [(7, .int (dn ((pth (inst a i j) t).1 + di (sta (inst a i j) t)))), (6, .int (dn ((pth (inst a i j) t).2 + dj (sta (inst a i j) t)))), (5, .int (dn ((pth (inst a i j) t).1 + di (sta (inst a i j) t)))), (9, .int (nI t)), (8, .int (nI (ho (inst a i j) q t))), (0, .ref (gad G 134)), (1, .int (nI i)), (2, .int (nI j)), (3, .int (nI q)), (4, .int (nI k))]) X.x X.b dX5_sung_144 hl (by decide) rfl (fun ls hl => ?_)
                      refine lv_iinc (v := nI (ho (inst a i j) q t + 1)) (lv' := [(8, .int (nI (ho (inst a i j) q t + 1))), (7, .int (dn ((pth (inst a i j) t).1 + di (sta (inst a i j) t)))), (6, .int (dn ((pth (inst a i j) t).2 + dj (sta (inst a i j) t)))), (5, .int (dn ((pth (inst a i j) t).1 + di (sta (inst a i j) t)))), (9, .int (nI t)), (0, .ref (gad G 134)), (1, .int (nI i)), (2, .int (nI j)), (3, .int (nI q)), (4, .int (nI k))]) X.x X.b dX5_sung_146 hl (k := 4) rfl (nI_1 (ho (inst a i j) q t)) (by decide) rfl (fun ls hl => ?_)
                      refine lv_iinc (v := nI (t + 1)) (lv' := [(9, .int (nI (t + 1))), (8, .int (nI (ho (inst a i j) q t + 1))), (7, .int (dn ((pth (inst a i j) t).1 + di (sta (inst a i j) t)))), (6, .int (dn ((pth (inst a i j) t).2 + dj (sta (inst a i j) t)))), (5, .int (dn ((pth (inst a i j) t).1 + di (sta (inst a i j) t)))), (0, .ref (gad G 134)), (1, .int (nI i)), (2, .int (nI j)), (3, .int (nI q)), (4, .int (nI k))]) X.x X.b dX5_sung_149 hl (k := 4) rfl (nI_1 t) (by decide) rfl (fun ls hl => ?_)
                      refine lv_goto (tgt := 87) X.x X.b dX5_sung_152 (by decide) ?_
                      refine ih (tln (inst a i j) - (t + 1)) (by omega) (t + 1) rfl (by omega) ls H locs ?_ hh
                      have e9 : (pth (inst a i j) (t + 1)).2 = q + 1 := by rw [hp9]; exact (dn_eq (by omega) (by omega)).mp c_12
                      have e8 : fo (inst a i j) q (t + 1) = some ((pth (inst a i j) t).1 + di (sta (inst a i j) t) - 1) := by rw [fo_s1 ⟨by rw [ho_fo.mp c_13]; rfl, e9⟩, hp9]
                      have e7 : fores (fo (inst a i j) q (t + 1)) = dn ((pth (inst a i j) t).1 + di (sta (inst a i j) t)) := by rw [e8]; obtain ⟨z9, hz9⟩ : ∃ z9, (pth (inst a i j) t).1 + di (sta (inst a i j) t) = z9 + 1 := ⟨(pth (inst a i j) t).1 + di (sta (inst a i j) t) - 1, by omega⟩; rw [hz9, dn_s]; rfl
                      rw [ho_s1 e9, e7, hp9]
                      exact lv_sub hl [0, 1, 2, 3, 4, 5, 6, 7, 8, 9] rfl
            refine lv_iconst (v := (-1)) X.x X.b dX5_sung_71 (by decide) ?_
            refine lv_istore (lv' := [(5, .int ((-1))), (0, .ref (gad G 134)), (1, .int (nI i)), (2, .int (nI j)), (3, .int (nI q)), (4, .int (nI k))]) X.x X.b dX5_sung_72 hl (by decide) rfl (fun ls hl => ?_)
            refine lv_iconst (v := (-1)) X.x X.b dX5_sung_74 (by decide) ?_
            refine lv_istore (lv' := [(6, .int ((-1))), (5, .int ((-1))), (0, .ref (gad G 134)), (1, .int (nI i)), (2, .int (nI j)), (3, .int (nI q)), (4, .int (nI k))]) X.x X.b dX5_sung_75 hl (by decide) rfl (fun ls hl => ?_)
            refine lv_bipush (v := (-6)) X.x X.b dX5_sung_77 (by decide) ?_
            refine lv_istore (lv' := [(7, .int ((-6))), (6, .int ((-1))), (5, .int ((-1))), (0, .ref (gad G 134)), (1, .int (nI i)), (2, .int (nI j)), (3, .int (nI q)), (4, .int (nI k))]) X.x X.b dX5_sung_79 hl (by decide) rfl (fun ls hl => ?_)
            refine lv_iconst (v := nI 0) X.x X.b dX5_sung_81 (by decide) ?_
            refine lv_istore (lv' := [(8, .int (nI 0)), (7, .int ((-6))), (6, .int ((-1))), (5, .int ((-1))), (0, .ref (gad G 134)), (1, .int (nI i)), (2, .int (nI j)), (3, .int (nI q)), (4, .int (nI k))]) X.x X.b dX5_sung_82 hl (by decide) rfl (fun ls hl => ?_)
            refine lv_iconst (v := nI 0) X.x X.b dX5_sung_84 (by decide) ?_
            refine lv_istore (lv' := [(9, .int (nI 0)), (8, .int (nI 0)), (7, .int ((-6))), (6, .int ((-1))), (5, .int ((-1))), (0, .ref (gad G 134)), (1, .int (nI i)), (2, .int (nI j)), (3, .int (nI q)), (4, .int (nI k))]) X.x X.b dX5_sung_85 hl (by decide) rfl (fun ls hl => ?_)
            refine lp (tln (inst a i j)) 0 (Nat.sub_zero _) (by omega) ls H locs ?_ hh
            rw [fo_0, ho_0, pth_0, fores_0, dn_01]
            exact lv_sub hl [0, 1, 2, 3, 4, 5, 6, 7, 8, 9] rfl
          · have c_9 : ((TT (inst a i j) 0 0).2.2.1) = 0 := (nI_eq (a := ((TT (inst a i j) 0 0).2.2.1)) (b := 0) (by omega) (by omega)).mp c_9
            refine lv_bipush (v := (-6)) X.x X.b dX5_sung_64 (by decide) ?_
            exact f_iret X hh ⟨by unfold sp_sung fo0 ho0; rw [if_pos hkn, ej, if_pos ⟨c_5, c_7⟩, ei, if_neg ((TT_L hI).mp c_9), if_neg ((TT_L hI).mp c_9)]; split <;> rfl, hR1, hf1.m⟩ dX5_sung_66
        · rw [show (if inB v 0 1 then (1 : Int32) else 0) = 0 from if_neg c_7]
          refine lv_if_ne (tgt := 48) X.x X.b dX5_sung_42 (by decide) (fun h9 => absurd (show _ by decide) h9) (fun _ => ?_)
          refine lv_bipush (v := (-2)) X.x X.b dX5_sung_45 (by decide) ?_
          exact f_iret X hh ⟨by unfold sp_sung; rw [if_pos hkn, ej, if_neg (fun q9 => c_7 q9.2)], hR, FrM.rf⟩ dX5_sung_47
      · rw [show (if inR u (bN (aB a) (3 + j)) then (1 : Int32) else 0) = 0 from if_neg c_5]
        refine lv_if_eq (tgt := 45) X.x X.b dX5_sung_32 (by decide) (fun _ => ?_) (fun h9 => absurd (show _ by decide) h9)
        refine lv_bipush (v := (-2)) X.x X.b dX5_sung_45 (by decide) ?_
        exact f_iret X hh ⟨by unfold sp_sung; rw [if_pos hkn, ej, if_neg (fun q9 => c_5 q9.1)], hR, FrM.rf⟩ dX5_sung_47
    · rw [show (if inB y 0 3 then (1 : Int32) else 0) = 0 from if_neg c_3]
      refine lv_if_ne (tgt := 16) X.x X.b dX5_sung_11 (by decide) (fun h9 => absurd (show _ by decide) h9) (fun _ => ?_)
      refine lv_iconst (v := (-1)) X.x X.b dX5_sung_14 (by decide) ?_
      exact f_iret X hh ⟨(if_neg (fun q9 : kno _ _ => c_3 q9.2)).symm, hR, FrM.rf⟩ dX5_sung_15
  · rw [show (if inB x 0 2 then (1 : Int32) else 0) = 0 from if_neg c_1]
    refine lv_if_eq (tgt := 14) X.x X.b dX5_sung_4 (by decide) (fun _ => ?_) (fun h9 => absurd (show _ by decide) h9)
    refine lv_iconst (v := (-1)) X.x X.b dX5_sung_14 (by decide) ?_
    exact f_iret X hh ⟨(if_neg (fun q9 : kno _ _ => c_1 q9.1)).symm, hR, FrM.rf⟩ dX5_sung_15
set_option maxHeartbeats 4000000 in
set_option maxRecDepth 100000 in
theorem c5_verseOf (l : Launch) (G : GG) {σ : Mem} {a : AS} {j : Nat} (hA : AOK a) (hR : RM σ a) (hj : j < 4) : Ci l G yX5_verseOf cX5_verseOf 5 (some .int) 5 119 [.ref (gad G 134), .int (nI j)] σ (fun r τ => r = vsN a j ∧ RM τ a ∧ FrN σ τ) := by
  refine Ci.of (own := RX5) (by decide) rfl (Nat.le_of_ble_eq_true rfl) (fun p e s m args below meth c ls H locs X hl hh => ?_)
  have hm9 : bN (aB a) (3 + j) ≤ 11 := (hA.2.2.1.2.1 (3 + j) (by omega) (by omega)).1
  have lp : ∀ (k i u : Nat), (u = 0 ∧ sumN (fun i => bN (aB a) i) i = 0 ∨ u = 1 ∧ ¬ sumN (fun i => bN (aB a) i) i = 0) → 3 - i = k → i ≤ 3 → ∀ (υ : Mem), RM υ a → FrN σ υ → ∀ (ls : Array Slot) (H : Heap) (locs : List Loc), lv_has ls 5 [(4, .int (nI i)), (3, .int (nI u)), (2, .int (nI (vsum a j i))), (0, .ref (gad G 134)), (1, .int (nI j))] → HH G s υ H locs → WI l G p e s m args below meth c 5 119 (fun r τ => r = vsN a j ∧ RM τ a ∧ FrN σ τ) H locs (F0 m 7 ls []) := by
    intro km
    induction km using Nat.strongRecOn with
    | ind km ih =>
      intro i u hu hk hi υ hR0 hf0 ls H locs hl hh
      have hnn := fun h9 : i < 3 => (hA.2.2.1.1 i h9).1
      rcases hu with ⟨rfl, hu⟩ | ⟨rfl, hu⟩
      · refine lv_iload X.x X.b dX5_verseOf_7 (lv_at hl 0 rfl) ?_
        refine lv_iconst (v := nI 3) X.x X.b dX5_verseOf_9 (by decide) ?_
        refine lv_icmp_ge (tgt := 50) X.x X.b dX5_verseOf_10 (by decide) (fun c_1 => ?_) (fun c_1 => ?_)
        · have c_1 : 3 ≤ i := (nI_leI (a := 3) (b := i) (by omega) (by omega)).mp c_1
          refine lv_iload_n X.x X.b dX5_verseOf_50 rfl (lv_at hl 1 rfl) ?_
          refine lv_if_eq (tgt := 70) X.x X.b dX5_verseOf_51 (by decide) (fun _ => ?_) (fun h9 => absurd (show _ by decide) h9)
          refine lv_bipush (v := (-6)) X.x X.b dX5_verseOf_70 (by decide) ?_
          exact f_iret X hh ⟨by obtain rfl : i = 3 := (by omega); unfold vsN; rw [if_pos (by omega)], hR0, hf0⟩ dX5_verseOf_72
        · have c_1 : ¬ 3 ≤ i := fun q9 => c_1 ((nI_leI (a := 3) (b := i) (by omega) (by omega)).mpr q9)
          refine lv_aload_n X.x X.b dX5_verseOf_13 rfl (lv_at hl 3 rfl) ?_
          refine f_get X hh (v := .ref (gad G 135)) (sh_134 G _) (by decide) rfl in_X5 0 (by decide) kf_X5_7 rfl dX5_verseOf_14 ?_
          refine lv_iconst (v := nI 0) X.x X.b dX5_verseOf_17 (by decide) ?_
          refine lv_iload X.x X.b dX5_verseOf_18 (lv_at hl 0 rfl) ?_
          refine f_iadd X (z := nI (0 + i)) (nI_add 0 i) dX5_verseOf_20 ?_
          refine f_ialdx X hh (j := 0 + i) (y := nI (bN (aB a) i)) (sh_135 G _) (by decide) rfl (by omega) (by decide) (hR0.2.1.1 _ (by omega)) dX5_verseOf_21 ?_
          refine lv_if_le (tgt := 44) X.x X.b dX5_verseOf_22 (by decide) (fun c_3 => ?_) (fun c_3 => ?_)
          · have c_3 : (bN (aB a) i) ≤ 0 := (nI_leI (a := (bN (aB a) i)) (b := 0) (by omega) (by omega)).mp c_3
            refine lv_iinc (v := nI (i + 1)) (lv' := [(4, .int (nI (i + 1))), (3, .int (nI 0)), (2, .int (nI (vsum a j i))), (0, .ref (gad G 134)), (1, .int (nI j))]) X.x X.b dX5_verseOf_44 hl (k := 0) rfl (nI_1 i) (by decide) rfl (fun ls hl => ?_)
            refine lv_goto (tgt := 7) X.x X.b dX5_verseOf_47 (by decide) ?_
            refine ih (3 - (i + 1)) (by omega) (i + 1) 0 (Or.inl ⟨rfl, show sumN (fun i => bN (aB a) i) i + bN (aB a) i = 0 by omega⟩) rfl (by omega) _ hR0 hf0 ls H locs ?_ hh
            rw [show vsum a j (i + 1) = vsum a j i by show _ + (if _ then _ else _) = _; rw [if_pos (by omega)]; rfl]; exact lv_sub hl [0, 1, 2, 3, 4] rfl
          · have c_3 : ¬ (bN (aB a) i) ≤ 0 := fun q9 => c_3 ((nI_leI (a := (bN (aB a) i)) (b := 0) (by omega) (by omega)).mpr q9)
            refine lv_aload_n X.x X.b dX5_verseOf_25 rfl (lv_at hl 3 rfl) ?_
            refine lv_iload X.x X.b dX5_verseOf_26 (lv_at hl 0 rfl) ?_
            refine lv_iload_n X.x X.b dX5_verseOf_28 rfl (lv_at hl 4 rfl) ?_
            refine lv_iconst (v := nI 0) X.x X.b dX5_verseOf_29 (by decide) ?_
            refine f_callv X hh (c5_go0 l G (k := i) (t := j) hA hR0 (by omega) hj) mf_yX5_go ki_yX5_go kl_yX5_go km_X5_121 (sh_134 G _) (by decide) rfl rfl hl.1 [] rfl (Nat.le_of_ble_eq_true rfl) ⟨by decide, by decide⟩ ⟨Nat.zero_le _, Nat.zero_le _⟩ dX5_verseOf_30 (fun τ H locs hq hh => ?_)
            obtain ⟨hM1, hT1, hf1⟩ := hq
            have hR1 := hR0.kn hf1
            refine lv_iload_n X.x X.b dX5_verseOf_33 rfl (lv_at hl 2 rfl) ?_
            refine lv_aload_n X.x X.b dX5_verseOf_34 rfl (lv_at hl 3 rfl) ?_
            refine f_get X hh (v := .ref (gad G 143)) (sh_134 G _) (by decide) rfl in_X5 11 (by decide) kf_X5_35 rfl dX5_verseOf_35 ?_
            refine lv_iconst (v := nI 0) X.x X.b dX5_verseOf_38 (by decide) ?_
            refine f_ialdx X hh (j := 0) (y := nI ((TT (inst a i j) 0 0).1)) (sh_143 G _) (by decide) rfl (by omega) (by decide) (hT1 0 0 (Nat.zero_le _) (Nat.zero_le _) trivial).1 dX5_verseOf_39 ?_
            refine f_iadd X (z := nI (vsum a j i + (TT (inst a i j) 0 0).1)) (nI_add (vsum a j i) ((TT (inst a i j) 0 0).1)) dX5_verseOf_40 ?_
            refine lv_istore_n (lv' := [(2, .int (nI (vsum a j i + (TT (inst a i j) 0 0).1))), (4, .int (nI i)), (3, .int (nI 0)), (0, .ref (gad G 134)), (1, .int (nI j))]) X.x X.b dX5_verseOf_41 rfl hl (by decide) rfl (fun ls hl => ?_)
            refine lv_iconst (v := nI 1) X.x X.b dX5_verseOf_42 (by decide) ?_
            refine lv_istore_n (lv' := [(3, .int (nI 1)), (2, .int (nI (vsum a j i + (TT (inst a i j) 0 0).1))), (4, .int (nI i)), (0, .ref (gad G 134)), (1, .int (nI j))]) X.x X.b dX5_verseOf_43 rfl hl (by decide) rfl (fun ls hl => ?_)
            refine lv_iinc (v := nI (i + 1)) (lv' := [(4, .int (nI (i + 1))), (3, .int (nI 1)), (2, .int (nI (vsum a j i + (TT (inst a i j) 0 0).1))), (0, .ref (gad G 134)), (1, .int (nI j))]) X.x X.b dX5_verseOf_44 hl (k := 2) rfl (nI_1 i) (by decide) rfl (fun ls hl => ?_)
            refine lv_goto (tgt := 7) X.x X.b dX5_verseOf_47 (by decide) ?_
            refine ih (3 - (i + 1)) (by omega) (i + 1) 1 (Or.inr ⟨rfl, ?_⟩) rfl (by omega) _ hR1 (hf0.tr hf1) ls H locs ?_ hh
            · show ¬ sumN (fun i => bN (aB a) i) i + bN (aB a) i = 0; omega
            · rw [show vsum a j (i + 1) = vsum a j i + (TT (inst a i j) 0 0).1 by show _ + (if _ then _ else _) = _; rw [if_neg (by omega)]; rfl]; exact lv_sub hl [0, 1, 2, 3, 4] rfl
      · refine lv_iload X.x X.b dX5_verseOf_7 (lv_at hl 0 rfl) ?_
        refine lv_iconst (v := nI 3) X.x X.b dX5_verseOf_9 (by decide) ?_
        refine lv_icmp_ge (tgt := 50) X.x X.b dX5_verseOf_10 (by decide) (fun c_4 => ?_) (fun c_4 => ?_)
        · have c_4 : 3 ≤ i := (nI_leI (a := 3) (b := i) (by omega) (by omega)).mp c_4
          refine lv_iload_n X.x X.b dX5_verseOf_50 rfl (lv_at hl 1 rfl) ?_
          refine lv_if_eq (tgt := 70) X.x X.b dX5_verseOf_51 (by decide) (fun h9 => absurd h9 (by decide)) (fun _ => ?_)
          refine lv_aload_n X.x X.b dX5_verseOf_54 rfl (lv_at hl 3 rfl) ?_
          refine f_get X hh (v := .ref (gad G 135)) (sh_134 G _) (by decide) rfl in_X5 0 (by decide) kf_X5_7 rfl dX5_verseOf_55 ?_
          refine lv_bipush (v := nI 57) X.x X.b dX5_verseOf_58 (by decide) ?_
          refine lv_iload_n X.x X.b dX5_verseOf_60 rfl (lv_at hl 4 rfl) ?_
          refine f_iadd X (z := nI (57 + j)) (nI_add 57 j) dX5_verseOf_61 ?_
          refine f_ialdx X hh (j := 57 + j) (y := nI (bN (aB a) (3 + j))) (sh_135 G _) (by decide) rfl (by omega) (by decide) (hR0.2.1.2.2.2.1 _ (by omega)) dX5_verseOf_62 ?_
          refine lv_if_le (tgt := 70) X.x X.b dX5_verseOf_63 (by decide) (fun c_6 => ?_) (fun c_6 => ?_)
          · have c_6 : (bN (aB a) (3 + j)) ≤ 0 := (nI_leI (a := (bN (aB a) (3 + j))) (b := 0) (by omega) (by omega)).mp c_6
            refine lv_bipush (v := (-6)) X.x X.b dX5_verseOf_70 (by decide) ?_
            exact f_iret X hh ⟨by obtain rfl : i = 3 := (by omega); unfold vsN; rw [if_pos (by omega)], hR0, hf0⟩ dX5_verseOf_72
          · have c_6 : ¬ (bN (aB a) (3 + j)) ≤ 0 := fun q9 => c_6 ((nI_leI (a := (bN (aB a) (3 + j))) (b := 0) (by omega) (by omega)).mpr q9)
            refine lv_iload_n X.x X.b dX5_verseOf_66 rfl (lv_at hl 2 rfl) ?_
            refine lv_goto (tgt := 72) X.x X.b dX5_verseOf_67 (by decide) ?_
            exact f_iret X hh ⟨by obtain rfl : i = 3 := (by omega); unfold vsN; rw [if_neg (by omega)], hR0, hf0⟩ dX5_verseOf_72
        · have c_4 : ¬ 3 ≤ i := fun q9 => c_4 ((nI_leI (a := 3) (b := i) (by omega) (by omega)).mpr q9)
          refine lv_aload_n X.x X.b dX5_verseOf_13 rfl (lv_at hl 3 rfl) ?_
          refine f_get X hh (v := .ref (gad G 135)) (sh_134 G _) (by decide) rfl in_X5 0 (by decide) kf_X5_7 rfl dX5_verseOf_14 ?_
          refine lv_iconst (v := nI 0) X.x X.b dX5_verseOf_17 (by decide) ?_
          refine lv_iload X.x X.b dX5_verseOf_18 (lv_at hl 0 rfl) ?_
          refine f_iadd X (z := nI (0 + i)) (nI_add 0 i) dX5_verseOf_20 ?_
          refine f_ialdx X hh (j := 0 + i) (y := nI (bN (aB a) i)) (sh_135 G _) (by decide) rfl (by omega) (by decide) (hR0.2.1.1 _ (by omega)) dX5_verseOf_21 ?_
          refine lv_if_le (tgt := 44) X.x X.b dX5_verseOf_22 (by decide) (fun c_7 => ?_) (fun c_7 => ?_)
          · have c_7 : (bN (aB a) i) ≤ 0 := (nI_leI (a := (bN (aB a) i)) (b := 0) (by omega) (by omega)).mp c_7
            refine lv_iinc (v := nI (i + 1)) (lv' := [(4, .int (nI (i + 1))), (3, .int (nI 1)), (2, .int (nI (vsum a j i))), (0, .ref (gad G 134)), (1, .int (nI j))]) X.x X.b dX5_verseOf_44 hl (k := 0) rfl (nI_1 i) (by decide) rfl (fun ls hl => ?_)
            refine lv_goto (tgt := 7) X.x X.b dX5_verseOf_47 (by decide) ?_
            refine ih (3 - (i + 1)) (by omega) (i + 1) 1 (Or.inr ⟨rfl, show ¬ sumN (fun i => bN (aB a) i) i + bN (aB a) i = 0 by omega⟩) rfl (by omega) _ hR0 hf0 ls H locs ?_ hh
            rw [show vsum a j (i + 1) = vsum a j i by show _ + (if _ then _ else _) = _; rw [if_pos (by omega)]; rfl]; exact lv_sub hl [0, 1, 2, 3, 4] rfl
          · have c_7 : ¬ (bN (aB a) i) ≤ 0 := fun q9 => c_7 ((nI_leI (a := (bN (aB a) i)) (b := 0) (by omega) (by omega)).mpr q9)
            refine lv_aload_n X.x X.b dX5_verseOf_25 rfl (lv_at hl 3 rfl) ?_
            refine lv_iload X.x X.b dX5_verseOf_26 (lv_at hl 0 rfl) ?_
            refine lv_iload_n X.x X.b dX5_verseOf_28 rfl (lv_at hl 4 rfl) ?_
            refine lv_iconst (v := nI 0) X.x X.b dX5_verseOf_29 (by decide) ?_
            refine f_callv X hh (c5_go0 l G (k := i) (t := j) hA hR0 (by omega) hj) mf_yX5_go ki_yX5_go kl_yX5_go km_X5_121 (sh_134 G _) (by decide) rfl rfl hl.1 [] rfl (Nat.le_of_ble_eq_true rfl) ⟨by decide, by decide⟩ ⟨Nat.zero_le _, Nat.zero_le _⟩ dX5_verseOf_30 (fun τ H locs hq hh => ?_)
            obtain ⟨hM1, hT1, hf1⟩ := hq
            have hR1 := hR0.kn hf1
            refine lv_iload_n X.x X.b dX5_verseOf_33 rfl (lv_at hl 2 rfl) ?_
            refine lv_aload_n X.x X.b dX5_verseOf_34 rfl (lv_at hl 3 rfl) ?_
            refine f_get X hh (v := .ref (gad G 143)) (sh_134 G _) (by decide) rfl in_X5 11 (by decide) kf_X5_35 rfl dX5_verseOf_35 ?_
            refine lv_iconst (v := nI 0) X.x X.b dX5_verseOf_38 (by decide) ?_
            refine f_ialdx X hh (j := 0) (y := nI ((TT (inst a i j) 0 0).1)) (sh_143 G _) (by decide) rfl (by omega) (by decide) (hT1 0 0 (Nat.zero_le _) (Nat.zero_le _) trivial).1 dX5_verseOf_39 ?_
            refine f_iadd X (z := nI (vsum a j i + (TT (inst a i j) 0 0).1)) (nI_add (vsum a j i) ((TT (inst a i j) 0 0).1)) dX5_verseOf_40 ?_
            refine lv_istore_n (lv' := [(2, .int (nI (vsum a j i + (TT (inst a i j) 0 0).1))), (4, .int (nI i)), (3, .int (nI 1)), (0, .ref (gad G 134)), (1, .int (nI j))]) X.x X.b dX5_verseOf_41 rfl hl (by decide) rfl (fun ls hl => ?_)
            refine lv_iconst (v := nI 1) X.x X.b dX5_verseOf_42 (by decide) ?_
            refine lv_istore_n (lv' := [(3, .int (nI 1)), (2, .int (nI (vsum a j i + (TT (inst a i j) 0 0).1))), (4, .int (nI i)), (0, .ref (gad G 134)), (1, .int (nI j))]) X.x X.b dX5_verseOf_43 rfl hl (by decide) rfl (fun ls hl => ?_)
            refine lv_iinc (v := nI (i + 1)) (lv' := [(4, .int (nI (i + 1))), (3, .int (nI 1)), (2, .int (nI (vsum a j i + (TT (inst a i j) 0 0).1))), (0, .ref (gad G 134)), (1, .int (nI j))]) X.x X.b dX5_verseOf_44 hl (k := 2) rfl (nI_1 i) (by decide) rfl (fun ls hl => ?_)
            refine lv_goto (tgt := 7) X.x X.b dX5_verseOf_47 (by decide) ?_
            refine ih (3 - (i + 1)) (by omega) (i + 1) 1 (Or.inr ⟨rfl, ?_⟩) rfl (by omega) _ hR1 (hf0.tr hf1) ls H locs ?_ hh
            · show ¬ sumN (fun i => bN (aB a) i) i + bN (aB a) i = 0; omega
            · rw [show vsum a j (i + 1) = vsum a j i + (TT (inst a i j) 0 0).1 by show _ + (if _ then _ else _) = _; rw [if_neg (by omega)]; rfl]; exact lv_sub hl [0, 1, 2, 3, 4] rfl
  have hl : lv_has ls 5 [(0, .ref (gad G 134)), (1, .int (nI j))] := hl
  refine lv_iconst (v := nI 0) X.x X.b dX5_verseOf_0 (by decide) ?_
  refine lv_istore_n (lv' := [(2, .int (nI 0)), (0, .ref (gad G 134)), (1, .int (nI j))]) X.x X.b dX5_verseOf_1 rfl hl (by decide) rfl (fun ls hl => ?_)
  refine lv_iconst (v := nI 0) X.x X.b dX5_verseOf_2 (by decide) ?_
  refine lv_istore_n (lv' := [(3, .int (nI 0)), (2, .int (nI 0)), (0, .ref (gad G 134)), (1, .int (nI j))]) X.x X.b dX5_verseOf_3 rfl hl (by decide) rfl (fun ls hl => ?_)
  refine lv_iconst (v := nI 0) X.x X.b dX5_verseOf_4 (by decide) ?_
  refine lv_istore (lv' := [(4, .int (nI 0)), (3, .int (nI 0)), (2, .int (nI 0)), (0, .ref (gad G 134)), (1, .int (nI j))]) X.x X.b dX5_verseOf_5 hl (by decide) rfl (fun ls hl => ?_)
  exact lp 3 0 0 (Or.inl ⟨rfl, rfl⟩) rfl (by omega) σ hR FrN.rf ls H locs (lv_sub hl [0, 1, 2, 3, 4] rfl) hh
set_option maxHeartbeats 4000000 in
set_option maxRecDepth 100000 in
theorem c5_verse (l : Launch) (G : GG) {σ : Mem} {a : AS} (x : Int32) (hA : AOK a) (hR : RM σ a) : Ci l G yX5_verse cX5_verse 2 (some .int) 6 143 [.ref (gad G 134), .int x] σ (fun r τ => r = sp_verse x a ∧ RM τ a ∧ FrM σ τ) := by
  refine Ci.of (own := RX5) (by decide) rfl (Nat.le_of_ble_eq_true rfl) (fun p e s m args below meth c ls H locs X hl hh => ?_)
  have hl : lv_has ls 2 [(0, .ref (gad G 134)), (1, .int x)] := hl
  refine lv_iload_n X.x X.b dX5_verse_0 rfl (lv_at hl 1 rfl) ?_
  refine f_scalli X hh (c5_isTune l G x) mf_yX5_isTune ks_yX5_isTune km_X5_72 rfl hl.1 [] rfl (Nat.le_of_ble_eq_true rfl) ⟨by decide, by decide⟩ ⟨Nat.zero_le _, Nat.zero_le _⟩ dX5_verse_1 (fun r τ H locs hq hh => ?_)
  obtain ⟨rfl, hτ⟩ := hq
  rw [hτ] at hh
  clear hτ
  by_cases c_1 : inB x 0 3
  · rw [show (if inB x 0 3 then (1 : Int32) else 0) = 1 from if_pos c_1]
    obtain ⟨k, ha_k, hb_k, rfl⟩ := inB_of c_1 (by decide)
    refine lv_if_eq (tgt := 15) X.x X.b dX5_verse_4 (by decide) (fun h9 => absurd h9 (by decide)) (fun _ => ?_)
    refine lv_aload_n X.x X.b dX5_verse_7 rfl (lv_at hl 0 rfl) ?_
    refine lv_iload_n X.x X.b dX5_verse_8 rfl (lv_at hl 1 rfl) ?_
    refine f_calli X hh (c5_verseOf l G (j := k) hA hR (by omega)) mf_yX5_verseOf ki_yX5_verseOf kl_yX5_verseOf km_X5_127 (sh_134 G _) (by decide) rfl rfl hl.1 [] rfl (Nat.le_of_ble_eq_true rfl) ⟨by decide, by decide⟩ ⟨Nat.zero_le _, Nat.zero_le _⟩ dX5_verse_9 (fun r τ H locs hq hh => ?_)
    obtain ⟨rfl, hR1, hf1⟩ := hq
    refine lv_goto (tgt := 16) X.x X.b dX5_verse_12 (by decide) ?_
    exact f_iret X hh ⟨by unfold sp_verse; rw [if_pos c_1, ix_nI (by omega)], hR1, hf1.m⟩ dX5_verse_16
  · rw [show (if inB x 0 3 then (1 : Int32) else 0) = 0 from if_neg c_1]
    refine lv_if_eq (tgt := 15) X.x X.b dX5_verse_4 (by decide) (fun _ => ?_) (fun h9 => absurd (show _ by decide) h9)
    refine lv_iconst (v := (-1)) X.x X.b dX5_verse_15 (by decide) ?_
    exact f_iret X hh ⟨(if_neg c_1).symm, hR, FrM.rf⟩ dX5_verse_16
set_option maxHeartbeats 4000000 in
set_option maxRecDepth 100000 in
theorem c5_best (l : Launch) (G : GG) {σ : Mem} {a : AS} (x : Int32) (hA : AOK a) (hR : RM σ a) : Ci l G yX5_best cX5_best 6 (some .int) 6 143 [.ref (gad G 134), .int x] σ (fun r τ => r = sp_best x a ∧ RM τ a ∧ FrM σ τ) := by
  refine Ci.of (own := RX5) (by decide) rfl (Nat.le_of_ble_eq_true rfl) (fun p e s m args below meth c ls H locs X hl hh => ?_)
  have hl : lv_has ls 6 [(0, .ref (gad G 134)), (1, .int x)] := hl
  refine lv_iload_n X.x X.b dX5_best_0 rfl (lv_at hl 1 rfl) ?_
  refine lv_iconst (v := nI 0) X.x X.b dX5_best_1 (by decide) ?_
  refine lv_iconst (v := nI 1) X.x X.b dX5_best_2 (by decide) ?_
  refine f_scalli X hh (c5_inB l G x 0 1 (by decide) (by decide)) mf_yX5_in ks_yX5_in km_X5_50 rfl hl.1 [] rfl (Nat.le_of_ble_eq_true rfl) ⟨by decide, by decide⟩ ⟨Nat.zero_le _, Nat.zero_le _⟩ dX5_best_3 (fun r τ H locs hq hh => ?_)
  obtain ⟨rfl, hτ⟩ := hq
  rw [hτ] at hh
  clear hτ
  by_cases c_1 : inB x 0 1
  · rw [show (if inB x 0 1 then (1 : Int32) else 0) = 1 from if_pos c_1]
    obtain ⟨k, ha_k, hb_k, rfl⟩ := inB_of c_1 (by decide)
    refine lv_if_ne (tgt := 12) X.x X.b dX5_best_6 (by decide) (fun _ => ?_) (fun h9 => absurd h9 (by decide))
    have lp : ∀ (q i : Nat), 4 - i = q → i ≤ 4 → ∀ (υ : Mem), RM υ a → FrN σ υ → ∀ (ls : Array Slot) (H : Heap) (locs : List Loc), lv_has ls 6 [(4, .int (nI i)), (3, .int ((bst (vsN a) i).2)), (2, .int ((bst (vsN a) i).1)), (0, .ref (gad G 134)), (1, .int (nI k))] → HH G s υ H locs → WI l G p e s m args below meth c 6 143 (fun r τ => r = sp_best (nI k) a ∧ RM τ a ∧ FrM σ τ) H locs (F0 m 21 ls []) := by
      intro km
      induction km using Nat.strongRecOn with
      | ind km ih =>
        intro i hk hi υ hR0 hf0 ls H locs hl hh
        have hb9 := bst_lt (f := vsN a) (k := i) (by omega)
        refine lv_iload X.x X.b dX5_best_21 (lv_at hl 0 rfl) ?_
        refine lv_iconst (v := nI 4) X.x X.b dX5_best_23 (by decide) ?_
        refine lv_icmp_ge (tgt := 62) X.x X.b dX5_best_24 (by decide) (fun c_3 => ?_) (fun c_3 => ?_)
        · have c_3 : 4 ≤ i := (nI_leI (a := 4) (b := i) (by omega) (by omega)).mp c_3
          refine lv_iload_n X.x X.b dX5_best_62 rfl (lv_at hl 4 rfl) ?_
          refine lv_if_ne (tgt := 70) X.x X.b dX5_best_63 (by decide) (fun c_4 => ?_) (fun c_4 => ?_)
          · have c_4 : ¬ k = 0 := fun q9 => c_4 ((nI_eq (a := k) (b := 0) (by omega) (by omega)).mpr q9)
            refine lv_iload_n X.x X.b dX5_best_70 rfl (lv_at hl 1 rfl) ?_
            exact f_iret X hh ⟨by obtain rfl : i = 4 := (by omega); unfold sp_best; rw [if_pos c_1, if_neg (fun q9 => c_4 ((nI_z (by omega)).mp q9))], hR0, hf0.m⟩ dX5_best_71
          · have c_4 : k = 0 := (nI_eq (a := k) (b := 0) (by omega) (by omega)).mp c_4
            refine lv_iload_n X.x X.b dX5_best_66 rfl (lv_at hl 2 rfl) ?_
            refine lv_goto (tgt := 71) X.x X.b dX5_best_67 (by decide) ?_
            exact f_iret X hh ⟨by obtain rfl : i = 4 := (by omega); unfold sp_best; rw [if_pos c_1, if_pos ((nI_z (by omega)).mpr c_4)], hR0, hf0.m⟩ dX5_best_71
        · have c_3 : ¬ 4 ≤ i := fun q9 => c_3 ((nI_leI (a := 4) (b := i) (by omega) (by omega)).mpr q9)
          refine lv_aload_n X.x X.b dX5_best_27 rfl (lv_at hl 3 rfl) ?_
          refine lv_iload X.x X.b dX5_best_28 (lv_at hl 0 rfl) ?_
          refine f_calli X hh (c5_verseOf l G (j := i) hA hR0 (by omega)) mf_yX5_verseOf ki_yX5_verseOf kl_yX5_verseOf km_X5_127 (sh_134 G _) (by decide) rfl rfl hl.1 [] rfl (Nat.le_of_ble_eq_true rfl) ⟨by decide, by decide⟩ ⟨Nat.zero_le _, Nat.zero_le _⟩ dX5_best_30 (fun r τ H locs hq hh => ?_)
          obtain ⟨rfl, hR1, hf1⟩ := hq
          have hv9 := vsN_lt hA (show i < 4 by omega)
          refine lv_istore (lv' := [(5, .int (vsN a i)), (4, .int (nI i)), (3, .int ((bst (vsN a) i).2)), (2, .int ((bst (vsN a) i).1)), (0, .ref (gad G 134)), (1, .int (nI k))]) X.x X.b dX5_best_33 hl (by decide) rfl (fun ls hl => ?_)
          refine lv_iload X.x X.b dX5_best_35 (lv_at hl 0 rfl) ?_
          refine lv_if_lt (tgt := 56) X.x X.b dX5_best_37 (by decide) (fun c_5 => ?_) (fun c_5 => ?_)
          · refine lv_iinc (v := nI (i + 1)) (lv' := [(4, .int (nI (i + 1))), (5, .int (vsN a i)), (3, .int ((bst (vsN a) i).2)), (2, .int ((bst (vsN a) i).1)), (0, .ref (gad G 134)), (1, .int (nI k))]) X.x X.b dX5_best_56 hl (k := 1) rfl (nI_1 i) (by decide) rfl (fun ls hl => ?_)
            refine lv_goto (tgt := 21) X.x X.b dX5_best_59 (by decide) ?_
            refine ih (4 - (i + 1)) (by omega) (i + 1) rfl (by omega) _ hR1 (hf0.tr hf1) ls H locs ?_ hh
            rw [show bst (vsN a) (i + 1) = bst (vsN a) i from if_neg (fun q9 => q9.1 (hv9.mp c_5))]
            exact lv_sub hl [0, 2, 3, 4, 5] rfl
          · refine lv_iload_n X.x X.b dX5_best_40 rfl (lv_at hl 3 rfl) ?_
            refine lv_if_lt (tgt := 50) X.x X.b dX5_best_41 (by decide) (fun c_6 => ?_) (fun c_6 => ?_)
            · refine lv_iload X.x X.b dX5_best_50 (lv_at hl 1 rfl) ?_
              refine lv_istore_n (lv' := [(2, .int (nI i)), (5, .int (vsN a i)), (4, .int (nI i)), (3, .int ((bst (vsN a) i).2)), (0, .ref (gad G 134)), (1, .int (nI k))]) X.x X.b dX5_best_52 rfl hl (by decide) rfl (fun ls hl => ?_)
              refine lv_iload X.x X.b dX5_best_53 (lv_at hl 1 rfl) ?_
              refine lv_istore_n (lv' := [(3, .int (vsN a i)), (2, .int (nI i)), (5, .int (vsN a i)), (4, .int (nI i)), (0, .ref (gad G 134)), (1, .int (nI k))]) X.x X.b dX5_best_55 rfl hl (by decide) rfl (fun ls hl => ?_)
              refine lv_iinc (v := nI (i + 1)) (lv' := [(4, .int (nI (i + 1))), (3, .int (vsN a i)), (2, .int (nI i)), (5, .int (vsN a i)), (0, .ref (gad G 134)), (1, .int (nI k))]) X.x X.b dX5_best_56 hl (k := 3) rfl (nI_1 i) (by decide) rfl (fun ls hl => ?_)
              refine lv_goto (tgt := 21) X.x X.b dX5_best_59 (by decide) ?_
              refine ih (4 - (i + 1)) (by omega) (i + 1) rfl (by omega) _ hR1 (hf0.tr hf1) ls H locs ?_ hh
              rw [show bst (vsN a) (i + 1) = (nI i, vsN a i) from if_pos ⟨(fun q9 => c_5 (hv9.mpr q9)), Or.inl (hb9.mp c_6)⟩]
              exact lv_sub hl [0, 1, 2, 4, 5] rfl
            · refine lv_iload X.x X.b dX5_best_44 (lv_at hl 0 rfl) ?_
              refine lv_iload_n X.x X.b dX5_best_46 rfl (lv_at hl 2 rfl) ?_
              refine lv_icmp_ge (tgt := 56) X.x X.b dX5_best_47 (by decide) (fun c_7 => ?_) (fun c_7 => ?_)
              · refine lv_iinc (v := nI (i + 1)) (lv' := [(4, .int (nI (i + 1))), (5, .int (vsN a i)), (3, .int ((bst (vsN a) i).2)), (2, .int ((bst (vsN a) i).1)), (0, .ref (gad G 134)), (1, .int (nI k))]) X.x X.b dX5_best_56 hl (k := 1) rfl (nI_1 i) (by decide) rfl (fun ls hl => ?_)
                refine lv_goto (tgt := 21) X.x X.b dX5_best_59 (by decide) ?_
                refine ih (4 - (i + 1)) (by omega) (i + 1) rfl (by omega) _ hR1 (hf0.tr hf1) ls H locs ?_ hh
                rw [show bst (vsN a) (i + 1) = bst (vsN a) i from if_neg (fun q9 => q9.2.elim (fun q8 => c_6 (hb9.mpr q8)) (fun q8 => absurd q8 (Int32.not_lt.mpr c_7)))]
                exact lv_sub hl [0, 2, 3, 4, 5] rfl
              · refine lv_iload X.x X.b dX5_best_50 (lv_at hl 1 rfl) ?_
                refine lv_istore_n (lv' := [(2, .int (nI i)), (5, .int (vsN a i)), (4, .int (nI i)), (3, .int ((bst (vsN a) i).2)), (0, .ref (gad G 134)), (1, .int (nI k))]) X.x X.b dX5_best_52 rfl hl (by decide) rfl (fun ls hl => ?_)
                refine lv_iload X.x X.b dX5_best_53 (lv_at hl 1 rfl) ?_
                refine lv_istore_n (lv' := [(3, .int (vsN a i)), (2, .int (nI i)), (5, .int (vsN a i)), (4, .int (nI i)), (0, .ref (gad G 134)), (1, .int (nI k))]) X.x X.b dX5_best_55 rfl hl (by decide) rfl (fun ls hl => ?_)
                refine lv_iinc (v := nI (i + 1)) (lv' := [(4, .int (nI (i + 1))), (3, .int (vsN a i)), (2, .int (nI i)), (5, .int (vsN a i)), (0, .ref (gad G 134)), (1, .int (nI k))]) X.x X.b dX5_best_56 hl (k := 3) rfl (nI_1 i) (by decide) rfl (fun ls hl => ?_)
                refine lv_goto (tgt := 21) X.x X.b dX5_best_59 (by decide) ?_
                refine ih (4 - (i + 1)) (by omega) (i + 1) rfl (by omega) _ hR1 (hf0.tr hf1) ls H locs ?_ hh
                rw [show bst (vsN a) (i + 1) = (nI i, vsN a i) from if_pos ⟨(fun q9 => c_5 (hv9.mpr q9)), Or.inr (Int32.not_le.mp c_7)⟩]
                exact lv_sub hl [0, 1, 2, 4, 5] rfl
    refine lv_bipush (v := (-6)) X.x X.b dX5_best_12 (by decide) ?_
    refine lv_istore_n (lv' := [(2, .int ((-6))), (0, .ref (gad G 134)), (1, .int (nI k))]) X.x X.b dX5_best_14 rfl hl (by decide) rfl (fun ls hl => ?_)
    refine lv_bipush (v := (-6)) X.x X.b dX5_best_15 (by decide) ?_
    refine lv_istore_n (lv' := [(3, .int ((-6))), (2, .int ((-6))), (0, .ref (gad G 134)), (1, .int (nI k))]) X.x X.b dX5_best_17 rfl hl (by decide) rfl (fun ls hl => ?_)
    refine lv_iconst (v := nI 0) X.x X.b dX5_best_18 (by decide) ?_
    refine lv_istore (lv' := [(4, .int (nI 0)), (3, .int ((-6))), (2, .int ((-6))), (0, .ref (gad G 134)), (1, .int (nI k))]) X.x X.b dX5_best_19 hl (by decide) rfl (fun ls hl => ?_)
    exact lp 4 0 rfl (by omega) σ hR FrN.rf ls H locs (lv_sub hl [0, 1, 2, 3, 4] rfl) hh
  · rw [show (if inB x 0 1 then (1 : Int32) else 0) = 0 from if_neg c_1]
    refine lv_if_ne (tgt := 12) X.x X.b dX5_best_6 (by decide) (fun h9 => absurd (show _ by decide) h9) (fun _ => ?_)
    refine lv_bipush (v := (-2)) X.x X.b dX5_best_9 (by decide) ?_
    exact f_iret X hh ⟨(if_neg c_1).symm, hR, FrM.rf⟩ dX5_best_11
set_option maxHeartbeats 4000000 in
set_option maxRecDepth 100000 in
theorem c5_turned (l : Launch) (G : GG) {σ : Mem} {a : AS} (x y v : Int32) (hA : AOK a) (hR : RM σ a) : Ci l G yX5_turned cX5_turned 7 (some .int) 5 119 [.ref (gad G 134), .int x, .int y, .int v] σ (fun r τ => r = sp_turned x y v a ∧ RM τ a ∧ FrM σ τ) := by
  refine Ci.of (own := RX5) (by decide) rfl (Nat.le_of_ble_eq_true rfl) (fun p e s m args below meth c ls H locs X hl hh => ?_)
  have hl : lv_has ls 7 [(0, .ref (gad G 134)), (1, .int x), (2, .int y), (3, .int v)] := hl
  refine lv_iload_n X.x X.b dX5_turned_0 rfl (lv_at hl 1 rfl) ?_
  refine f_scalli X hh (c5_isLine l G x) mf_yX5_isLine ks_yX5_isLine km_X5_68 rfl hl.1 [] rfl (Nat.le_of_ble_eq_true rfl) ⟨by decide, by decide⟩ ⟨Nat.zero_le _, Nat.zero_le _⟩ dX5_turned_1 (fun r τ H locs hq hh => ?_)
  obtain ⟨rfl, hτ⟩ := hq
  rw [hτ] at hh
  clear hτ
  by_cases c_1 : inB x 0 2
  · rw [show (if inB x 0 2 then (1 : Int32) else 0) = 1 from if_pos c_1]
    obtain ⟨i, ha_i, hb_i, rfl⟩ := inB_of c_1 (by decide)
    refine lv_if_eq (tgt := 14) X.x X.b dX5_turned_4 (by decide) (fun h9 => absurd h9 (by decide)) (fun _ => ?_)
    refine lv_iload_n X.x X.b dX5_turned_7 rfl (lv_at hl 2 rfl) ?_
    refine f_scalli X hh (c5_isTune l G y) mf_yX5_isTune ks_yX5_isTune km_X5_72 rfl hl.1 [] rfl (Nat.le_of_ble_eq_true rfl) ⟨by decide, by decide⟩ ⟨Nat.zero_le _, Nat.zero_le _⟩ dX5_turned_8 (fun r τ H locs hq hh => ?_)
    obtain ⟨rfl, hτ⟩ := hq
    rw [hτ] at hh
    clear hτ
    by_cases c_3 : inB y 0 3
    · rw [show (if inB y 0 3 then (1 : Int32) else 0) = 1 from if_pos c_3]
      obtain ⟨j, ha_j, hb_j, rfl⟩ := inB_of c_3 (by decide)
      refine lv_if_ne (tgt := 16) X.x X.b dX5_turned_11 (by decide) (fun _ => ?_) (fun h9 => absurd h9 (by decide))
      have hkn : kno (nI i) (nI j) := ⟨c_1, c_3⟩
      have hI := inst_ok hA (show i < 3 by omega) (show j < 4 by omega)
      have ei := ix_nI (show i < 2 ^ 31 by omega)
      have ej := ix_nI (show j < 2 ^ 31 by omega)
      have hbn1 := hI.1
      have hbn2 := hI.2.1
      have hbn3 : bN (aB a) i ≤ 9 := hI.1
      have hbn4 : bN (aB a) (3 + j) ≤ 11 := hI.2.1
      refine lv_iload_n X.x X.b dX5_turned_16 rfl (lv_at hl 3 rfl) ?_
      refine lv_iconst (v := nI 0) X.x X.b dX5_turned_17 (by decide) ?_
      refine lv_iconst (v := nI 1) X.x X.b dX5_turned_18 (by decide) ?_
      refine f_scalli X hh (c5_inB l G v 0 1 (by decide) (by decide)) mf_yX5_in ks_yX5_in km_X5_50 rfl hl.1 [] rfl (Nat.le_of_ble_eq_true rfl) ⟨by decide, by decide⟩ ⟨Nat.zero_le _, Nat.zero_le _⟩ dX5_turned_19 (fun r τ H locs hq hh => ?_)
      obtain ⟨rfl, hτ⟩ := hq
      rw [hτ] at hh
      clear hτ
      by_cases c_5 : inB v 0 1
      · rw [show (if inB v 0 1 then (1 : Int32) else 0) = 1 from if_pos c_5]
        obtain ⟨k, ha_k, hb_k, rfl⟩ := inB_of c_5 (by decide)
        refine lv_if_ne (tgt := 28) X.x X.b dX5_turned_22 (by decide) (fun _ => ?_) (fun h9 => absurd h9 (by decide))
        have lp : ∀ (z q : Nat), bN (aB a) (3 + j) - q = z → q ≤ bN (aB a) (3 + j) → ∀ (υ : Mem), RM υ a → FrN σ υ → ∀ (ls : Array Slot) (H : Heap) (locs : List Loc), lv_has ls 7 [(6, .int (nI q)), (5, .int ((tur a i j q).2)), (4, .int ((tur a i j q).1)), (0, .ref (gad G 134)), (1, .int (nI i)), (2, .int (nI j)), (3, .int (nI k))] → HH G s υ H locs → WI l G p e s m args below meth c 5 119 (fun r τ => r = sp_turned (nI i) (nI j) (nI k) a ∧ RM τ a ∧ FrM σ τ) H locs (F0 m 39 ls []) := by
          intro km
          induction km using Nat.strongRecOn with
          | ind km ih =>
            intro q hk hi υ hR0 hf0 ls H locs hl hh
            have hb9 := bst_lt (f := fun k => lcN (instT a i j k)) (k := q) (by omega)
            refine lv_iload X.x X.b dX5_turned_39 (lv_at hl 0 rfl) ?_
            refine lv_aload_n X.x X.b dX5_turned_41 rfl (lv_at hl 3 rfl) ?_
            refine f_get X hh (v := .ref (gad G 135)) (sh_134 G _) (by decide) rfl in_X5 0 (by decide) kf_X5_7 rfl dX5_turned_42 ?_
            refine lv_bipush (v := nI 57) X.x X.b dX5_turned_45 (by decide) ?_
            refine lv_iload_n X.x X.b dX5_turned_47 rfl (lv_at hl 5 rfl) ?_
            refine f_iadd X (z := nI (57 + j)) (nI_add 57 j) dX5_turned_48 ?_
            refine f_ialdx X hh (j := 57 + j) (y := nI (bN (aB a) (3 + j))) (sh_135 G _) (by decide) rfl (by omega) (by decide) (hR0.2.1.2.2.2.1 _ (by omega)) dX5_turned_49 ?_
            refine lv_icmp_ge (tgt := 104) X.x X.b dX5_turned_50 (by decide) (fun c_7 => ?_) (fun c_7 => ?_)
            · have c_7 : (bN (aB a) (3 + j)) ≤ q := (nI_leI (a := (bN (aB a) (3 + j))) (b := q) (by omega) (by omega)).mp c_7
              refine lv_iload_n X.x X.b dX5_turned_104 rfl (lv_at hl 6 rfl) ?_
              refine lv_if_ne (tgt := 113) X.x X.b dX5_turned_105 (by decide) (fun c_8 => ?_) (fun c_8 => ?_)
              · have c_8 : ¬ k = 0 := fun q9 => c_8 ((nI_eq (a := k) (b := 0) (by omega) (by omega)).mpr q9)
                refine lv_iload X.x X.b dX5_turned_113 (lv_at hl 1 rfl) ?_
                exact f_iret X hh ⟨by have e9 : q = bN (aB a) (3 + j) := (by omega); unfold sp_turned; rw [if_pos hkn, if_pos c_5, ei, ej, if_neg (fun q9 => c_8 ((nI_z (by omega)).mp q9)), e9], hR0, hf0.m⟩ dX5_turned_115
              · have c_8 : k = 0 := (nI_eq (a := k) (b := 0) (by omega) (by omega)).mp c_8
                refine lv_iload X.x X.b dX5_turned_108 (lv_at hl 2 rfl) ?_
                refine lv_goto (tgt := 115) X.x X.b dX5_turned_110 (by decide) ?_
                exact f_iret X hh ⟨by have e9 : q = bN (aB a) (3 + j) := (by omega); unfold sp_turned; rw [if_pos hkn, if_pos c_5, ei, ej, if_pos ((nI_z (by omega)).mpr c_8), e9], hR0, hf0.m⟩ dX5_turned_115
            · have c_7 : ¬ (bN (aB a) (3 + j)) ≤ q := fun q9 => c_7 ((nI_leI (a := (bN (aB a) (3 + j))) (b := q) (by omega) (by omega)).mpr q9)
              refine lv_aload_n X.x X.b dX5_turned_53 rfl (lv_at hl 3 rfl) ?_
              refine lv_iload_n X.x X.b dX5_turned_54 rfl (lv_at hl 4 rfl) ?_
              refine lv_iload_n X.x X.b dX5_turned_55 rfl (lv_at hl 5 rfl) ?_
              refine lv_iload X.x X.b dX5_turned_56 (lv_at hl 0 rfl) ?_
              refine f_callv X hh (c5_go l G (k := i) (t := j) (u := q) hA hR0 (by omega) (by omega) (by omega)) mf_yX5_go ki_yX5_go kl_yX5_go km_X5_121 (sh_134 G _) (by decide) rfl rfl hl.1 [] rfl (Nat.le_of_ble_eq_true rfl) ⟨by decide, by decide⟩ ⟨Nat.zero_le _, Nat.zero_le _⟩ dX5_turned_58 (fun τ H locs hq hh => ?_)
              obtain ⟨hM1, hT1, hf1⟩ := hq
              have hR1 := hR0.kn hf1
              have hIT : LB (instT a i j q) := instT_ok hA (by omega) (by omega)
              have hw0 := TT_w0 hIT
              have hc0 := TT_b0 hIT
              refine lv_aload_n X.x X.b dX5_turned_61 rfl (lv_at hl 3 rfl) ?_
              refine f_get X hh (v := .ref (gad G 145)) (sh_134 G _) (by decide) rfl in_X5 13 (by decide) kf_X5_41 rfl dX5_turned_62 ?_
              refine lv_iconst (v := nI 0) X.x X.b dX5_turned_65 (by decide) ?_
              refine f_ialdx X hh (j := 0) (y := nI ((TT (instT a i j q) 0 0).2.2.1)) (sh_145 G _) (by decide) rfl (by omega) (by decide) (hT1 0 0 (Nat.zero_le _) (Nat.zero_le _) trivial).2.2.1 dX5_turned_66 ?_
              refine lv_if_le (tgt := 98) X.x X.b dX5_turned_67 (by decide) (fun c_9 => ?_) (fun c_9 => ?_)
              · have c_9 : ((TT (instT a i j q) 0 0).2.2.1) ≤ 0 := (nI_leI (a := ((TT (instT a i j q) 0 0).2.2.1)) (b := 0) (by omega) (by omega)).mp c_9
                refine lv_iinc (v := nI (q + 1)) (lv' := [(6, .int (nI (q + 1))), (5, .int ((tur a i j q).2)), (4, .int ((tur a i j q).1)), (0, .ref (gad G 134)), (1, .int (nI i)), (2, .int (nI j)), (3, .int (nI k))]) X.x X.b dX5_turned_98 hl (k := 0) rfl (nI_1 q) (by decide) rfl (fun ls hl => ?_)
                refine lv_goto (tgt := 39) X.x X.b dX5_turned_101 (by decide) ?_
                have e9 : lcN (instT a i j q) = -6 := if_neg ((TT_L hIT).mp (by omega))
                refine ih (bN (aB a) (3 + j) - (q + 1)) (by omega) (q + 1) rfl (by omega) _ hR1 (hf0.tr hf1) ls H locs ?_ hh
                rw [show tur a i j (q + 1) = tur a i j q from if_neg (fun q9 => q9.1 e9)]
                exact lv_sub hl [0, 1, 2, 3, 4, 5, 6] rfl
              · have c_9 : ¬ ((TT (instT a i j q) 0 0).2.2.1) ≤ 0 := fun q9 => c_9 ((nI_leI (a := ((TT (instT a i j q) 0 0).2.2.1)) (b := 0) (by omega) (by omega)).mpr q9)
                refine lv_iload X.x X.b dX5_turned_70 (lv_at hl 2 rfl) ?_
                refine lv_if_lt (tgt := 86) X.x X.b dX5_turned_72 (by decide) (fun c_10 => ?_) (fun c_10 => ?_)
                · refine lv_iload X.x X.b dX5_turned_86 (lv_at hl 0 rfl) ?_
                  refine lv_istore (lv' := [(4, .int (nI q)), (6, .int (nI q)), (5, .int ((tur a i j q).2)), (0, .ref (gad G 134)), (1, .int (nI i)), (2, .int (nI j)), (3, .int (nI k))]) X.x X.b dX5_turned_88 hl (by decide) rfl (fun ls hl => ?_)
                  refine lv_aload_n X.x X.b dX5_turned_90 rfl (lv_at hl 3 rfl) ?_
                  refine f_get X hh (v := .ref (gad G 143)) (sh_134 G _) (by decide) rfl in_X5 11 (by decide) kf_X5_35 rfl dX5_turned_91 ?_
                  refine lv_iconst (v := nI 0) X.x X.b dX5_turned_94 (by decide) ?_
                  refine f_ialdx X hh (j := 0) (y := nI ((TT (instT a i j q) 0 0).1)) (sh_143 G _) (by decide) rfl (by omega) (by decide) (hT1 0 0 (Nat.zero_le _) (Nat.zero_le _) trivial).1 dX5_turned_95 ?_
                  refine lv_istore (lv' := [(5, .int (nI ((TT (instT a i j q) 0 0).1))), (4, .int (nI q)), (6, .int (nI q)), (0, .ref (gad G 134)), (1, .int (nI i)), (2, .int (nI j)), (3, .int (nI k))]) X.x X.b dX5_turned_96 hl (by decide) rfl (fun ls hl => ?_)
                  refine lv_iinc (v := nI (q + 1)) (lv' := [(6, .int (nI (q + 1))), (5, .int (nI ((TT (instT a i j q) 0 0).1))), (4, .int (nI q)), (0, .ref (gad G 134)), (1, .int (nI i)), (2, .int (nI j)), (3, .int (nI k))]) X.x X.b dX5_turned_98 hl (k := 2) rfl (nI_1 q) (by decide) rfl (fun ls hl => ?_)
                  refine lv_goto (tgt := 39) X.x X.b dX5_turned_101 (by decide) ?_
                  have e9 : lcN (instT a i j q) = nI (TT (instT a i j q) 0 0).1 := if_pos (hasL_of hIT (by omega))
                  refine ih (bN (aB a) (3 + j) - (q + 1)) (by omega) (q + 1) rfl (by omega) _ hR1 (hf0.tr hf1) ls H locs ?_ hh
                  rw [show tur a i j (q + 1) = (nI q, lcN (instT a i j q)) from if_pos ⟨by show lcN (instT a i j q) ≠ -6; rw [e9]; exact nI_m6 (by omega), Or.inl (hb9.mp c_10)⟩]
                  rw [e9]
                  exact lv_sub hl [0, 1, 2, 3, 4, 5, 6] rfl
                · refine lv_aload_n X.x X.b dX5_turned_75 rfl (lv_at hl 3 rfl) ?_
                  refine f_get X hh (v := .ref (gad G 143)) (sh_134 G _) (by decide) rfl in_X5 11 (by decide) kf_X5_35 rfl dX5_turned_76 ?_
                  refine lv_iconst (v := nI 0) X.x X.b dX5_turned_79 (by decide) ?_
                  refine f_ialdx X hh (j := 0) (y := nI ((TT (instT a i j q) 0 0).1)) (sh_143 G _) (by decide) rfl (by omega) (by decide) (hT1 0 0 (Nat.zero_le _) (Nat.zero_le _) trivial).1 dX5_turned_80 ?_
                  refine lv_iload X.x X.b dX5_turned_81 (lv_at hl 1 rfl) ?_
                  refine lv_icmp_ge (tgt := 98) X.x X.b dX5_turned_83 (by decide) (fun c_11 => ?_) (fun c_11 => ?_)
                  · refine lv_iinc (v := nI (q + 1)) (lv' := [(6, .int (nI (q + 1))), (5, .int ((tur a i j q).2)), (4, .int ((tur a i j q).1)), (0, .ref (gad G 134)), (1, .int (nI i)), (2, .int (nI j)), (3, .int (nI k))]) X.x X.b dX5_turned_98 hl (k := 0) rfl (nI_1 q) (by decide) rfl (fun ls hl => ?_)
                    refine lv_goto (tgt := 39) X.x X.b dX5_turned_101 (by decide) ?_
                    have e9 : lcN (instT a i j q) = nI (TT (instT a i j q) 0 0).1 := if_pos (hasL_of hIT (by omega))
                    refine ih (bN (aB a) (3 + j) - (q + 1)) (by omega) (q + 1) rfl (by omega) _ hR1 (hf0.tr hf1) ls H locs ?_ hh
                    rw [show tur a i j (q + 1) = tur a i j q from if_neg (fun q9 => q9.2.elim (fun q8 => c_10 (hb9.mpr q8)) (fun q8 => by have q7 : lcN (instT a i j q) < (tur a i j q).2 := q8; rw [e9] at q7; exact absurd q7 (Int32.not_lt.mpr c_11)))]
                    exact lv_sub hl [0, 1, 2, 3, 4, 5, 6] rfl
                  · refine lv_iload X.x X.b dX5_turned_86 (lv_at hl 0 rfl) ?_
                    refine lv_istore (lv' := [(4, .int (nI q)), (6, .int (nI q)), (5, .int ((tur a i j q).2)), (0, .ref (gad G 134)), (1, .int (nI i)), (2, .int (nI j)), (3, .int (nI k))]) X.x X.b dX5_turned_88 hl (by decide) rfl (fun ls hl => ?_)
                    refine lv_aload_n X.x X.b dX5_turned_90 rfl (lv_at hl 3 rfl) ?_
                    refine f_get X hh (v := .ref (gad G 143)) (sh_134 G _) (by decide) rfl in_X5 11 (by decide) kf_X5_35 rfl dX5_turned_91 ?_
                    refine lv_iconst (v := nI 0) X.x X.b dX5_turned_94 (by decide) ?_
                    refine f_ialdx X hh (j := 0) (y := nI ((TT (instT a i j q) 0 0).1)) (sh_143 G _) (by decide) rfl (by omega) (by decide) (hT1 0 0 (Nat.zero_le _) (Nat.zero_le _) trivial).1 dX5_turned_95 ?_
                    refine lv_istore (lv' := [(5, .int (nI ((TT (instT a i j q) 0 0).1))), (4, .int (nI q)), (6, .int (nI q)), (0, .ref (gad G 134)), (1, .int (nI i)), (2, .int (nI j)), (3, .int (nI k))]) X.x X.b dX5_turned_96 hl (by decide) rfl (fun ls hl => ?_)
                    refine lv_iinc (v := nI (q + 1)) (lv' := [(6, .int (nI (q + 1))), (5, .int (nI ((TT (instT a i j q) 0 0).1))), (4, .int (nI q)), (0, .ref (gad G 134)), (1, .int (nI i)), (2, .int (nI j)), (3, .int (nI k))]) X.x X.b dX5_turned_98 hl (k := 2) rfl (nI_1 q) (by decide) rfl (fun ls hl => ?_)
                    refine lv_goto (tgt := 39) X.x X.b dX5_turned_101 (by decide) ?_
                    have e9 : lcN (instT a i j q) = nI (TT (instT a i j q) 0 0).1 := if_pos (hasL_of hIT (by omega))
                    refine ih (bN (aB a) (3 + j) - (q + 1)) (by omega) (q + 1) rfl (by omega) _ hR1 (hf0.tr hf1) ls H locs ?_ hh
                    rw [show tur a i j (q + 1) = (nI q, lcN (instT a i j q)) from if_pos ⟨by show lcN (instT a i j q) ≠ -6; rw [e9]; exact nI_m6 (by omega), Or.inr (by show lcN (instT a i j q) < (tur a i j q).2; rw [e9]; exact Int32.not_le.mp c_11)⟩]
                    rw [e9]
                    exact lv_sub hl [0, 1, 2, 3, 4, 5, 6] rfl
        refine lv_bipush (v := (-6)) X.x X.b dX5_turned_28 (by decide) ?_
        refine lv_istore (lv' := [(4, .int ((-6))), (0, .ref (gad G 134)), (1, .int (nI i)), (2, .int (nI j)), (3, .int (nI k))]) X.x X.b dX5_turned_30 hl (by decide) rfl (fun ls hl => ?_)
        refine lv_bipush (v := (-6)) X.x X.b dX5_turned_32 (by decide) ?_
        refine lv_istore (lv' := [(5, .int ((-6))), (4, .int ((-6))), (0, .ref (gad G 134)), (1, .int (nI i)), (2, .int (nI j)), (3, .int (nI k))]) X.x X.b dX5_turned_34 hl (by decide) rfl (fun ls hl => ?_)
        refine lv_iconst (v := nI 0) X.x X.b dX5_turned_36 (by decide) ?_
        refine lv_istore (lv' := [(6, .int (nI 0)), (5, .int ((-6))), (4, .int ((-6))), (0, .ref (gad G 134)), (1, .int (nI i)), (2, .int (nI j)), (3, .int (nI k))]) X.x X.b dX5_turned_37 hl (by decide) rfl (fun ls hl => ?_)
        exact lp (bN (aB a) (3 + j)) 0 rfl (by omega) σ hR FrN.rf ls H locs (lv_sub hl [0, 1, 2, 3, 4, 5, 6] rfl) hh
      · rw [show (if inB v 0 1 then (1 : Int32) else 0) = 0 from if_neg c_5]
        refine lv_if_ne (tgt := 28) X.x X.b dX5_turned_22 (by decide) (fun h9 => absurd (show _ by decide) h9) (fun _ => ?_)
        refine lv_bipush (v := (-2)) X.x X.b dX5_turned_25 (by decide) ?_
        exact f_iret X hh ⟨by unfold sp_turned; rw [if_pos hkn, if_neg c_5], hR, FrM.rf⟩ dX5_turned_27
    · rw [show (if inB y 0 3 then (1 : Int32) else 0) = 0 from if_neg c_3]
      refine lv_if_ne (tgt := 16) X.x X.b dX5_turned_11 (by decide) (fun h9 => absurd (show _ by decide) h9) (fun _ => ?_)
      refine lv_iconst (v := (-1)) X.x X.b dX5_turned_14 (by decide) ?_
      exact f_iret X hh ⟨(if_neg (fun q9 : kno _ _ => c_3 q9.2)).symm, hR, FrM.rf⟩ dX5_turned_15
  · rw [show (if inB x 0 2 then (1 : Int32) else 0) = 0 from if_neg c_1]
    refine lv_if_eq (tgt := 14) X.x X.b dX5_turned_4 (by decide) (fun _ => ?_) (fun h9 => absurd (show _ by decide) h9)
    refine lv_iconst (v := (-1)) X.x X.b dX5_turned_14 (by decide) ?_
    exact f_iret X hh ⟨(if_neg (fun q9 : kno _ _ => c_1 q9.1)).symm, hR, FrM.rf⟩ dX5_turned_15
set_option maxHeartbeats 4000000 in
set_option maxRecDepth 100000 in
theorem c5_anew (l : Launch) (G : GG) {σ : Mem} {a : AS} (x y v : Int32) (hA : AOK a) (hR : RM σ a) : Ci l G yX5_anew cX5_anew 10 (some .int) 5 119 [.ref (gad G 134), .int x, .int y, .int v] σ (fun r τ => r = sp_anew x y v a ∧ RM τ a ∧ FrM σ τ) := by
  refine Ci.of (own := RX5) (by decide) rfl (Nat.le_of_ble_eq_true rfl) (fun p e s m args below meth c ls H locs X hl hh => ?_)
  have hl : lv_has ls 10 [(0, .ref (gad G 134)), (1, .int x), (2, .int y), (3, .int v)] := hl
  refine lv_iload_n X.x X.b dX5_anew_0 rfl (lv_at hl 1 rfl) ?_
  refine f_scalli X hh (c5_isLine l G x) mf_yX5_isLine ks_yX5_isLine km_X5_68 rfl hl.1 [] rfl (Nat.le_of_ble_eq_true rfl) ⟨by decide, by decide⟩ ⟨Nat.zero_le _, Nat.zero_le _⟩ dX5_anew_1 (fun r τ H locs hq hh => ?_)
  obtain ⟨rfl, hτ⟩ := hq
  rw [hτ] at hh
  clear hτ
  by_cases c_1 : inB x 0 2
  · rw [show (if inB x 0 2 then (1 : Int32) else 0) = 1 from if_pos c_1]
    obtain ⟨i, ha_i, hb_i, rfl⟩ := inB_of c_1 (by decide)
    refine lv_if_eq (tgt := 14) X.x X.b dX5_anew_4 (by decide) (fun h9 => absurd h9 (by decide)) (fun _ => ?_)
    refine lv_iload_n X.x X.b dX5_anew_7 rfl (lv_at hl 2 rfl) ?_
    refine f_scalli X hh (c5_isTune l G y) mf_yX5_isTune ks_yX5_isTune km_X5_72 rfl hl.1 [] rfl (Nat.le_of_ble_eq_true rfl) ⟨by decide, by decide⟩ ⟨Nat.zero_le _, Nat.zero_le _⟩ dX5_anew_8 (fun r τ H locs hq hh => ?_)
    obtain ⟨rfl, hτ⟩ := hq
    rw [hτ] at hh
    clear hτ
    by_cases c_3 : inB y 0 3
    · rw [show (if inB y 0 3 then (1 : Int32) else 0) = 1 from if_pos c_3]
      obtain ⟨j, ha_j, hb_j, rfl⟩ := inB_of c_3 (by decide)
      refine lv_if_ne (tgt := 16) X.x X.b dX5_anew_11 (by decide) (fun _ => ?_) (fun h9 => absurd h9 (by decide))
      have hkn : kno (nI i) (nI j) := ⟨c_1, c_3⟩
      have hI := inst_ok hA (show i < 3 by omega) (show j < 4 by omega)
      have ei := ix_nI (show i < 2 ^ 31 by omega)
      have ej := ix_nI (show j < 2 ^ 31 by omega)
      have hbn1 := hI.1
      have hbn2 := hI.2.1
      have hbn3 : bN (aB a) i ≤ 9 := hI.1
      have hbn4 : bN (aB a) (3 + j) ≤ 11 := hI.2.1
      refine lv_iload_n X.x X.b dX5_anew_16 rfl (lv_at hl 3 rfl) ?_
      refine lv_iconst (v := nI 0) X.x X.b dX5_anew_17 (by decide) ?_
      refine lv_iconst (v := nI 2) X.x X.b dX5_anew_18 (by decide) ?_
      refine f_scalli X hh (c5_inB l G v 0 2 (by decide) (by decide)) mf_yX5_in ks_yX5_in km_X5_50 rfl hl.1 [] rfl (Nat.le_of_ble_eq_true rfl) ⟨by decide, by decide⟩ ⟨Nat.zero_le _, Nat.zero_le _⟩ dX5_anew_19 (fun r τ H locs hq hh => ?_)
      obtain ⟨rfl, hτ⟩ := hq
      rw [hτ] at hh
      clear hτ
      by_cases c_5 : inB v 0 2
      · rw [show (if inB v 0 2 then (1 : Int32) else 0) = 1 from if_pos c_5]
        obtain ⟨k, ha_k, hb_k, rfl⟩ := inB_of c_5 (by decide)
        refine lv_if_ne (tgt := 28) X.x X.b dX5_anew_22 (by decide) (fun _ => ?_) (fun h9 => absurd h9 (by decide))
        refine lv_aload_n X.x X.b dX5_anew_28 rfl (lv_at hl 0 rfl) ?_
        refine lv_iload_n X.x X.b dX5_anew_29 rfl (lv_at hl 1 rfl) ?_
        refine lv_iload_n X.x X.b dX5_anew_30 rfl (lv_at hl 2 rfl) ?_
        refine lv_iconst (v := nI 0) X.x X.b dX5_anew_31 (by decide) ?_
        refine f_callv X hh (c5_go0 l G (k := i) (t := j) hA hR (by omega) (by omega)) mf_yX5_go ki_yX5_go kl_yX5_go km_X5_121 (sh_134 G _) (by decide) rfl rfl hl.1 [] rfl (Nat.le_of_ble_eq_true rfl) ⟨by decide, by decide⟩ ⟨Nat.zero_le _, Nat.zero_le _⟩ dX5_anew_32 (fun τ H locs hq hh => ?_)
        obtain ⟨hM1, hT1, hf1⟩ := hq
        have hR1 := hR.kn hf1
        have hw0 := TT_w0 (inst_ok hA (show i < 3 by omega) (show j < 4 by omega))
        refine lv_aload_n X.x X.b dX5_anew_35 rfl (lv_at hl 0 rfl) ?_
        refine f_get X hh (v := .ref (gad G 145)) (sh_134 G _) (by decide) rfl in_X5 13 (by decide) kf_X5_41 rfl dX5_anew_36 ?_
        refine lv_iconst (v := nI 0) X.x X.b dX5_anew_39 (by decide) ?_
        refine f_ialdx X hh (j := 0) (y := nI ((TT (inst a i j) 0 0).2.2.1)) (sh_145 G _) (by decide) rfl (by omega) (by decide) (hT1 0 0 (Nat.zero_le _) (Nat.zero_le _) trivial).2.2.1 dX5_anew_40 ?_
        refine lv_if_ne (tgt := 47) X.x X.b dX5_anew_41 (by decide) (fun c_7 => ?_) (fun c_7 => ?_)
        · have c_7 : ¬ ((TT (inst a i j) 0 0).2.2.1) = 0 := fun q9 => c_7 ((nI_eq (a := ((TT (inst a i j) 0 0).2.2.1)) (b := 0) (by omega) (by omega)).mpr q9)
          have hLs := hasL_of hI c_7
          have hc1 := TT_b0 hI
          have e0 : lcN (inst a i j) = nI (TT (inst a i j) 0 0).1 := if_pos hLs
          have hn6 : lcN (inst a i j) ≠ -6 := by rw [e0]; exact nI_m6 (by omega)
          have lp : ∀ (z q : Nat), bN (aB a) i - q = z → q ≤ bN (aB a) i → ∀ (υ : Mem), MLM υ (inst a i j) → RM υ a → FrN σ υ → ∀ (ls : Array Slot) (H : Heap) (locs : List Loc), lv_has ls 10 [(7, .int (nI q)), (6, .int ((anN a i j (3 * q)).2.1)), (5, .int ((anN a i j (3 * q)).1)), (4, .int ((anN a i j (3 * q)).2.2)), (0, .ref (gad G 134)), (1, .int (nI i)), (2, .int (nI j)), (3, .int (nI k))] → HH G s υ H locs → WI l G p e s m args below meth c 5 119 (fun r τ => r = sp_anew (nI i) (nI j) (nI k) a ∧ RM τ a ∧ FrM σ τ) H locs (F0 m 66 ls []) := by
            intro km
            induction km using Nat.strongRecOn with
            | ind km ih =>
              intro q hk hi υ hM4 hR4 hf4 ls H locs hl hh
              have hb9 : (anN a i j (3 * q)).1 < 0 ↔ (anN a i j (3 * q)).1 = -6 := anw_lt (f := fun s v => lcN (instA a i j s v)) (c0 := lcN (inst a i j)) (e := 3 * q) (by omega)
              refine lv_iload X.x X.b dX5_anew_66 (lv_at hl 0 rfl) ?_
              refine lv_aload_n X.x X.b dX5_anew_68 rfl (lv_at hl 4 rfl) ?_
              refine f_geti X hh (x := nI (bN (aB a) i)) (sh_134 G _) (by decide) rfl in_X5 9 (by decide) kf_X5_75 rfl hM4.1 dX5_anew_69 ?_
              refine lv_icmp_ge (tgt := 154) X.x X.b dX5_anew_72 (by decide) (fun c_8 => ?_) (fun c_8 => ?_)
              · have c_8 : (bN (aB a) i) ≤ q := (nI_leI (a := (bN (aB a) i)) (b := q) (by omega) (by omega)).mp c_8
                refine lv_iload X.x X.b dX5_anew_154 (lv_at hl 2 rfl) ?_
                refine lv_if_lt (tgt := 163) X.x X.b dX5_anew_156 (by decide) (fun c_9 => ?_) (fun c_9 => ?_)
                · refine lv_iload X.x X.b dX5_anew_163 (lv_at hl 2 rfl) ?_
                  refine lv_goto (tgt := 180) X.x X.b dX5_anew_165 (by decide) ?_
                  refine f_iret X hh ?_ dX5_anew_180
                  have e9 : q = bN (aB a) i := by omega
                  subst e9
                  refine ⟨?_, hR4, hf4.m⟩
                  unfold sp_anew
                  rw [if_pos hkn, if_pos c_5, ei, ej]
                  unfold anr
                  have e8 : (anN a i j (3 * bN (aB a) i)).1 = -6 := hb9.mp c_9
                  have e7 : (anN a i j (3 * bN (aB a) i)).2.1 = -6 := anw_no e8 (by omega)
                  by_cases e6 : nI k = 2
                  · rw [if_pos e6, if_pos e8]; exact e8
                  · rw [if_neg e6]
                    by_cases e5 : nI k = 0
                    · rw [if_pos e5]
                    · rw [if_neg e5, e7]; exact e8
                · refine lv_iload_n X.x X.b dX5_anew_159 rfl (lv_at hl 7 rfl) ?_
                  refine lv_if_ne (tgt := 168) X.x X.b dX5_anew_160 (by decide) (fun c_10 => ?_) (fun c_10 => ?_)
                  · have c_10 : ¬ k = 0 := fun q9 => c_10 ((nI_eq (a := k) (b := 0) (by omega) (by omega)).mpr q9)
                    refine lv_iload_n X.x X.b dX5_anew_168 rfl (lv_at hl 7 rfl) ?_
                    refine lv_iconst (v := nI 1) X.x X.b dX5_anew_169 (by decide) ?_
                    refine lv_icmp_ne (tgt := 178) X.x X.b dX5_anew_170 (by decide) (fun c_11 => ?_) (fun c_11 => ?_)
                    · have c_11 : ¬ k = 1 := fun q9 => c_11 ((nI_eq (a := k) (b := 1) (by omega) (by omega)).mpr q9)
                      refine lv_iload X.x X.b dX5_anew_178 (lv_at hl 3 rfl) ?_
                      refine f_iret X hh ?_ dX5_anew_180
                      have e9 : q = bN (aB a) i := by omega
                      subst e9
                      refine ⟨?_, hR4, hf4.m⟩
                      unfold sp_anew
                      rw [if_pos hkn, if_pos c_5, ei, ej]
                      unfold anr
                      rw [if_pos ((nI_2 (by omega)).mpr (by omega)), if_neg (fun q9 => c_9 (hb9.mpr q9))]
                    · have c_11 : k = 1 := (nI_eq (a := k) (b := 1) (by omega) (by omega)).mp c_11
                      refine lv_iload X.x X.b dX5_anew_173 (lv_at hl 1 rfl) ?_
                      refine lv_goto (tgt := 180) X.x X.b dX5_anew_175 (by decide) ?_
                      refine f_iret X hh ?_ dX5_anew_180
                      have e9 : q = bN (aB a) i := by omega
                      subst e9
                      refine ⟨?_, hR4, hf4.m⟩
                      unfold sp_anew
                      rw [if_pos hkn, if_pos c_5, ei, ej]
                      unfold anr
                      rw [if_neg (fun q9 => absurd ((nI_2 (by omega)).mp q9) (by omega)), if_neg (fun q9 => c_10 ((nI_z (by omega)).mp q9))]
                  · have c_10 : k = 0 := (nI_eq (a := k) (b := 0) (by omega) (by omega)).mp c_10
                    refine lv_iload X.x X.b dX5_anew_163 (lv_at hl 2 rfl) ?_
                    refine lv_goto (tgt := 180) X.x X.b dX5_anew_165 (by decide) ?_
                    refine f_iret X hh ?_ dX5_anew_180
                    have e9 : q = bN (aB a) i := by omega
                    subst e9
                    refine ⟨?_, hR4, hf4.m⟩
                    unfold sp_anew
                    rw [if_pos hkn, if_pos c_5, ei, ej]
                    unfold anr
                    rw [if_neg (fun q9 => absurd ((nI_2 (by omega)).mp q9) (by omega)), if_pos ((nI_z (by omega)).mpr c_10)]
              · have c_8 : ¬ (bN (aB a) i) ≤ q := fun q9 => c_8 ((nI_leI (a := (bN (aB a) i)) (b := q) (by omega) (by omega)).mpr q9)
                refine lv_aload_n X.x X.b dX5_anew_75 rfl (lv_at hl 4 rfl) ?_
                refine f_get X hh (v := .ref (gad G 139)) (sh_134 G _) (by decide) rfl in_X5 5 (by decide) kf_X5_23 rfl dX5_anew_76 ?_
                refine lv_iload X.x X.b dX5_anew_79 (lv_at hl 0 rfl) ?_
                refine f_ialdx X hh (j := q) (y := nI (bW (aB a) i q)) (sh_139 G _) (by decide) rfl (by omega) (by decide) (hM4.2.2.1 q (show q < bN (aB a) i by omega)).1 dX5_anew_81 ?_
                refine lv_istore (lv' := [(8, .int (nI (bW (aB a) i q))), (7, .int (nI q)), (6, .int ((anN a i j (3 * q)).2.1)), (5, .int ((anN a i j (3 * q)).1)), (4, .int ((anN a i j (3 * q)).2.2)), (0, .ref (gad G 134)), (1, .int (nI i)), (2, .int (nI j)), (3, .int (nI k))]) X.x X.b dX5_anew_82 hl (by decide) rfl (fun ls hl => ?_)
                refine lv_iconst (v := nI 0) X.x X.b dX5_anew_84 (by decide) ?_
                refine lv_istore (lv' := [(9, .int (nI 0)), (8, .int (nI (bW (aB a) i q))), (7, .int (nI q)), (6, .int ((anN a i j (3 * q)).2.1)), (5, .int ((anN a i j (3 * q)).1)), (4, .int ((anN a i j (3 * q)).2.2)), (0, .ref (gad G 134)), (1, .int (nI i)), (2, .int (nI j)), (3, .int (nI k))]) X.x X.b dX5_anew_85 hl (by decide) rfl (fun ls hl => ?_)
                have lpi : ∀ (u0 u : Nat), 3 - u = u0 → u ≤ 3 → ∀ (ξ : Mem), (∀ u9, MLM (mset ξ 139 q (nI u9)) (instA a i j q u9)) → RM ξ a → FrN σ ξ → ∀ (ls : Array Slot) (H : Heap) (locs : List Loc), lv_has ls 10 [(9, .int (nI u)), (8, .int (nI (bW (aB a) i q))), (7, .int (nI q)), (6, .int ((anN a i j (3 * q + u)).2.1)), (5, .int ((anN a i j (3 * q + u)).1)), (4, .int ((anN a i j (3 * q + u)).2.2)), (0, .ref (gad G 134)), (1, .int (nI i)), (2, .int (nI j)), (3, .int (nI k))] → HH G s ξ H locs → WI l G p e s m args below meth c 5 119 (fun r τ => r = sp_anew (nI i) (nI j) (nI k) a ∧ RM τ a ∧ FrM σ τ) H locs (F0 m 87 ls []) := by
                  intro km
                  induction km using Nat.strongRecOn with
                  | ind km ih2 =>
                    intro u hk2 hu ξ hX5 hR5 hf5 ls H locs hl hh
                    have hne : (anN a i j (3 * q + u)).2.2 ≠ -6 := anw_ne hn6
                    refine lv_iload X.x X.b dX5_anew_87 (lv_at hl 0 rfl) ?_
                    refine lv_iconst (v := nI 3) X.x X.b dX5_anew_89 (by decide) ?_
                    refine lv_icmp_ge (tgt := 139) X.x X.b dX5_anew_90 (by decide) (fun c_12 => ?_) (fun c_12 => ?_)
                    · have c_12 : 3 ≤ u := (nI_leI (a := 3) (b := u) (by omega) (by omega)).mp c_12
                      refine lv_aload_n X.x X.b dX5_anew_139 rfl (lv_at hl 6 rfl) ?_
                      refine f_get X hh (v := .ref (gad G 139)) (sh_134 G _) (by decide) rfl in_X5 5 (by decide) kf_X5_23 rfl dX5_anew_140 ?_
                      refine lv_iload X.x X.b dX5_anew_143 (lv_at hl 2 rfl) ?_
                      refine lv_iload X.x X.b dX5_anew_145 (lv_at hl 1 rfl) ?_
                      refine f_iast X hh (j := q) (sh_139 G) (by decide) rfl (by omega) (by decide) dX5_anew_147 (fun H locs hh => ?_)
                      refine lv_iinc (v := nI (q + 1)) (lv' := [(7, .int (nI (q + 1))), (9, .int (nI u)), (8, .int (nI (bW (aB a) i q))), (6, .int ((anN a i j (3 * q + u)).2.1)), (5, .int ((anN a i j (3 * q + u)).1)), (4, .int ((anN a i j (3 * q + u)).2.2)), (0, .ref (gad G 134)), (1, .int (nI i)), (2, .int (nI j)), (3, .int (nI k))]) X.x X.b dX5_anew_148 hl (k := 2) rfl (nI_1 q) (by decide) rfl (fun ls hl => ?_)
                      refine lv_goto (tgt := 66) X.x X.b dX5_anew_151 (by decide) ?_
                      refine ih (bN (aB a) i - (q + 1)) (by omega) (q + 1) rfl (by omega) _ (hX5 _).un (hR5.kn (FrN.rf.set (by decide))) (hf5.set (by decide)) ls H locs ?_ hh
                      rw [show 3 * (q + 1) = 3 * q + u by omega]
                      exact lv_sub hl [0, 3, 4, 5, 6, 7, 8, 9] rfl
                    · have c_12 : ¬ 3 ≤ u := fun q9 => c_12 ((nI_leI (a := 3) (b := u) (by omega) (by omega)).mpr q9)
                      refine lv_aload_n X.x X.b dX5_anew_93 rfl (lv_at hl 6 rfl) ?_
                      refine f_get X hh (v := .ref (gad G 139)) (sh_134 G _) (by decide) rfl in_X5 5 (by decide) kf_X5_23 rfl dX5_anew_94 ?_
                      refine lv_iload X.x X.b dX5_anew_97 (lv_at hl 2 rfl) ?_
                      refine lv_iload X.x X.b dX5_anew_99 (lv_at hl 0 rfl) ?_
                      refine f_iast X hh (j := q) (sh_139 G) (by decide) rfl (by omega) (by decide) dX5_anew_101 (fun H locs hh => ?_)
                      refine lv_aload_n X.x X.b dX5_anew_102 rfl (lv_at hl 6 rfl) ?_
                      have hIA : LB (instA a i j q u) := instA_ok hA (by omega) (by omega) (by omega)
                      have hc0 := TT_b0 hIA
                      refine f_callv X hh (c5_layTable l G hIA (hX5 u)) mf_yX5_layTable ki_yX5_layTable kl_yX5_layTable km_X5_109 (sh_134 G _) (by decide) rfl rfl hl.1 [] rfl (Nat.le_of_ble_eq_true rfl) ⟨by decide, by decide⟩ ⟨Nat.zero_le _, Nat.zero_le _⟩ dX5_anew_103 (fun τ H locs hq hh => ?_)
                      obtain ⟨hT6, hf6⟩ := hq
                      refine lv_aload_n X.x X.b dX5_anew_106 rfl (lv_at hl 6 rfl) ?_
                      refine f_get X hh (v := .ref (gad G 143)) (sh_134 G _) (by decide) rfl in_X5 11 (by decide) kf_X5_35 rfl dX5_anew_107 ?_
                      refine lv_iconst (v := nI 0) X.x X.b dX5_anew_110 (by decide) ?_
                      refine f_ialdx X hh (j := 0) (y := nI ((TT (instA a i j q u) 0 0).1)) (sh_143 G _) (by decide) rfl (by omega) (by decide) (hT6 0 0 (Nat.zero_le _) (Nat.zero_le _) trivial).1 dX5_anew_111 ?_
                      refine lv_iload X.x X.b dX5_anew_112 (lv_at hl 5 rfl) ?_
                      refine lv_icmp_ge (tgt := 133) X.x X.b dX5_anew_114 (by decide) (fun c_13 => ?_) (fun c_13 => ?_)
                      · refine lv_iinc (v := nI (u + 1)) (lv' := [(9, .int (nI (u + 1))), (8, .int (nI (bW (aB a) i q))), (7, .int (nI q)), (6, .int ((anN a i j (3 * q + u)).2.1)), (5, .int ((anN a i j (3 * q + u)).1)), (4, .int ((anN a i j (3 * q + u)).2.2)), (0, .ref (gad G 134)), (1, .int (nI i)), (2, .int (nI j)), (3, .int (nI k))]) X.x X.b dX5_anew_133 hl (k := 0) rfl (nI_1 u) (by decide) rfl (fun ls hl => ?_)
                        refine lv_goto (tgt := 87) X.x X.b dX5_anew_136 (by decide) ?_
                        have e9 : lcN (instA a i j q u) = nI (TT (instA a i j q u) 0 0).1 := if_pos hLs
                        refine ih2 (3 - (u + 1)) (by omega) (u + 1) rfl (by omega) _ (fun u9 => ?_) (hR5.kn ((FrN.rf.set (by decide)).tr hf6.n)) (hf5.tr ((FrN.rf.set (by decide)).tr hf6.n)) ls H locs ?_ hh
                        · refine (hX5 u9).eq (fun c9 hc9 => ?_)
                          by_cases e8 : c9 = 139
                          · subst e8; exact mset2 (hf6 139 (by decide))
                          · rw [mset_n e8, mset_n e8, hf6 c9 (by omega), mset_n e8]
                        · rw [← Nat.add_assoc, anN_s (by omega), if_neg (fun q9 => q9.2.elim (fun q8 => absurd q8 hne) (fun q8 => by have q7 : lcN (instA a i j q u) < (anN a i j (3 * q + u)).2.2 := q8; rw [e9] at q7; exact absurd q7 (Int32.not_lt.mpr c_13)))]
                          exact lv_sub hl [0, 1, 2, 3, 4, 5, 6, 7, 8, 9] rfl
                      · refine lv_aload_n X.x X.b dX5_anew_117 rfl (lv_at hl 6 rfl) ?_
                        refine f_get X hh (v := .ref (gad G 143)) (sh_134 G _) (by decide) rfl in_X5 11 (by decide) kf_X5_35 rfl dX5_anew_118 ?_
                        refine lv_iconst (v := nI 0) X.x X.b dX5_anew_121 (by decide) ?_
                        refine f_ialdx X hh (j := 0) (y := nI ((TT (instA a i j q u) 0 0).1)) (sh_143 G _) (by decide) rfl (by omega) (by decide) (hT6 0 0 (Nat.zero_le _) (Nat.zero_le _) trivial).1 dX5_anew_122 ?_
                        refine lv_istore (lv' := [(4, .int (nI ((TT (instA a i j q u) 0 0).1))), (9, .int (nI u)), (8, .int (nI (bW (aB a) i q))), (7, .int (nI q)), (6, .int ((anN a i j (3 * q + u)).2.1)), (5, .int ((anN a i j (3 * q + u)).1)), (0, .ref (gad G 134)), (1, .int (nI i)), (2, .int (nI j)), (3, .int (nI k))]) X.x X.b dX5_anew_123 hl (by decide) rfl (fun ls hl => ?_)
                        refine lv_iload X.x X.b dX5_anew_125 (lv_at hl 3 rfl) ?_
                        refine lv_istore (lv' := [(5, .int (nI q)), (4, .int (nI ((TT (instA a i j q u) 0 0).1))), (9, .int (nI u)), (8, .int (nI (bW (aB a) i q))), (7, .int (nI q)), (6, .int ((anN a i j (3 * q + u)).2.1)), (0, .ref (gad G 134)), (1, .int (nI i)), (2, .int (nI j)), (3, .int (nI k))]) X.x X.b dX5_anew_127 hl (by decide) rfl (fun ls hl => ?_)
                        refine lv_iload X.x X.b dX5_anew_129 (lv_at hl 2 rfl) ?_
                        refine lv_istore (lv' := [(6, .int (nI u)), (5, .int (nI q)), (4, .int (nI ((TT (instA a i j q u) 0 0).1))), (9, .int (nI u)), (8, .int (nI (bW (aB a) i q))), (7, .int (nI q)), (0, .ref (gad G 134)), (1, .int (nI i)), (2, .int (nI j)), (3, .int (nI k))]) X.x X.b dX5_anew_131 hl (by decide) rfl (fun ls hl => ?_)
                        refine lv_iinc (v := nI (u + 1)) (lv' := [(9, .int (nI (u + 1))), (6, .int (nI u)), (5, .int (nI q)), (4, .int (nI ((TT (instA a i j q u) 0 0).1))), (8, .int (nI (bW (aB a) i q))), (7, .int (nI q)), (0, .ref (gad G 134)), (1, .int (nI i)), (2, .int (nI j)), (3, .int (nI k))]) X.x X.b dX5_anew_133 hl (k := 3) rfl (nI_1 u) (by decide) rfl (fun ls hl => ?_)
                        refine lv_goto (tgt := 87) X.x X.b dX5_anew_136 (by decide) ?_
                        have e9 : lcN (instA a i j q u) = nI (TT (instA a i j q u) 0 0).1 := if_pos hLs
                        refine ih2 (3 - (u + 1)) (by omega) (u + 1) rfl (by omega) _ (fun u9 => ?_) (hR5.kn ((FrN.rf.set (by decide)).tr hf6.n)) (hf5.tr ((FrN.rf.set (by decide)).tr hf6.n)) ls H locs ?_ hh
                        · refine (hX5 u9).eq (fun c9 hc9 => ?_)
                          by_cases e8 : c9 = 139
                          · subst e8; exact mset2 (hf6 139 (by decide))
                          · rw [mset_n e8, mset_n e8, hf6 c9 (by omega), mset_n e8]
                        · rw [← Nat.add_assoc, anN_s (by omega), if_pos ⟨by show lcN (instA a i j q u) ≠ -6; rw [e9]; exact nI_m6 (by omega), Or.inr (by show lcN (instA a i j q u) < (anN a i j (3 * q + u)).2.2; rw [e9]; exact Int32.not_le.mp c_13)⟩]
                          rw [e9]
                          exact lv_sub hl [0, 4, 5, 1, 2, 3, 6, 7, 8, 9] rfl
                exact lpi 3 0 rfl (by omega) υ (fun u9 => hM4.st) hR4 hf4 ls H locs (lv_sub hl [0, 1, 2, 3, 4, 5, 6, 7, 8, 9] rfl) hh
          refine lv_aload_n X.x X.b dX5_anew_47 rfl (lv_at hl 0 rfl) ?_
          refine f_get X hh (v := .ref (gad G 143)) (sh_134 G _) (by decide) rfl in_X5 11 (by decide) kf_X5_35 rfl dX5_anew_48 ?_
          refine lv_iconst (v := nI 0) X.x X.b dX5_anew_51 (by decide) ?_
          refine f_ialdx X hh (j := 0) (y := nI ((TT (inst a i j) 0 0).1)) (sh_143 G _) (by decide) rfl (by omega) (by decide) (hT1 0 0 (Nat.zero_le _) (Nat.zero_le _) trivial).1 dX5_anew_52 ?_
          refine lv_istore (lv' := [(4, .int (nI ((TT (inst a i j) 0 0).1))), (0, .ref (gad G 134)), (1, .int (nI i)), (2, .int (nI j)), (3, .int (nI k))]) X.x X.b dX5_anew_53 hl (by decide) rfl (fun ls hl => ?_)
          refine lv_bipush (v := (-6)) X.x X.b dX5_anew_55 (by decide) ?_
          refine lv_istore (lv' := [(5, .int ((-6))), (4, .int (nI ((TT (inst a i j) 0 0).1))), (0, .ref (gad G 134)), (1, .int (nI i)), (2, .int (nI j)), (3, .int (nI k))]) X.x X.b dX5_anew_57 hl (by decide) rfl (fun ls hl => ?_)
          refine lv_bipush (v := (-6)) X.x X.b dX5_anew_59 (by decide) ?_
          refine lv_istore (lv' := [(6, .int ((-6))), (5, .int ((-6))), (4, .int (nI ((TT (inst a i j) 0 0).1))), (0, .ref (gad G 134)), (1, .int (nI i)), (2, .int (nI j)), (3, .int (nI k))]) X.x X.b dX5_anew_61 hl (by decide) rfl (fun ls hl => ?_)
          refine lv_iconst (v := nI 0) X.x X.b dX5_anew_63 (by decide) ?_
          refine lv_istore (lv' := [(7, .int (nI 0)), (6, .int ((-6))), (5, .int ((-6))), (4, .int (nI ((TT (inst a i j) 0 0).1))), (0, .ref (gad G 134)), (1, .int (nI i)), (2, .int (nI j)), (3, .int (nI k))]) X.x X.b dX5_anew_64 hl (by decide) rfl (fun ls hl => ?_)
          refine lp (bN (aB a) i) 0 rfl (by omega) _ hM1 hR1 hf1 ls H locs ?_ hh
          rw [show anN a i j (3 * 0) = (-6, -6, nI (TT (inst a i j) 0 0).1) by rw [← e0]; rfl]
          exact lv_sub hl [0, 1, 2, 3, 4, 5, 6, 7] rfl
        · have c_7 : ((TT (inst a i j) 0 0).2.2.1) = 0 := (nI_eq (a := ((TT (inst a i j) 0 0).2.2.1)) (b := 0) (by omega) (by omega)).mp c_7
          refine lv_bipush (v := (-6)) X.x X.b dX5_anew_44 (by decide) ?_
          exact f_iret X hh ⟨by unfold sp_anew; rw [if_pos hkn, if_pos c_5, ei, ej]; unfold anN; rw [show lcN (inst a i j) = -6 from if_neg ((TT_L hI).mp c_7), anw_all (f := fun s v => lcN (instA a i j s v)) (fun s9 v9 => if_neg ((TT_L hI).mp c_7))]; exact (anr6 _).symm, hR1, hf1.m⟩ dX5_anew_46
      · rw [show (if inB v 0 2 then (1 : Int32) else 0) = 0 from if_neg c_5]
        refine lv_if_ne (tgt := 28) X.x X.b dX5_anew_22 (by decide) (fun h9 => absurd (show _ by decide) h9) (fun _ => ?_)
        refine lv_bipush (v := (-2)) X.x X.b dX5_anew_25 (by decide) ?_
        exact f_iret X hh ⟨by unfold sp_anew; rw [if_pos hkn, if_neg c_5], hR, FrM.rf⟩ dX5_anew_27
    · rw [show (if inB y 0 3 then (1 : Int32) else 0) = 0 from if_neg c_3]
      refine lv_if_ne (tgt := 16) X.x X.b dX5_anew_11 (by decide) (fun h9 => absurd (show _ by decide) h9) (fun _ => ?_)
      refine lv_iconst (v := (-1)) X.x X.b dX5_anew_14 (by decide) ?_
      exact f_iret X hh ⟨(if_neg (fun q9 : kno _ _ => c_3 q9.2)).symm, hR, FrM.rf⟩ dX5_anew_15
  · rw [show (if inB x 0 2 then (1 : Int32) else 0) = 0 from if_neg c_1]
    refine lv_if_eq (tgt := 14) X.x X.b dX5_anew_4 (by decide) (fun _ => ?_) (fun h9 => absurd (show _ by decide) h9)
    refine lv_iconst (v := (-1)) X.x X.b dX5_anew_14 (by decide) ?_
    exact f_iret X hh ⟨(if_neg (fun q9 : kno _ _ => c_1 q9.1)).symm, hR, FrM.rf⟩ dX5_anew_15
