set_option maxHeartbeats 4000000 in
set_option maxRecDepth 100000 in
theorem c4_cost (l : Launch) (G : GG) {σ : Mem} {a : AS} (x y : Int32) (hA : AOK a) (hR : RC σ a) : Ci l G yX4_cost cX4_cost 3 (some .int) 4 91 [.ref (gad G 81), .int x, .int y] σ (fun r τ => r = sp_cost x y a ∧ RC τ a ∧ FrC σ τ) := by
  refine Ci.of (own := RX4) (by decide) rfl (Nat.le_of_ble_eq_true rfl) (fun p e s m args below meth c ls H locs X hl hh => ?_)
  have hl : lv_has ls 3 [(0, .ref (gad G 81)), (1, .int x), (2, .int y)] := hl
  refine lv_iload_n X.x X.b dX4_cost_0 rfl (lv_at hl 1 rfl) ?_
  refine lv_iload_n X.x X.b dX4_cost_1 rfl (lv_at hl 2 rfl) ?_
  refine f_scalli X hh (c4_areKnown l G x y) mf_yX4_areKnown ks_yX4_areKnown km_X4_91 rfl hl.1 [] rfl (Nat.le_of_ble_eq_true rfl) ⟨by decide, by decide⟩ ⟨Nat.zero_le _, Nat.zero_le _⟩ dX4_cost_2 (fun r τ H locs hq hh => ?_)
  obtain ⟨rfl, hτ⟩ := hq
  rw [hτ] at hh
  clear hτ
  by_cases c_1 : kno x y
  · rw [show (if kno x y then (1 : Int32) else 0) = 1 from if_pos c_1]
    obtain ⟨i, ha_i, hb_i, rfl⟩ := inB_of c_1.1 (by decide)
    obtain ⟨j, ha_j, hb_j, rfl⟩ := inB_of c_1.2 (by decide)
    have hI := inst_ok hA (show i < 3 by omega) (show j < 4 by omega)
    have ei := ix_nI (show i < 2 ^ 31 by omega)
    have ej := ix_nI (show j < 2 ^ 31 by omega)
    refine lv_if_ne (tgt := 10) X.x X.b dX4_cost_5 (by decide) (fun _ => ?_) (fun h9 => absurd h9 (by decide))
    refine lv_aload_n X.x X.b dX4_cost_10 rfl (lv_at hl 0 rfl) ?_
    refine f_get X hh (v := .ref (gad G 83)) (sh_81 G _) (by decide) rfl in_X4 0 (by decide) kf_X4_12 rfl dX4_cost_11 ?_
    refine f_calli X hh (c_hasStepsOnly l G hR.1) mf_yX2_hasStepsOnly ki_yX2_hasStepsOnly kl_yX2_hasStepsOnly km_X4_95 (sh_83 G _) (by decide) rfl rfl hl.1 [] rfl (Nat.le_of_ble_eq_true rfl) ⟨by decide, by decide⟩ ⟨Nat.zero_le _, Nat.zero_le _⟩ dX4_cost_14 (fun r τ H locs hq hh => ?_)
    obtain ⟨rfl, hτ⟩ := hq
    rw [hτ] at hh
    clear hτ
    by_cases c_3 : ∀ i, i < apn a → isS (apg a i) = true
    · rw [show (if ∀ i, i < apn a → isS (apg a i) = true then (1 : Int32) else 0) = 1 from if_pos c_3]
      refine lv_if_ne (tgt := 23) X.x X.b dX4_cost_17 (by decide) (fun _ => ?_) (fun h9 => absurd h9 (by decide))
      refine lv_aload_n X.x X.b dX4_cost_23 rfl (lv_at hl 0 rfl) ?_
      refine f_get X hh (v := .ref (gad G 85)) (sh_81 G _) (by decide) rfl in_X4 3 (by decide) kf_X4_30 rfl dX4_cost_24 ?_
      refine lv_aload_n X.x X.b dX4_cost_27 rfl (lv_at hl 0 rfl) ?_
      refine f_get X hh (v := .ref (gad G 69)) (sh_81 G _) (by decide) rfl in_X4 1 (by decide) kf_X4_19 rfl dX4_cost_28 ?_
      refine lv_iload_n X.x X.b dX4_cost_31 rfl (lv_at hl 1 rfl) ?_
      refine lv_iload_n X.x X.b dX4_cost_32 rfl (lv_at hl 2 rfl) ?_
      refine f_callv X hh (c_take l G (i := i) (j := j) (by omega) (by omega) hR.2.1) mf_yX1_take ki_yX1_take kl_yX1_take km_X4_99 (sh_85 G _) (by decide) rfl rfl hl.1 [] rfl (Nat.le_of_ble_eq_true rfl) ⟨by decide, by decide⟩ ⟨Nat.zero_le _, Nat.zero_le _⟩ dX4_cost_33 (fun τ H locs hq hh => ?_)
      obtain ⟨hM1, hf1⟩ := hq
      have hR1 := hR.kt hf1.t
      refine lv_aload_n X.x X.b dX4_cost_36 rfl (lv_at hl 0 rfl) ?_
      refine f_get X hh (v := .ref (gad G 85)) (sh_81 G _) (by decide) rfl in_X4 3 (by decide) kf_X4_30 rfl dX4_cost_37 ?_
      refine lv_aload_n X.x X.b dX4_cost_40 rfl (lv_at hl 0 rfl) ?_
      refine f_get X hh (v := .ref (gad G 83)) (sh_81 G _) (by decide) rfl in_X4 0 (by decide) kf_X4_12 rfl dX4_cost_41 ?_
      refine f_calli X hh (c_costOf l G (I := inst a i j) hI hM1 hR1.1 c_3) mf_yX1_costOf ki_yX1_costOf kl_yX1_costOf km_X4_103 (sh_85 G _) (by decide) rfl rfl hl.1 [] rfl (Nat.le_of_ble_eq_true rfl) ⟨by decide, by decide⟩ ⟨Nat.zero_le _, Nat.zero_le _⟩ dX4_cost_44 (fun r τ H locs hq hh => ?_)
      obtain ⟨rfl, hτ⟩ := hq
      rw [hτ] at hh
      clear hτ
      exact f_iret X hh ⟨by unfold sp_cost; rw [if_pos c_1, if_pos c_3, ei, ej], hR1, hf1.t.c⟩ dX4_cost_47
    · rw [show (if ∀ i, i < apn a → isS (apg a i) = true then (1 : Int32) else 0) = 0 from if_neg c_3]
      refine lv_if_ne (tgt := 23) X.x X.b dX4_cost_17 (by decide) (fun h9 => absurd (show _ by decide) h9) (fun _ => ?_)
      refine lv_bipush (v := (-7)) X.x X.b dX4_cost_20 (by decide) ?_
      exact f_iret X hh ⟨by unfold sp_cost; rw [if_pos c_1, if_neg c_3], hR, FrC.rf⟩ dX4_cost_22
  · rw [show (if kno x y then (1 : Int32) else 0) = 0 from if_neg c_1]
    refine lv_if_ne (tgt := 10) X.x X.b dX4_cost_5 (by decide) (fun h9 => absurd (show _ by decide) h9) (fun _ => ?_)
    refine lv_iconst (v := (-1)) X.x X.b dX4_cost_8 (by decide) ?_
    exact f_iret X hh ⟨(if_neg c_1).symm, hR, FrC.rf⟩ dX4_cost_9
set_option maxHeartbeats 4000000 in
set_option maxRecDepth 100000 in
theorem c4_least (l : Launch) (G : GG) {σ : Mem} {a : AS} (x y v : Int32) (hA : AOK a) (hR : RC σ a) : Ci l G yX4_least cX4_least 4 (some .int) 5 117 [.ref (gad G 81), .int x, .int y, .int v] σ (fun r τ => r = sp_least x y v a ∧ RC τ a ∧ FrC σ τ) := by
  refine Ci.of (own := RX4) (by decide) rfl (Nat.le_of_ble_eq_true rfl) (fun p e s m args below meth c ls H locs X hl hh => ?_)
  have hl : lv_has ls 4 [(0, .ref (gad G 81)), (1, .int x), (2, .int y), (3, .int v)] := hl
  refine lv_iload_n X.x X.b dX4_least_0 rfl (lv_at hl 1 rfl) ?_
  refine lv_iload_n X.x X.b dX4_least_1 rfl (lv_at hl 2 rfl) ?_
  refine f_scalli X hh (c4_areKnown l G x y) mf_yX4_areKnown ks_yX4_areKnown km_X4_91 rfl hl.1 [] rfl (Nat.le_of_ble_eq_true rfl) ⟨by decide, by decide⟩ ⟨Nat.zero_le _, Nat.zero_le _⟩ dX4_least_2 (fun r τ H locs hq hh => ?_)
  obtain ⟨rfl, hτ⟩ := hq
  rw [hτ] at hh
  clear hτ
  by_cases c_1 : kno x y
  · rw [show (if kno x y then (1 : Int32) else 0) = 1 from if_pos c_1]
    obtain ⟨i, ha_i, hb_i, rfl⟩ := inB_of c_1.1 (by decide)
    obtain ⟨j, ha_j, hb_j, rfl⟩ := inB_of c_1.2 (by decide)
    have hI := inst_ok hA (show i < 3 by omega) (show j < 4 by omega)
    have ei := ix_nI (show i < 2 ^ 31 by omega)
    have ej := ix_nI (show j < 2 ^ 31 by omega)
    refine lv_if_ne (tgt := 10) X.x X.b dX4_least_5 (by decide) (fun _ => ?_) (fun h9 => absurd h9 (by decide))
    refine lv_iload_n X.x X.b dX4_least_10 rfl (lv_at hl 3 rfl) ?_
    refine lv_iconst (v := (-1)) X.x X.b dX4_least_11 (by decide) ?_
    refine lv_icmp_ge (tgt := 18) X.x X.b dX4_least_12 (by decide) (fun c_3 => ?_) (fun c_3 => ?_)
    · refine lv_aload_n X.x X.b dX4_least_18 rfl (lv_at hl 0 rfl) ?_
      refine f_get X hh (v := .ref (gad G 85)) (sh_81 G _) (by decide) rfl in_X4 3 (by decide) kf_X4_30 rfl dX4_least_19 ?_
      refine lv_aload_n X.x X.b dX4_least_22 rfl (lv_at hl 0 rfl) ?_
      refine f_get X hh (v := .ref (gad G 69)) (sh_81 G _) (by decide) rfl in_X4 1 (by decide) kf_X4_19 rfl dX4_least_23 ?_
      refine lv_iload_n X.x X.b dX4_least_26 rfl (lv_at hl 1 rfl) ?_
      refine lv_iload_n X.x X.b dX4_least_27 rfl (lv_at hl 2 rfl) ?_
      refine f_callv X hh (c_take l G (i := i) (j := j) (by omega) (by omega) hR.2.1) mf_yX1_take ki_yX1_take kl_yX1_take km_X4_99 (sh_85 G _) (by decide) rfl rfl hl.1 [] rfl (Nat.le_of_ble_eq_true rfl) ⟨by decide, by decide⟩ ⟨Nat.zero_le _, Nat.zero_le _⟩ dX4_least_28 (fun τ H locs hq hh => ?_)
      obtain ⟨hM1, hf1⟩ := hq
      have hR1 := hR.kt hf1.t
      refine lv_iload_n X.x X.b dX4_least_31 rfl (lv_at hl 3 rfl) ?_
      refine lv_iconst (v := (-1)) X.x X.b dX4_least_32 (by decide) ?_
      refine lv_icmp_ne (tgt := 46) X.x X.b dX4_least_33 (by decide) (fun c_4 => ?_) (fun c_4 => ?_)
      · obtain ⟨k, hk, rfl⟩ := ge0_of c_3 c_4
        refine lv_aload_n X.x X.b dX4_least_46 rfl (lv_at hl 0 rfl) ?_
        refine f_get X hh (v := .ref (gad G 85)) (sh_81 G _) (by decide) rfl in_X4 3 (by decide) kf_X4_30 rfl dX4_least_47 ?_
        refine lv_iload_n X.x X.b dX4_least_50 rfl (lv_at hl 3 rfl) ?_
        refine f_calli X hh (c_leastStep l G (I := inst a i j) hI hM1 hk) mf_yX1_leastStep ki_yX1_leastStep kl_yX1_leastStep km_X4_110 (sh_85 G _) (by decide) rfl rfl hl.1 [] rfl (Nat.le_of_ble_eq_true rfl) ⟨by decide, by decide⟩ ⟨Nat.zero_le _, Nat.zero_le _⟩ dX4_least_51 (fun r τ H locs hq hh => ?_)
        obtain ⟨rfl, hf2⟩ := hq
        exact f_iret X hh ⟨by unfold sp_least; rw [if_pos c_1, if_neg (Int32.not_lt.mpr c_3), if_neg c_4, ei, ej, ix_nI hk], hR1.kt hf2.t, (hf1.t.tr hf2.t).c⟩ dX4_least_54
      · refine lv_aload_n X.x X.b dX4_least_36 rfl (lv_at hl 0 rfl) ?_
        refine f_get X hh (v := .ref (gad G 85)) (sh_81 G _) (by decide) rfl in_X4 3 (by decide) kf_X4_30 rfl dX4_least_37 ?_
        refine f_calli X hh (c_leastCost l G (I := inst a i j) hI hM1) mf_yX1_leastCost ki_yX1_leastCost kl_yX1_leastCost km_X4_107 (sh_85 G _) (by decide) rfl rfl hl.1 [] rfl (Nat.le_of_ble_eq_true rfl) ⟨by decide, by decide⟩ ⟨Nat.zero_le _, Nat.zero_le _⟩ dX4_least_40 (fun r τ H locs hq hh => ?_)
        obtain ⟨rfl, hf2⟩ := hq
        have hR2 := hR1.kt hf2.t
        refine lv_goto (tgt := 54) X.x X.b dX4_least_43 (by decide) ?_
        exact f_iret X hh ⟨by unfold sp_least; rw [if_pos c_1, if_neg (Int32.not_lt.mpr c_3), if_pos c_4, ei, ej], hR2, (hf1.t.tr hf2.t).c⟩ dX4_least_54
    · refine lv_bipush (v := (-2)) X.x X.b dX4_least_15 (by decide) ?_
      exact f_iret X hh ⟨by unfold sp_least; rw [if_pos c_1, if_pos (Int32.not_le.mp c_3)], hR, FrC.rf⟩ dX4_least_17
  · rw [show (if kno x y then (1 : Int32) else 0) = 0 from if_neg c_1]
    refine lv_if_ne (tgt := 10) X.x X.b dX4_least_5 (by decide) (fun h9 => absurd (show _ by decide) h9) (fun _ => ?_)
    refine lv_iconst (v := (-1)) X.x X.b dX4_least_8 (by decide) ?_
    exact f_iret X hh ⟨(if_neg c_1).symm, hR, FrC.rf⟩ dX4_least_9
set_option maxHeartbeats 4000000 in
set_option maxRecDepth 100000 in
theorem c4_ways (l : Launch) (G : GG) {σ : Mem} {a : AS} (x y v : Int32) (hA : AOK a) (hR : RC σ a) : Ci l G yX4_ways cX4_ways 4 (some .int) 6 141 [.ref (gad G 81), .int x, .int y, .int v] σ (fun r τ => r = sp_ways x y v a ∧ RC τ a ∧ FrC σ τ) := by
  refine Ci.of (own := RX4) (by decide) rfl (Nat.le_of_ble_eq_true rfl) (fun p e s m args below meth c ls H locs X hl hh => ?_)
  have hl : lv_has ls 4 [(0, .ref (gad G 81)), (1, .int x), (2, .int y), (3, .int v)] := hl
  refine lv_iload_n X.x X.b dX4_ways_0 rfl (lv_at hl 1 rfl) ?_
  refine lv_iload_n X.x X.b dX4_ways_1 rfl (lv_at hl 2 rfl) ?_
  refine f_scalli X hh (c4_areKnown l G x y) mf_yX4_areKnown ks_yX4_areKnown km_X4_91 rfl hl.1 [] rfl (Nat.le_of_ble_eq_true rfl) ⟨by decide, by decide⟩ ⟨Nat.zero_le _, Nat.zero_le _⟩ dX4_ways_2 (fun r τ H locs hq hh => ?_)
  obtain ⟨rfl, hτ⟩ := hq
  rw [hτ] at hh
  clear hτ
  by_cases c_1 : kno x y
  · rw [show (if kno x y then (1 : Int32) else 0) = 1 from if_pos c_1]
    obtain ⟨i, ha_i, hb_i, rfl⟩ := inB_of c_1.1 (by decide)
    obtain ⟨j, ha_j, hb_j, rfl⟩ := inB_of c_1.2 (by decide)
    have hI := inst_ok hA (show i < 3 by omega) (show j < 4 by omega)
    have ei := ix_nI (show i < 2 ^ 31 by omega)
    have ej := ix_nI (show j < 2 ^ 31 by omega)
    refine lv_if_ne (tgt := 10) X.x X.b dX4_ways_5 (by decide) (fun _ => ?_) (fun h9 => absurd h9 (by decide))
    refine lv_iload_n X.x X.b dX4_ways_10 rfl (lv_at hl 3 rfl) ?_
    refine lv_iconst (v := nI 0) X.x X.b dX4_ways_11 (by decide) ?_
    refine lv_iconst (v := nI 2) X.x X.b dX4_ways_12 (by decide) ?_
    refine f_scalli X hh (c_withinB l G v 0 2 (by decide) (by decide)) mf_yX4_isWithin ks_yX4_isWithin km_X4_38 rfl hl.1 [] rfl (Nat.le_of_ble_eq_true rfl) ⟨by decide, by decide⟩ ⟨Nat.zero_le _, Nat.zero_le _⟩ dX4_ways_13 (fun r τ H locs hq hh => ?_)
    obtain ⟨rfl, hτ⟩ := hq
    rw [hτ] at hh
    clear hτ
    by_cases c_3 : inB v 0 2
    · rw [show (if inB v 0 2 then (1 : Int32) else 0) = 1 from if_pos c_3]
      obtain ⟨k, ha_k, hb_k, rfl⟩ := inB_of c_3 (by decide)
      refine lv_if_ne (tgt := 22) X.x X.b dX4_ways_16 (by decide) (fun _ => ?_) (fun h9 => absurd h9 (by decide))
      refine lv_aload_n X.x X.b dX4_ways_22 rfl (lv_at hl 0 rfl) ?_
      refine f_get X hh (v := .ref (gad G 85)) (sh_81 G _) (by decide) rfl in_X4 3 (by decide) kf_X4_30 rfl dX4_ways_23 ?_
      refine lv_aload_n X.x X.b dX4_ways_26 rfl (lv_at hl 0 rfl) ?_
      refine f_get X hh (v := .ref (gad G 69)) (sh_81 G _) (by decide) rfl in_X4 1 (by decide) kf_X4_19 rfl dX4_ways_27 ?_
      refine lv_iload_n X.x X.b dX4_ways_30 rfl (lv_at hl 1 rfl) ?_
      refine lv_iload_n X.x X.b dX4_ways_31 rfl (lv_at hl 2 rfl) ?_
      refine f_callv X hh (c_take l G (i := i) (j := j) (by omega) (by omega) hR.2.1) mf_yX1_take ki_yX1_take kl_yX1_take km_X4_99 (sh_85 G _) (by decide) rfl rfl hl.1 [] rfl (Nat.le_of_ble_eq_true rfl) ⟨by decide, by decide⟩ ⟨Nat.zero_le _, Nat.zero_le _⟩ dX4_ways_32 (fun τ H locs hq hh => ?_)
      obtain ⟨hM1, hf1⟩ := hq
      have hR1 := hR.kt hf1.t
      rcases (show k = 0 ∨ k = 1 ∨ k = 2 by omega) with rfl | rfl | rfl
      · refine lv_iload_n X.x X.b dX4_ways_35 rfl (lv_at hl 3 rfl) ?_
        refine lv_lookup (tgt := 64) (off := 28) X.x X.b dX4_ways_36 (by decide) (by decide +kernel) (by decide) ?_
        refine lv_aload_n X.x X.b dX4_ways_64 rfl (lv_at hl 0 rfl) ?_
        refine f_get X hh (v := .ref (gad G 85)) (sh_81 G _) (by decide) rfl in_X4 3 (by decide) kf_X4_30 rfl dX4_ways_65 ?_
        refine f_calli X hh (c_howManyLayings l G (I := inst a i j) hI hM1) mf_yX1_howManyLayings ki_yX1_howManyLayings kl_yX1_howManyLayings km_X4_114 (sh_85 G _) (by decide) rfl rfl hl.1 [] rfl (Nat.le_of_ble_eq_true rfl) ⟨by decide, by decide⟩ ⟨Nat.zero_le _, Nat.zero_le _⟩ dX4_ways_68 (fun r τ H locs hq hh => ?_)
        obtain ⟨rfl, hf2⟩ := hq
        exact f_iret X hh ⟨by show wy0 (inst a i j) = _; unfold sp_ways; rw [if_pos c_1, if_pos c_3, ei, ej, if_pos (by decide)], hR1.kt hf2.t, (hf1.t.tr hf2.t).c⟩ dX4_ways_71
      · refine lv_iload_n X.x X.b dX4_ways_35 rfl (lv_at hl 3 rfl) ?_
        refine lv_lookup (tgt := 72) (off := 36) X.x X.b dX4_ways_36 (by decide) (by decide +kernel) (by decide) ?_
        refine lv_aload_n X.x X.b dX4_ways_72 rfl (lv_at hl 0 rfl) ?_
        refine f_get X hh (v := .ref (gad G 85)) (sh_81 G _) (by decide) rfl in_X4 3 (by decide) kf_X4_30 rfl dX4_ways_73 ?_
        refine f_calli X hh (c_howManyLeast l G (I := inst a i j) hI hM1) mf_yX1_howManyLeast ki_yX1_howManyLeast kl_yX1_howManyLeast km_X4_117 (sh_85 G _) (by decide) rfl rfl hl.1 [] rfl (Nat.le_of_ble_eq_true rfl) ⟨by decide, by decide⟩ ⟨Nat.zero_le _, Nat.zero_le _⟩ dX4_ways_76 (fun r τ H locs hq hh => ?_)
        obtain ⟨rfl, hf2⟩ := hq
        exact f_iret X hh ⟨by show lw0 (inst a i j) = _; unfold sp_ways; rw [if_pos c_1, if_pos c_3, ei, ej, if_neg (by decide), if_pos (by decide)], hR1.kt hf2.t, (hf1.t.tr hf2.t).c⟩ dX4_ways_79
      · refine lv_iload_n X.x X.b dX4_ways_35 rfl (lv_at hl 3 rfl) ?_
        refine lv_lookup (tgt := 80) (off := 44) X.x X.b dX4_ways_36 (by decide) (by decide +kernel) (by decide) ?_
        refine lv_aload_n X.x X.b dX4_ways_80 rfl (lv_at hl 0 rfl) ?_
        refine f_get X hh (v := .ref (gad G 85)) (sh_81 G _) (by decide) rfl in_X4 3 (by decide) kf_X4_30 rfl dX4_ways_81 ?_
        refine f_calli X hh (c_greatestCost l G (I := inst a i j) hI hM1) mf_yX1_greatestCost ki_yX1_greatestCost kl_yX1_greatestCost km_X4_120 (sh_85 G _) (by decide) rfl rfl hl.1 [] rfl (Nat.le_of_ble_eq_true rfl) ⟨by decide, by decide⟩ ⟨Nat.zero_le _, Nat.zero_le _⟩ dX4_ways_84 (fun r τ H locs hq hh => ?_)
        obtain ⟨rfl, hf2⟩ := hq
        exact f_iret X hh ⟨by show mo0 (inst a i j) = _; unfold sp_ways; rw [if_pos c_1, if_pos c_3, ei, ej, if_neg (by decide), if_neg (by decide)], hR1.kt hf2.t, (hf1.t.tr hf2.t).c⟩ dX4_ways_87
    · rw [show (if inB v 0 2 then (1 : Int32) else 0) = 0 from if_neg c_3]
      refine lv_if_ne (tgt := 22) X.x X.b dX4_ways_16 (by decide) (fun h9 => absurd (show _ by decide) h9) (fun _ => ?_)
      refine lv_bipush (v := (-2)) X.x X.b dX4_ways_19 (by decide) ?_
      exact f_iret X hh ⟨by unfold sp_ways; rw [if_pos c_1, if_neg c_3], hR, FrC.rf⟩ dX4_ways_21
  · rw [show (if kno x y then (1 : Int32) else 0) = 0 from if_neg c_1]
    refine lv_if_ne (tgt := 10) X.x X.b dX4_ways_5 (by decide) (fun h9 => absurd (show _ by decide) h9) (fun _ => ?_)
    refine lv_iconst (v := (-1)) X.x X.b dX4_ways_8 (by decide) ?_
    exact f_iret X hh ⟨(if_neg c_1).symm, hR, FrC.rf⟩ dX4_ways_9
set_option maxHeartbeats 4000000 in
set_option maxRecDepth 100000 in
theorem c4_sung (l : Launch) (G : GG) {σ : Mem} {a : AS} (x y u v : Int32) (hA : AOK a) (hR : RC σ a) : Ci l G yX4_sung cX4_sung 5 (some .int) 6 139 [.ref (gad G 81), .int x, .int y, .int u, .int v] σ (fun r τ => r = sp_sung x y u v a ∧ RC τ a ∧ FrC σ τ) := by
  refine Ci.of (own := RX4) (by decide) rfl (Nat.le_of_ble_eq_true rfl) (fun p e s m args below meth c ls H locs X hl hh => ?_)
  have hl : lv_has ls 5 [(0, .ref (gad G 81)), (1, .int x), (2, .int y), (3, .int u), (4, .int v)] := hl
  refine lv_iload_n X.x X.b dX4_sung_0 rfl (lv_at hl 1 rfl) ?_
  refine lv_iload_n X.x X.b dX4_sung_1 rfl (lv_at hl 2 rfl) ?_
  refine f_scalli X hh (c4_areKnown l G x y) mf_yX4_areKnown ks_yX4_areKnown km_X4_91 rfl hl.1 [] rfl (Nat.le_of_ble_eq_true rfl) ⟨by decide, by decide⟩ ⟨Nat.zero_le _, Nat.zero_le _⟩ dX4_sung_2 (fun r τ H locs hq hh => ?_)
  obtain ⟨rfl, hτ⟩ := hq
  rw [hτ] at hh
  clear hτ
  by_cases c_1 : kno x y
  · rw [show (if kno x y then (1 : Int32) else 0) = 1 from if_pos c_1]
    obtain ⟨i, ha_i, hb_i, rfl⟩ := inB_of c_1.1 (by decide)
    obtain ⟨j, ha_j, hb_j, rfl⟩ := inB_of c_1.2 (by decide)
    have hI := inst_ok hA (show i < 3 by omega) (show j < 4 by omega)
    have ei := ix_nI (show i < 2 ^ 31 by omega)
    have ej := ix_nI (show j < 2 ^ 31 by omega)
    refine lv_if_ne (tgt := 10) X.x X.b dX4_sung_5 (by decide) (fun _ => ?_) (fun h9 => absurd h9 (by decide))
    refine lv_iload_n X.x X.b dX4_sung_10 rfl (lv_at hl 3 rfl) ?_
    refine lv_iconst (v := nI 0) X.x X.b dX4_sung_11 (by decide) ?_
    refine lv_aload_n X.x X.b dX4_sung_12 rfl (lv_at hl 0 rfl) ?_
    refine f_get X hh (v := .ref (gad G 69)) (sh_81 G _) (by decide) rfl in_X4 1 (by decide) kf_X4_19 rfl dX4_sung_13 ?_
    refine f_get X hh (v := .ref (gad G 71)) (sh_69 G _) (by decide) rfl in_X0 1 (by decide) kf_X4_77 rfl dX4_sung_16 ?_
    refine lv_iload_n X.x X.b dX4_sung_19 rfl (lv_at hl 2 rfl) ?_
    refine f_aald X hh (j := j) 2 (sh_71 G _) rfl rfl (by decide) rfl (by omega) (by decide) dX4_sung_20 ?_
    refine f_geti X hh (x := nI (bN (aB a) (3 + j))) (sh_row G (r := 7 * 0 + (3 + j)) (by omega) _) (by omega) rfl in_X3 3 (by decide) kf_X4_71 rfl (hR.2.1.1 _ (by omega)).1 dX4_sung_21 ?_
    refine lv_iconst (v := nI 1) X.x X.b dX4_sung_24 (by decide) ?_
    refine f_isub X (z := nI (bN (aB a) (3 + j)) - nI 1) rfl dX4_sung_25 ?_
    have hm9 : bN (aB a) (3 + j) ≤ 11 := hI.2.1
    refine f_scalli X hh (c_withinR l G u (n := bN (aB a) (3 + j)) (by omega)) mf_yX4_isWithin ks_yX4_isWithin km_X4_38 rfl hl.1 [] rfl (Nat.le_of_ble_eq_true rfl) ⟨by decide, by decide⟩ ⟨Nat.zero_le _, Nat.zero_le _⟩ dX4_sung_26 (fun r τ H locs hq hh => ?_)
    obtain ⟨rfl, hτ⟩ := hq
    rw [hτ] at hh
    clear hτ
    by_cases c_3 : inR u (bN (aB a) (3 + j))
    · rw [show (if inR u (bN (aB a) (3 + j)) then (1 : Int32) else 0) = 1 from if_pos c_3]
      obtain ⟨q, hq0, rfl⟩ := inR_of c_3 (by omega)
      refine lv_if_eq (tgt := 42) X.x X.b dX4_sung_29 (by decide) (fun h9 => absurd h9 (by decide)) (fun _ => ?_)
      refine lv_iload X.x X.b dX4_sung_32 (lv_at hl 4 rfl) ?_
      refine lv_iconst (v := nI 0) X.x X.b dX4_sung_34 (by decide) ?_
      refine lv_iconst (v := nI 1) X.x X.b dX4_sung_35 (by decide) ?_
      refine f_scalli X hh (c_withinB l G v 0 1 (by decide) (by decide)) mf_yX4_isWithin ks_yX4_isWithin km_X4_38 rfl hl.1 [] rfl (Nat.le_of_ble_eq_true rfl) ⟨by decide, by decide⟩ ⟨Nat.zero_le _, Nat.zero_le _⟩ dX4_sung_36 (fun r τ H locs hq hh => ?_)
      obtain ⟨rfl, hτ⟩ := hq
      rw [hτ] at hh
      clear hτ
      by_cases c_5 : inB v 0 1
      · rw [show (if inB v 0 1 then (1 : Int32) else 0) = 1 from if_pos c_5]
        obtain ⟨k, ha_k, hb_k, rfl⟩ := inB_of c_5 (by decide)
        refine lv_if_ne (tgt := 45) X.x X.b dX4_sung_39 (by decide) (fun _ => ?_) (fun h9 => absurd h9 (by decide))
        refine lv_aload_n X.x X.b dX4_sung_45 rfl (lv_at hl 0 rfl) ?_
        refine f_get X hh (v := .ref (gad G 85)) (sh_81 G _) (by decide) rfl in_X4 3 (by decide) kf_X4_30 rfl dX4_sung_46 ?_
        refine lv_aload_n X.x X.b dX4_sung_49 rfl (lv_at hl 0 rfl) ?_
        refine f_get X hh (v := .ref (gad G 69)) (sh_81 G _) (by decide) rfl in_X4 1 (by decide) kf_X4_19 rfl dX4_sung_50 ?_
        refine lv_iload_n X.x X.b dX4_sung_53 rfl (lv_at hl 1 rfl) ?_
        refine lv_iload_n X.x X.b dX4_sung_54 rfl (lv_at hl 2 rfl) ?_
        refine f_callv X hh (c_take l G (i := i) (j := j) (by omega) (by omega) hR.2.1) mf_yX1_take ki_yX1_take kl_yX1_take km_X4_99 (sh_85 G _) (by decide) rfl rfl hl.1 [] rfl (Nat.le_of_ble_eq_true rfl) ⟨by decide, by decide⟩ ⟨Nat.zero_le _, Nat.zero_le _⟩ dX4_sung_55 (fun τ H locs hq hh => ?_)
        obtain ⟨hM1, hf1⟩ := hq
        have hR1 := hR.kt hf1.t
        refine lv_iload X.x X.b dX4_sung_58 (lv_at hl 4 rfl) ?_
        refine lv_if_ne (tgt := 74) X.x X.b dX4_sung_60 (by decide) (fun c_7 => ?_) (fun c_7 => ?_)
        · have c_7 : ¬ k = 0 := fun q9 => c_7 ((nI_eq (a := k) (b := 0) (by omega) (by omega)).mpr q9)
          refine lv_aload_n X.x X.b dX4_sung_74 rfl (lv_at hl 0 rfl) ?_
          refine f_get X hh (v := .ref (gad G 85)) (sh_81 G _) (by decide) rfl in_X4 3 (by decide) kf_X4_30 rfl dX4_sung_75 ?_
          refine lv_iload_n X.x X.b dX4_sung_78 rfl (lv_at hl 3 rfl) ?_
          refine f_calli X hh (c_howManySungOn l G (I := inst a i j) hI hM1 hq0) mf_yX1_howManySungOn ki_yX1_howManySungOn kl_yX1_howManySungOn km_X4_126 (sh_85 G _) (by decide) rfl rfl hl.1 [] rfl (Nat.le_of_ble_eq_true rfl) ⟨by decide, by decide⟩ ⟨Nat.zero_le _, Nat.zero_le _⟩ dX4_sung_79 (fun r τ H locs hq hh => ?_)
          obtain ⟨rfl, hf2⟩ := hq
          exact f_iret X hh ⟨by show ho0 (inst a i j) q = _; unfold sp_sung; rw [if_pos c_1, ej, if_pos ⟨c_3, c_5⟩, ei, ix_nI (show q < 2 ^ 31 by omega), if_neg (fun q9 => c_7 ((nI_z (by omega)).mp q9))], hR1.kt hf2.t, (hf1.t.tr hf2.t).c⟩ dX4_sung_82
        · have c_7 : k = 0 := (nI_eq (a := k) (b := 0) (by omega) (by omega)).mp c_7
          refine lv_aload_n X.x X.b dX4_sung_63 rfl (lv_at hl 0 rfl) ?_
          refine f_get X hh (v := .ref (gad G 85)) (sh_81 G _) (by decide) rfl in_X4 3 (by decide) kf_X4_30 rfl dX4_sung_64 ?_
          refine lv_iload_n X.x X.b dX4_sung_67 rfl (lv_at hl 3 rfl) ?_
          refine f_calli X hh (c_firstSungOn l G (I := inst a i j) hI hM1 hq0) mf_yX1_firstSungOn ki_yX1_firstSungOn kl_yX1_firstSungOn km_X4_123 (sh_85 G _) (by decide) rfl rfl hl.1 [] rfl (Nat.le_of_ble_eq_true rfl) ⟨by decide, by decide⟩ ⟨Nat.zero_le _, Nat.zero_le _⟩ dX4_sung_68 (fun r τ H locs hq hh => ?_)
          obtain ⟨rfl, hf2⟩ := hq
          refine lv_goto (tgt := 82) X.x X.b dX4_sung_71 (by decide) ?_
          exact f_iret X hh ⟨by show fo0 (inst a i j) q = _; unfold sp_sung; rw [if_pos c_1, ej, if_pos ⟨c_3, c_5⟩, ei, ix_nI (show q < 2 ^ 31 by omega), if_pos ((nI_z (by omega)).mpr c_7)], hR1.kt hf2.t, (hf1.t.tr hf2.t).c⟩ dX4_sung_82
      · rw [show (if inB v 0 1 then (1 : Int32) else 0) = 0 from if_neg c_5]
        refine lv_if_ne (tgt := 45) X.x X.b dX4_sung_39 (by decide) (fun h9 => absurd (show _ by decide) h9) (fun _ => ?_)
        refine lv_bipush (v := (-2)) X.x X.b dX4_sung_42 (by decide) ?_
        exact f_iret X hh ⟨by unfold sp_sung; rw [if_pos c_1, ej, if_neg (fun q9 => c_5 q9.2)], hR, FrC.rf⟩ dX4_sung_44
    · rw [show (if inR u (bN (aB a) (3 + j)) then (1 : Int32) else 0) = 0 from if_neg c_3]
      refine lv_if_eq (tgt := 42) X.x X.b dX4_sung_29 (by decide) (fun _ => ?_) (fun h9 => absurd (show _ by decide) h9)
      refine lv_bipush (v := (-2)) X.x X.b dX4_sung_42 (by decide) ?_
      exact f_iret X hh ⟨by unfold sp_sung; rw [if_pos c_1, ej, if_neg (fun q9 => c_3 q9.1)], hR, FrC.rf⟩ dX4_sung_44
  · rw [show (if kno x y then (1 : Int32) else 0) = 0 from if_neg c_1]
    refine lv_if_ne (tgt := 10) X.x X.b dX4_sung_5 (by decide) (fun h9 => absurd (show _ by decide) h9) (fun _ => ?_)
    refine lv_iconst (v := (-1)) X.x X.b dX4_sung_8 (by decide) ?_
    exact f_iret X hh ⟨(if_neg c_1).symm, hR, FrC.rf⟩ dX4_sung_9
set_option maxHeartbeats 4000000 in
set_option maxRecDepth 100000 in
theorem c4_verseOf (l : Launch) (G : GG) {σ : Mem} {a : AS} {j : Nat} (hA : AOK a) (hR : RC σ a) (hj : j < 4) : Ci l G yX4_verseOf cX4_verseOf 4 (some .int) 5 116 [.ref (gad G 81), .int (nI j)] σ (fun r τ => r = vsN a j ∧ RC τ a ∧ FrT σ τ) := by
  refine Ci.of (own := RX4) (by decide) rfl (Nat.le_of_ble_eq_true rfl) (fun p e s m args below meth c ls H locs X hl hh => ?_)
  have hm9 : bN (aB a) (3 + j) ≤ 11 := (hA.2.2.1.2.1 (3 + j) (by omega) (by omega)).1
  have hq0 := (hA.2.2.1.1 0 (by decide)).1
  have hq1 := (hA.2.2.1.1 1 (by decide)).1
  have hq2 := (hA.2.2.1.1 2 (by decide)).1
  have hsu : sumN (fun j => bN (aB a) j) 3 ≤ 27 := by show 0 + bN (aB a) 0 + bN (aB a) 1 + bN (aB a) 2 ≤ 27; omega
  have hl : lv_has ls 4 [(0, .ref (gad G 81)), (1, .int (nI j))] := hl
  refine lv_aload_n X.x X.b dX4_verseOf_0 rfl (lv_at hl 0 rfl) ?_
  refine f_get X hh (v := .ref (gad G 69)) (sh_81 G _) (by decide) rfl in_X4 1 (by decide) kf_X4_19 rfl dX4_verseOf_1 ?_
  refine f_get X hh (v := .ref (gad G 71)) (sh_69 G _) (by decide) rfl in_X0 1 (by decide) kf_X4_77 rfl dX4_verseOf_4 ?_
  refine lv_iload_n X.x X.b dX4_verseOf_7 rfl (lv_at hl 1 rfl) ?_
  refine f_aald X hh (j := j) 2 (sh_71 G _) rfl rfl (by decide) rfl (by omega) (by decide) dX4_verseOf_8 ?_
  refine f_geti X hh (x := nI (bN (aB a) (3 + j))) (sh_row G (r := 7 * 0 + (3 + j)) (by omega) _) (by omega) rfl in_X3 3 (by decide) kf_X4_71 rfl (hR.2.1.1 _ (by omega)).1 dX4_verseOf_9 ?_
  refine lv_if_eq (tgt := 25) X.x X.b dX4_verseOf_12 (by decide) (fun c_1 => ?_) (fun c_1 => ?_)
  · have c_1 : (bN (aB a) (3 + j)) = 0 := (nI_eq (a := (bN (aB a) (3 + j))) (b := 0) (by omega) (by omega)).mp c_1
    refine lv_bipush (v := (-6)) X.x X.b dX4_verseOf_25 (by decide) ?_
    exact f_iret X hh ⟨(if_pos (Or.inl c_1)).symm, hR, FrT.rf⟩ dX4_verseOf_27
  · have c_1 : ¬ (bN (aB a) (3 + j)) = 0 := fun q9 => c_1 ((nI_eq (a := (bN (aB a) (3 + j))) (b := 0) (by omega) (by omega)).mpr q9)
    refine lv_aload_n X.x X.b dX4_verseOf_15 rfl (lv_at hl 0 rfl) ?_
    refine f_get X hh (v := .ref (gad G 69)) (sh_81 G _) (by decide) rfl in_X4 1 (by decide) kf_X4_19 rfl dX4_verseOf_16 ?_
    refine f_calli X hh (c_syllablesInAll l G (b := 0) (by decide) hR.2.1) mf_yX0_syllablesInAll ki_yX0_syllablesInAll kl_yX0_syllablesInAll km_X4_147 (sh_69 G _) (by decide) rfl rfl hl.1 [] rfl (Nat.le_of_ble_eq_true rfl) ⟨by decide, by decide⟩ ⟨Nat.zero_le _, Nat.zero_le _⟩ dX4_verseOf_19 (fun r τ H locs hq hh => ?_)
    obtain ⟨rfl, hτ⟩ := hq
    rw [hτ] at hh
    clear hτ
    refine lv_if_ne (tgt := 28) X.x X.b dX4_verseOf_22 (by decide) (fun c_2 => ?_) (fun c_2 => ?_)
    · have c_2 : ¬ (sumN (fun j => bN (aB a) j) 3) = 0 := fun q9 => c_2 ((nI_eq (a := (sumN (fun j => bN (aB a) j) 3)) (b := 0) (by omega) (by omega)).mpr q9)
      have hnz : ¬ (bN (aB a) (3 + j) = 0 ∨ sumN (fun i => bN (aB a) i) 3 = 0) := fun q9 => q9.elim c_1 c_2
      have lp : ∀ (k i : Nat), 3 - i = k → i ≤ 3 → ∀ (υ : Mem), RC υ a → FrT σ υ → ∀ (ls : Array Slot) (H : Heap) (locs : List Loc), lv_has ls 4 [(3, .int (nI i)), (2, .int (nI (vsum a j i))), (0, .ref (gad G 81)), (1, .int (nI j))] → HH G s υ H locs → WI l G p e s m args below meth c 5 116 (fun r τ => r = vsN a j ∧ RC τ a ∧ FrT σ τ) H locs (F0 m 32 ls []) := by
        intro km
        induction km using Nat.strongRecOn with
        | ind km ih =>
          intro i hk hi υ hR0 hf0 ls H locs hl hh
          have hnn := fun h9 : i < 3 => (hA.2.2.1.1 i h9).1
          refine lv_iload_n X.x X.b dX4_verseOf_32 rfl (lv_at hl 0 rfl) ?_
          refine lv_iconst (v := nI 3) X.x X.b dX4_verseOf_33 (by decide) ?_
          refine lv_icmp_ge (tgt := 81) X.x X.b dX4_verseOf_34 (by decide) (fun c_3 => ?_) (fun c_3 => ?_)
          · have c_3 : 3 ≤ i := (nI_leI (a := 3) (b := i) (by omega) (by omega)).mp c_3
            refine lv_iload_n X.x X.b dX4_verseOf_81 rfl (lv_at hl 1 rfl) ?_
            exact f_iret X hh ⟨by unfold vsN; obtain rfl : i = 3 := (by omega); rw [if_neg hnz], hR0, hf0⟩ dX4_verseOf_82
          · have c_3 : ¬ 3 ≤ i := fun q9 => c_3 ((nI_leI (a := 3) (b := i) (by omega) (by omega)).mpr q9)
            refine lv_aload_n X.x X.b dX4_verseOf_37 rfl (lv_at hl 2 rfl) ?_
            refine f_get X hh (v := .ref (gad G 69)) (sh_81 G _) (by decide) rfl in_X4 1 (by decide) kf_X4_19 rfl dX4_verseOf_38 ?_
            refine f_get X hh (v := .ref (gad G 70)) (sh_69 G _) (by decide) rfl in_X0 0 (by decide) kf_X4_63 rfl dX4_verseOf_41 ?_
            refine lv_iload_n X.x X.b dX4_verseOf_44 rfl (lv_at hl 0 rfl) ?_
            refine f_aald X hh (j := i) 2 (sh_70 G _) rfl rfl (by decide) rfl (by omega) (by decide) dX4_verseOf_45 ?_
            refine f_geti X hh (x := nI (bN (aB a) i)) (sh_row G (r := 7 * 0 + i) (by omega) _) (by omega) rfl in_X3 3 (by decide) kf_X4_71 rfl (hR0.2.1.1 _ (by omega)).1 dX4_verseOf_46 ?_
            refine lv_if_le (tgt := 75) X.x X.b dX4_verseOf_49 (by decide) (fun c_4 => ?_) (fun c_4 => ?_)
            · have c_4 : (bN (aB a) i) ≤ 0 := (nI_leI (a := (bN (aB a) i)) (b := 0) (by omega) (by omega)).mp c_4
              refine lv_iinc (v := nI (i + 1)) (lv' := [(3, .int (nI (i + 1))), (2, .int (nI (vsum a j i))), (0, .ref (gad G 81)), (1, .int (nI j))]) X.x X.b dX4_verseOf_75 hl (k := 0) rfl (nI_1 i) (by decide) rfl (fun ls hl => ?_)
              refine lv_goto (tgt := 32) X.x X.b dX4_verseOf_78 (by decide) ?_
              refine ih (3 - (i + 1)) (by omega) (i + 1) rfl (by omega) _ hR0 hf0 ls H locs ?_ hh
              rw [show vsum a j (i + 1) = vsum a j i by show _ + (if _ then _ else _) = _; rw [if_pos (by omega)]; rfl]
              exact lv_sub hl [0, 1, 2, 3] rfl
            · have c_4 : ¬ (bN (aB a) i) ≤ 0 := fun q9 => c_4 ((nI_leI (a := (bN (aB a) i)) (b := 0) (by omega) (by omega)).mpr q9)
              refine lv_aload_n X.x X.b dX4_verseOf_52 rfl (lv_at hl 2 rfl) ?_
              refine f_get X hh (v := .ref (gad G 85)) (sh_81 G _) (by decide) rfl in_X4 3 (by decide) kf_X4_30 rfl dX4_verseOf_53 ?_
              refine lv_aload_n X.x X.b dX4_verseOf_56 rfl (lv_at hl 2 rfl) ?_
              refine f_get X hh (v := .ref (gad G 69)) (sh_81 G _) (by decide) rfl in_X4 1 (by decide) kf_X4_19 rfl dX4_verseOf_57 ?_
              refine lv_iload_n X.x X.b dX4_verseOf_60 rfl (lv_at hl 0 rfl) ?_
              refine lv_iload_n X.x X.b dX4_verseOf_61 rfl (lv_at hl 3 rfl) ?_
              have hI := inst_ok hA (show i < 3 by omega) hj
              refine f_callv X hh (c_take l G (i := i) (j := j) (by omega) hj hR0.2.1) mf_yX1_take ki_yX1_take kl_yX1_take km_X4_99 (sh_85 G _) (by decide) rfl rfl hl.1 [] rfl (Nat.le_of_ble_eq_true rfl) ⟨by decide, by decide⟩ ⟨Nat.zero_le _, Nat.zero_le _⟩ dX4_verseOf_62 (fun τ H locs hq hh => ?_)
              obtain ⟨hM1, hf1⟩ := hq
              have hR1 := hR0.kt hf1.t
              refine lv_iload_n X.x X.b dX4_verseOf_65 rfl (lv_at hl 1 rfl) ?_
              refine lv_aload_n X.x X.b dX4_verseOf_66 rfl (lv_at hl 2 rfl) ?_
              refine f_get X hh (v := .ref (gad G 85)) (sh_81 G _) (by decide) rfl in_X4 3 (by decide) kf_X4_30 rfl dX4_verseOf_67 ?_
              refine f_calli X hh (c_leastCost l G (I := inst a i j) hI hM1) mf_yX1_leastCost ki_yX1_leastCost kl_yX1_leastCost km_X4_107 (sh_85 G _) (by decide) rfl rfl hl.1 [.int (nI (vsum a j i))] rfl (Nat.le_of_ble_eq_true rfl) ⟨by decide, by decide⟩ ⟨Nat.zero_le _, Nat.zero_le _⟩ dX4_verseOf_70 (fun r τ H locs hq hh => ?_)
              obtain ⟨rfl, hf2⟩ := hq
              have hR2 := hR1.kt hf2.t
              rw [show lcN (inst a i j) = nI (TT (inst a i j) 0 0).1 from if_pos ⟨fun q9 => absurd q9 (by show ¬ bN (aB a) i = 0; omega), fun q9 => absurd q9 (by show ¬ bN (aB a) (3 + j) = 0; omega)⟩]
              refine f_iadd X (z := nI (vsum a j i + (TT (inst a i j) 0 0).1)) (nI_add (vsum a j i) ((TT (inst a i j) 0 0).1)) dX4_verseOf_73 ?_
              refine lv_istore_n (lv' := [(2, .int (nI (vsum a j i + (TT (inst a i j) 0 0).1))), (3, .int (nI i)), (0, .ref (gad G 81)), (1, .int (nI j))]) X.x X.b dX4_verseOf_74 rfl hl (by decide) rfl (fun ls hl => ?_)
              refine lv_iinc (v := nI (i + 1)) (lv' := [(3, .int (nI (i + 1))), (2, .int (nI (vsum a j i + (TT (inst a i j) 0 0).1))), (0, .ref (gad G 81)), (1, .int (nI j))]) X.x X.b dX4_verseOf_75 hl (k := 1) rfl (nI_1 i) (by decide) rfl (fun ls hl => ?_)
              refine lv_goto (tgt := 32) X.x X.b dX4_verseOf_78 (by decide) ?_
              refine ih (3 - (i + 1)) (by omega) (i + 1) rfl (by omega) _ hR2 ((hf0.tr hf1.t).tr hf2.t) ls H locs ?_ hh
              rw [show vsum a j (i + 1) = vsum a j i + (TT (inst a i j) 0 0).1 by show _ + (if _ then _ else _) = _; rw [if_neg (by omega)]; rfl]
              exact lv_sub hl [0, 1, 2, 3] rfl
      refine lv_iconst (v := nI 0) X.x X.b dX4_verseOf_28 (by decide) ?_
      refine lv_istore_n (lv' := [(2, .int (nI 0)), (0, .ref (gad G 81)), (1, .int (nI j))]) X.x X.b dX4_verseOf_29 rfl hl (by decide) rfl (fun ls hl => ?_)
      refine lv_iconst (v := nI 0) X.x X.b dX4_verseOf_30 (by decide) ?_
      refine lv_istore_n (lv' := [(3, .int (nI 0)), (2, .int (nI 0)), (0, .ref (gad G 81)), (1, .int (nI j))]) X.x X.b dX4_verseOf_31 rfl hl (by decide) rfl (fun ls hl => ?_)
      exact lp 3 0 rfl (by omega) σ hR FrT.rf ls H locs (lv_sub hl [0, 1, 2, 3] rfl) hh
    · have c_2 : (sumN (fun j => bN (aB a) j) 3) = 0 := (nI_eq (a := (sumN (fun j => bN (aB a) j) 3)) (b := 0) (by omega) (by omega)).mp c_2
      refine lv_bipush (v := (-6)) X.x X.b dX4_verseOf_25 (by decide) ?_
      exact f_iret X hh ⟨(if_pos (Or.inr c_2)).symm, hR, FrT.rf⟩ dX4_verseOf_27
