/-! the class's public methods -/
theorem RC.pad {σ τ : Mem} {a : AS} {n : Nat} {g : Nat → Nat} (h : RC σ a) (hp : PD τ n g) (hk : ∀ k, k ≠ 83 → k ≠ 84 → τ k = σ k) : RC τ ((n, g), a.2) := by
  obtain ⟨h1, h2, h3, h4⟩ := h
  refine ⟨hp, h2.kk (fun k h9 => hk k (by omega) (by omega)), fun k h9 h8 => (h3 k h9 h8).kk (fun q hq => hk q (by omega) (by omega)), ?_⟩
  rw [hk _ (by omega) (by omega)]; exact h4
theorem BK.set {σ τ : Mem} {b q n : Nat} {N : Nat → Nat} {W Z : Nat → Nat → Nat} {U : Nat → Nat} {w z : Nat → Nat} (h : BK σ b N W Z U) (hb : b < 3) (hq : q < 7) (hr : RW τ (7 * b + q) n w z) (hf : Frr (7 * b + q) σ τ) : BK τ b (fun k => if k = q then n else N k) (fun k => if k = q then w else W k) (fun k => if k = q then z else Z k) U := by
  refine ⟨fun k hk => ?_, fun k hk => ?_⟩
  · by_cases e : k = q
    · subst e; simp only [if_pos]; exact hr
    · simp only [if_neg e]; exact (h.1 k hk).keep hf (by omega)
  · rw [hf _ (by omega)]; exact h.2 k hk
theorem RC.row {σ τ : Mem} {a : AS} {q n : Nat} {w z : Nat → Nat} (h : RC σ a) (hq : q < 7) (hr : RW τ (7 * 0 + q) n w z) (hf : Frr (7 * 0 + q) σ τ) : RC τ (a.1, bset (aB a) q n w z, a.2.2) := by
  obtain ⟨h1, h2, h3, h4⟩ := h
  refine ⟨h1.keep (hf _ (by omega)) (hf _ (by omega)), h2.set (by decide) hq hr hf, fun k h9 h8 => (h3 k h9 h8).kk (fun x hx => hf x (by omega)), ?_⟩
  rw [hf _ (by omega)]; exact h4
theorem lans_ok {g : Nat → Nat} {n : Nat} (hn : n ≤ 22) (h : lans g n = -6) : ∀ j, j < n → okL g j = true := by
  unfold lans at h
  cases hf : ffst (okL g) n with
  | none => exact ffst_all hf
  | some k => rw [hf] at h; have := ffst_lt hf; exact absurd h (nI_m6 (by omega))
theorem tans_ok {g : Nat → Nat} {n : Nat} (hn : n ≤ 22) (h : tans g n = -6) : (∀ j, j < n → okT g j = true) ∧ n % 2 = 0 := by
  unfold tans at h
  cases hf : ffst (okT g) n with
  | none =>
    rw [hf] at h
    refine ⟨ffst_all hf, ?_⟩
    by_cases e : n % 2 = 0
    · exact e
    · simp only [if_neg e] at h; exact absurd h (nI_m6 (by omega))
  | some k => rw [hf] at h; have := ffst_lt hf; exact absurd h (nI_m6 (by omega))
theorem ge0_of {x : Int32} (h1 : -1 ≤ x) (h2 : ¬ x = -1) : ∃ k, k < 2 ^ 31 ∧ x = nI k := by
  refine nI_of (fun h => h2 ?_)
  rw [Int32.lt_iff_toInt_lt] at h
  rw [Int32.le_iff_toInt_le] at h1
  have e1 : (-1 : Int32).toInt = -1 := by decide
  have e0 : (0 : Int32).toInt = 0 := by decide
  apply Int32.toInt_inj.mp
  omega
theorem nI_z {k : Nat} (h : k < 2 ^ 31) : nI k = 0 ↔ k = 0 := nI_eq (b := 0) h (by decide)
set_option maxHeartbeats 4000000 in
set_option maxRecDepth 100000 in
theorem c4_isLine (l : Launch) (G : GG) {σ : Mem}  (x : Int32) : Ci l G yX4_isLine cX4_isLine 1 (some .boolean) 1 22 [.int x] σ (fun r τ => r = (if inB x 0 2 then 1 else 0) ∧ τ = σ) := by
  refine Ci.of (own := RX4) (by decide) rfl (Nat.le_of_ble_eq_true rfl) (fun p e s m args below meth c ls H locs X hl hh => ?_)
  have hl : lv_has ls 1 [(0, .int x)] := hl
  refine lv_iload_n X.x X.b dX4_isLine_0 rfl (lv_at hl 0 rfl) ?_
  refine lv_iconst (v := nI 0) X.x X.b dX4_isLine_1 (by decide) ?_
  refine lv_iconst (v := nI 2) X.x X.b dX4_isLine_2 (by decide) ?_
  refine f_scalli X hh (c_withinB l G x 0 2 (by decide) (by decide)) mf_yX4_isWithin ks_yX4_isWithin km_X4_38 rfl hl.1 [] rfl (Nat.le_of_ble_eq_true rfl) ⟨by decide, by decide⟩ ⟨Nat.zero_le _, Nat.zero_le _⟩ dX4_isLine_3 (fun r τ H locs hq hh => ?_)
  obtain ⟨rfl, hτ⟩ := hq
  rw [hτ] at hh
  clear hτ
  exact f_zret X hh (by split <;> rfl) ⟨rfl, rfl⟩ dX4_isLine_6
set_option maxHeartbeats 4000000 in
set_option maxRecDepth 100000 in
theorem c4_isTune (l : Launch) (G : GG) {σ : Mem}  (x : Int32) : Ci l G yX4_isTune cX4_isTune 1 (some .boolean) 1 22 [.int x] σ (fun r τ => r = (if inB x 0 3 then 1 else 0) ∧ τ = σ) := by
  refine Ci.of (own := RX4) (by decide) rfl (Nat.le_of_ble_eq_true rfl) (fun p e s m args below meth c ls H locs X hl hh => ?_)
  have hl : lv_has ls 1 [(0, .int x)] := hl
  refine lv_iload_n X.x X.b dX4_isTune_0 rfl (lv_at hl 0 rfl) ?_
  refine lv_iconst (v := nI 0) X.x X.b dX4_isTune_1 (by decide) ?_
  refine lv_iconst (v := nI 3) X.x X.b dX4_isTune_2 (by decide) ?_
  refine f_scalli X hh (c_withinB l G x 0 3 (by decide) (by decide)) mf_yX4_isWithin ks_yX4_isWithin km_X4_38 rfl hl.1 [] rfl (Nat.le_of_ble_eq_true rfl) ⟨by decide, by decide⟩ ⟨Nat.zero_le _, Nat.zero_le _⟩ dX4_isTune_3 (fun r τ H locs hq hh => ?_)
  obtain ⟨rfl, hτ⟩ := hq
  rw [hτ] at hh
  clear hτ
  exact f_zret X hh (by split <;> rfl) ⟨rfl, rfl⟩ dX4_isTune_6
set_option maxHeartbeats 4000000 in
set_option maxRecDepth 100000 in
theorem c4_areKnown (l : Launch) (G : GG) {σ : Mem}  (x y : Int32) : Ci l G yX4_areKnown cX4_areKnown 2 (some .boolean) 2 42 [.int x, .int y] σ (fun r τ => r = (if kno x y then 1 else 0) ∧ τ = σ) := by
  refine Ci.of (own := RX4) (by decide) rfl (Nat.le_of_ble_eq_true rfl) (fun p e s m args below meth c ls H locs X hl hh => ?_)
  have hl : lv_has ls 2 [(0, .int x), (1, .int y)] := hl
  refine lv_iload_n X.x X.b dX4_areKnown_0 rfl (lv_at hl 0 rfl) ?_
  refine f_scalli X hh (c4_isLine l G x) mf_yX4_isLine ks_yX4_isLine km_X4_59 rfl hl.1 [] rfl (Nat.le_of_ble_eq_true rfl) ⟨by decide, by decide⟩ ⟨Nat.zero_le _, Nat.zero_le _⟩ dX4_areKnown_1 (fun r τ H locs hq hh => ?_)
  obtain ⟨rfl, hτ⟩ := hq
  rw [hτ] at hh
  clear hτ
  by_cases c_1 : inB x 0 2
  · rw [show (if inB x 0 2 then (1 : Int32) else 0) = 1 from if_pos c_1]
    refine lv_if_eq (tgt := 18) X.x X.b dX4_areKnown_4 (by decide) (fun h9 => absurd h9 (by decide)) (fun _ => ?_)
    refine lv_iload_n X.x X.b dX4_areKnown_7 rfl (lv_at hl 1 rfl) ?_
    refine f_scalli X hh (c4_isTune l G y) mf_yX4_isTune ks_yX4_isTune km_X4_74 rfl hl.1 [] rfl (Nat.le_of_ble_eq_true rfl) ⟨by decide, by decide⟩ ⟨Nat.zero_le _, Nat.zero_le _⟩ dX4_areKnown_8 (fun r τ H locs hq hh => ?_)
    obtain ⟨rfl, hτ⟩ := hq
    rw [hτ] at hh
    clear hτ
    by_cases c_3 : inB y 0 3
    · rw [show (if inB y 0 3 then (1 : Int32) else 0) = 1 from if_pos c_3]
      refine lv_if_eq (tgt := 18) X.x X.b dX4_areKnown_11 (by decide) (fun h9 => absurd h9 (by decide)) (fun _ => ?_)
      refine lv_iconst (v := nI 1) X.x X.b dX4_areKnown_14 (by decide) ?_
      refine lv_goto (tgt := 19) X.x X.b dX4_areKnown_15 (by decide) ?_
      exact f_zret X hh rfl ⟨(if_pos ⟨c_1, c_3⟩).symm, rfl⟩ dX4_areKnown_19
    · rw [show (if inB y 0 3 then (1 : Int32) else 0) = 0 from if_neg c_3]
      refine lv_if_eq (tgt := 18) X.x X.b dX4_areKnown_11 (by decide) (fun _ => ?_) (fun h9 => absurd (show _ by decide) h9)
      refine lv_iconst (v := nI 0) X.x X.b dX4_areKnown_18 (by decide) ?_
      exact f_zret X hh rfl ⟨(if_neg (fun q9 => c_3 q9.2)).symm, rfl⟩ dX4_areKnown_19
  · rw [show (if inB x 0 2 then (1 : Int32) else 0) = 0 from if_neg c_1]
    refine lv_if_eq (tgt := 18) X.x X.b dX4_areKnown_4 (by decide) (fun _ => ?_) (fun h9 => absurd (show _ by decide) h9)
    refine lv_iconst (v := nI 0) X.x X.b dX4_areKnown_18 (by decide) ?_
    exact f_zret X hh rfl ⟨(if_neg (fun q9 => c_1 q9.1)).symm, rfl⟩ dX4_areKnown_19
set_option maxHeartbeats 4000000 in
set_option maxRecDepth 100000 in
theorem c4_say (l : Launch) (G : GG) {σ : Mem} {a : AS} (x : Int32) (hA : AOK a) (hR : RC σ a) : Ci l G yX4_say cX4_say 2 (some .int) 1 22 [.ref (gad G 81), .int x] σ (fun r τ => r = sp_say x a ∧ RC τ (ns_say x a) ∧ FrC σ τ) := by
  refine Ci.of (own := RX4) (by decide) rfl (Nat.le_of_ble_eq_true rfl) (fun p e s m args below meth c ls H locs X hl hh => ?_)
  have hn := hA.1
  have hl : lv_has ls 2 [(0, .ref (gad G 81)), (1, .int x)] := hl
  refine lv_iload_n X.x X.b dX4_say_0 rfl (lv_at hl 1 rfl) ?_
  refine lv_bipush (v := nI 33) X.x X.b dX4_say_1 (by decide) ?_
  refine lv_bipush (v := nI 126) X.x X.b dX4_say_3 (by decide) ?_
  refine f_scalli X hh (c_withinB l G x 33 126 (by decide) (by decide)) mf_yX4_isWithin ks_yX4_isWithin km_X4_38 rfl hl.1 [] rfl (Nat.le_of_ble_eq_true rfl) ⟨by decide, by decide⟩ ⟨Nat.zero_le _, Nat.zero_le _⟩ dX4_say_5 (fun r τ H locs hq hh => ?_)
  obtain ⟨rfl, hτ⟩ := hq
  rw [hτ] at hh
  clear hτ
  by_cases c_1 : inB x 33 126
  · rw [show (if inB x 33 126 then (1 : Int32) else 0) = 1 from if_pos c_1]
    obtain ⟨k, ha_k, hb_k, rfl⟩ := inB_of c_1 (by decide)
    refine lv_if_ne (tgt := 14) X.x X.b dX4_say_8 (by decide) (fun _ => ?_) (fun h9 => absurd h9 (by decide))
    refine lv_aload_n X.x X.b dX4_say_14 rfl (lv_at hl 0 rfl) ?_
    refine f_get X hh (v := .ref (gad G 83)) (sh_81 G _) (by decide) rfl in_X4 0 (by decide) kf_X4_12 rfl dX4_say_15 ?_
    refine f_geti X hh (x := nI (apn a)) (sh_83 G _) (by decide) rfl in_X2 1 (by decide) kf_X4_42 rfl hR.1.1 dX4_say_18 ?_
    refine lv_bipush (v := nI 22) X.x X.b dX4_say_21 (by decide) ?_
    refine lv_icmp_lt (tgt := 29) X.x X.b dX4_say_23 (by decide) (fun c_3 => ?_) (fun c_3 => ?_)
    · have c_3 : (apn a) < 22 := (nI_ltI (a := (apn a)) (b := 22) (by omega) (by omega)).mp c_3
      refine lv_aload_n X.x X.b dX4_say_29 rfl (lv_at hl 0 rfl) ?_
      refine f_get X hh (v := .ref (gad G 83)) (sh_81 G _) (by decide) rfl in_X4 0 (by decide) kf_X4_12 rfl dX4_say_30 ?_
      refine lv_iload_n X.x X.b dX4_say_33 rfl (lv_at hl 1 rfl) ?_
      refine f_callv X hh (c_put l G (x := k) hR.1 (by omega) (by omega)) mf_yX2_put ki_yX2_put kl_yX2_put km_X4_45 (sh_83 G _) (by decide) rfl rfl hl.1 [] rfl (Nat.le_of_ble_eq_true rfl) ⟨by decide, by decide⟩ ⟨Nat.zero_le _, Nat.zero_le _⟩ dX4_say_34 (fun τ H locs hq hh => ?_)
      obtain ⟨hp1, hf1⟩ := hq
      refine lv_aload_n X.x X.b dX4_say_37 rfl (lv_at hl 0 rfl) ?_
      refine f_get X hh (v := .ref (gad G 83)) (sh_81 G _) (by decide) rfl in_X4 0 (by decide) kf_X4_12 rfl dX4_say_38 ?_
      refine f_geti X hh (x := nI (apn a + 1)) (sh_83 G _) (by decide) rfl in_X2 1 (by decide) kf_X4_42 rfl hp1.1 dX4_say_41 ?_
      exact f_iret X hh ⟨by unfold sp_say; rw [if_pos c_1, if_neg (by omega)], by unfold ns_say; rw [if_pos c_1, if_neg (by omega), ix_nI (by omega)]; exact hR.pad hp1 hf1, fun k9 h9 => hf1 k9 (by omega) (by omega)⟩ dX4_say_44
    · have c_3 : ¬ (apn a) < 22 := fun q9 => c_3 ((nI_ltI (a := (apn a)) (b := 22) (by omega) (by omega)).mpr q9)
      refine lv_bipush (v := (-4)) X.x X.b dX4_say_26 (by decide) ?_
      exact f_iret X hh ⟨by unfold sp_say; rw [if_pos c_1, if_pos (by omega)], by unfold ns_say; rw [if_pos c_1, if_pos (by omega)]; exact hR, FrC.rf⟩ dX4_say_28
  · rw [show (if inB x 33 126 then (1 : Int32) else 0) = 0 from if_neg c_1]
    refine lv_if_ne (tgt := 14) X.x X.b dX4_say_8 (by decide) (fun h9 => absurd (show _ by decide) h9) (fun _ => ?_)
    refine lv_bipush (v := (-2)) X.x X.b dX4_say_11 (by decide) ?_
    exact f_iret X hh ⟨(if_neg c_1).symm, by unfold ns_say; rw [if_neg c_1]; exact hR, FrC.rf⟩ dX4_say_13
set_option maxHeartbeats 4000000 in
set_option maxRecDepth 100000 in
theorem c4_wipe (l : Launch) (G : GG) {σ : Mem} {a : AS} (hA : AOK a) (hR : RC σ a) : Ci l G yX4_wipe cX4_wipe 2 (some .int) 1 20 [.ref (gad G 81)] σ (fun r τ => r = nI (apn a) ∧ RC τ (ns_wipe a) ∧ FrC σ τ) := by
  refine Ci.of (own := RX4) (by decide) rfl (Nat.le_of_ble_eq_true rfl) (fun p e s m args below meth c ls H locs X hl hh => ?_)
  have hl : lv_has ls 2 [(0, .ref (gad G 81))] := hl
  refine lv_aload_n X.x X.b dX4_wipe_0 rfl (lv_at hl 0 rfl) ?_
  refine f_get X hh (v := .ref (gad G 83)) (sh_81 G _) (by decide) rfl in_X4 0 (by decide) kf_X4_12 rfl dX4_wipe_1 ?_
  refine f_geti X hh (x := nI (apn a)) (sh_83 G _) (by decide) rfl in_X2 1 (by decide) kf_X4_42 rfl hR.1.1 dX4_wipe_4 ?_
  refine lv_istore_n (lv' := [(1, .int (nI (apn a))), (0, .ref (gad G 81))]) X.x X.b dX4_wipe_7 rfl hl (by decide) rfl (fun ls hl => ?_)
  refine lv_aload_n X.x X.b dX4_wipe_8 rfl (lv_at hl 1 rfl) ?_
  refine f_get X hh (v := .ref (gad G 83)) (sh_81 G _) (by decide) rfl in_X4 0 (by decide) kf_X4_12 rfl dX4_wipe_9 ?_
  refine f_callv X hh (c_pclear l G) mf_yX2_clear ki_yX2_clear kl_yX2_clear km_X4_49 (sh_83 G _) (by decide) rfl rfl hl.1 [] rfl (Nat.le_of_ble_eq_true rfl) ⟨by decide, by decide⟩ ⟨Nat.zero_le _, Nat.zero_le _⟩ dX4_wipe_12 (fun τ H locs hq hh => ?_)
  subst hq
  refine lv_iload_n X.x X.b dX4_wipe_15 rfl (lv_at hl 0 rfl) ?_
  exact f_iret X hh ⟨rfl, hR.pad (pd_clear (g := apg a)) (fun k9 h1 h2 => mset_n h1), fun k9 h9 => mset_n (by omega)⟩ dX4_wipe_16
set_option maxHeartbeats 4000000 in
set_option maxRecDepth 100000 in
theorem c4_fault (l : Launch) (G : GG) {σ : Mem} {a : AS} (x : Int32) (hA : AOK a) (hR : RC σ a) : Ci l G yX4_fault cX4_fault 2 (some .int) 2 45 [.ref (gad G 81), .int x] σ (fun r τ => r = sp_fault x a ∧ RC τ a ∧ FrC σ τ) := by
  refine Ci.of (own := RX4) (by decide) rfl (Nat.le_of_ble_eq_true rfl) (fun p e s m args below meth c ls H locs X hl hh => ?_)
  have hl : lv_has ls 2 [(0, .ref (gad G 81)), (1, .int x)] := hl
  refine lv_iload_n X.x X.b dX4_fault_0 rfl (lv_at hl 1 rfl) ?_
  refine lv_iconst (v := nI 0) X.x X.b dX4_fault_1 (by decide) ?_
  refine lv_iconst (v := nI 1) X.x X.b dX4_fault_2 (by decide) ?_
  refine f_scalli X hh (c_withinB l G x 0 1 (by decide) (by decide)) mf_yX4_isWithin ks_yX4_isWithin km_X4_38 rfl hl.1 [] rfl (Nat.le_of_ble_eq_true rfl) ⟨by decide, by decide⟩ ⟨Nat.zero_le _, Nat.zero_le _⟩ dX4_fault_3 (fun r τ H locs hq hh => ?_)
  obtain ⟨rfl, hτ⟩ := hq
  rw [hτ] at hh
  clear hτ
  by_cases c_1 : inB x 0 1
  · rw [show (if inB x 0 1 then (1 : Int32) else 0) = 1 from if_pos c_1]
    obtain ⟨k, ha_k, hb_k, rfl⟩ := inB_of c_1 (by decide)
    refine lv_if_ne (tgt := 12) X.x X.b dX4_fault_6 (by decide) (fun _ => ?_) (fun h9 => absurd h9 (by decide))
    refine lv_iload_n X.x X.b dX4_fault_12 rfl (lv_at hl 1 rfl) ?_
    refine lv_if_ne (tgt := 26) X.x X.b dX4_fault_13 (by decide) (fun c_3 => ?_) (fun c_3 => ?_)
    · have c_3 : ¬ k = 0 := fun q9 => c_3 ((nI_eq (a := k) (b := 0) (by omega) (by omega)).mpr q9)
      refine lv_aload_n X.x X.b dX4_fault_26 rfl (lv_at hl 0 rfl) ?_
      refine f_get X hh (v := .ref (gad G 83)) (sh_81 G _) (by decide) rfl in_X4 0 (by decide) kf_X4_12 rfl dX4_fault_27 ?_
      refine f_calli X hh (c_faultAsTune l G hR.1) mf_yX2_faultAsTune ki_yX2_faultAsTune kl_yX2_faultAsTune km_X4_56 (sh_83 G _) (by decide) rfl rfl hl.1 [] rfl (Nat.le_of_ble_eq_true rfl) ⟨by decide, by decide⟩ ⟨Nat.zero_le _, Nat.zero_le _⟩ dX4_fault_30 (fun r τ H locs hq hh => ?_)
      obtain ⟨rfl, hτ⟩ := hq
      rw [hτ] at hh
      clear hτ
      exact f_iret X hh ⟨by unfold sp_fault; rw [if_pos c_1, if_neg (fun q9 => c_3 ((nI_z (by omega)).mp q9))], hR, FrC.rf⟩ dX4_fault_33
    · have c_3 : k = 0 := (nI_eq (a := k) (b := 0) (by omega) (by omega)).mp c_3
      refine lv_aload_n X.x X.b dX4_fault_16 rfl (lv_at hl 0 rfl) ?_
      refine f_get X hh (v := .ref (gad G 83)) (sh_81 G _) (by decide) rfl in_X4 0 (by decide) kf_X4_12 rfl dX4_fault_17 ?_
      refine f_calli X hh (c_faultAsLine l G hR.1) mf_yX2_faultAsLine ki_yX2_faultAsLine kl_yX2_faultAsLine km_X4_52 (sh_83 G _) (by decide) rfl rfl hl.1 [] rfl (Nat.le_of_ble_eq_true rfl) ⟨by decide, by decide⟩ ⟨Nat.zero_le _, Nat.zero_le _⟩ dX4_fault_20 (fun r τ H locs hq hh => ?_)
      obtain ⟨rfl, hτ⟩ := hq
      rw [hτ] at hh
      clear hτ
      refine lv_goto (tgt := 33) X.x X.b dX4_fault_23 (by decide) ?_
      exact f_iret X hh ⟨by unfold sp_fault; rw [if_pos c_1, if_pos ((nI_z (by omega)).mpr c_3)], hR, FrC.rf⟩ dX4_fault_33
  · rw [show (if inB x 0 1 then (1 : Int32) else 0) = 0 from if_neg c_1]
    refine lv_if_ne (tgt := 12) X.x X.b dX4_fault_6 (by decide) (fun h9 => absurd (show _ by decide) h9) (fun _ => ?_)
    refine lv_bipush (v := (-2)) X.x X.b dX4_fault_9 (by decide) ?_
    exact f_iret X hh ⟨(if_neg c_1).symm, hR, FrC.rf⟩ dX4_fault_11
set_option maxHeartbeats 4000000 in
set_option maxRecDepth 100000 in
theorem c4_line (l : Launch) (G : GG) {σ : Mem} {a : AS} (x : Int32) (hA : AOK a) (hR : RC σ a) : Ci l G yX4_line cX4_line 3 (some .int) 2 45 [.ref (gad G 81), .int x] σ (fun r τ => r = sp_line x a ∧ RC τ (ns_line x a) ∧ FrC σ τ) := by
  refine Ci.of (own := RX4) (by decide) rfl (Nat.le_of_ble_eq_true rfl) (fun p e s m args below meth c ls H locs X hl hh => ?_)
  have hl : lv_has ls 3 [(0, .ref (gad G 81)), (1, .int x)] := hl
  refine lv_iload_n X.x X.b dX4_line_0 rfl (lv_at hl 1 rfl) ?_
  refine f_scalli X hh (c4_isLine l G x) mf_yX4_isLine ks_yX4_isLine km_X4_59 rfl hl.1 [] rfl (Nat.le_of_ble_eq_true rfl) ⟨by decide, by decide⟩ ⟨Nat.zero_le _, Nat.zero_le _⟩ dX4_line_1 (fun r τ H locs hq hh => ?_)
  obtain ⟨rfl, hτ⟩ := hq
  rw [hτ] at hh
  clear hτ
  by_cases c_1 : inB x 0 2
  · rw [show (if inB x 0 2 then (1 : Int32) else 0) = 1 from if_pos c_1]
    obtain ⟨i, ha_i, hb_i, rfl⟩ := inB_of c_1 (by decide)
    refine lv_if_ne (tgt := 9) X.x X.b dX4_line_4 (by decide) (fun _ => ?_) (fun h9 => absurd h9 (by decide))
    refine lv_aload_n X.x X.b dX4_line_9 rfl (lv_at hl 0 rfl) ?_
    refine f_get X hh (v := .ref (gad G 83)) (sh_81 G _) (by decide) rfl in_X4 0 (by decide) kf_X4_12 rfl dX4_line_10 ?_
    refine f_calli X hh (c_faultAsLine l G hR.1) mf_yX2_faultAsLine ki_yX2_faultAsLine kl_yX2_faultAsLine km_X4_52 (sh_83 G _) (by decide) rfl rfl hl.1 [] rfl (Nat.le_of_ble_eq_true rfl) ⟨by decide, by decide⟩ ⟨Nat.zero_le _, Nat.zero_le _⟩ dX4_line_13 (fun r τ H locs hq hh => ?_)
    obtain ⟨rfl, hτ⟩ := hq
    rw [hτ] at hh
    clear hτ
    refine lv_bipush (v := (-6)) X.x X.b dX4_line_16 (by decide) ?_
    refine lv_icmp_eq (tgt := 24) X.x X.b dX4_line_18 (by decide) (fun c_3 => ?_) (fun c_3 => ?_)
    · refine lv_aload_n X.x X.b dX4_line_24 rfl (lv_at hl 0 rfl) ?_
      refine f_get X hh (v := .ref (gad G 69)) (sh_81 G _) (by decide) rfl in_X4 1 (by decide) kf_X4_19 rfl dX4_line_25 ?_
      refine f_get X hh (v := .ref (gad G 70)) (sh_69 G _) (by decide) rfl in_X0 0 (by decide) kf_X4_63 rfl dX4_line_28 ?_
      refine lv_iload_n X.x X.b dX4_line_31 rfl (lv_at hl 1 rfl) ?_
      refine f_aald X hh (j := i) 2 (sh_70 G _) rfl rfl (by decide) rfl (by omega) (by decide) dX4_line_32 ?_
      refine lv_astore_n (lv' := [(2, .ref (gad G (3 * (7 * 0 + i)))), (0, .ref (gad G 81)), (1, .int (nI i))]) X.x X.b dX4_line_33 rfl hl (by decide) rfl (fun ls hl => ?_)
      refine lv_aload_n X.x X.b dX4_line_34 rfl (lv_at hl 1 rfl) ?_
      refine f_get X hh (v := .ref (gad G 83)) (sh_81 G _) (by decide) rfl in_X4 0 (by decide) kf_X4_12 rfl dX4_line_35 ?_
      refine lv_aload_n X.x X.b dX4_line_38 rfl (lv_at hl 0 rfl) ?_
      refine f_callv X hh (c_readLine l G (r := 7 * 0 + i) (by omega) hR.1 (lans_ok hA.1 c_3)) mf_yX2_readLine ki_yX2_readLine kl_yX2_readLine km_X4_67 (sh_83 G _) (by decide) rfl rfl hl.1 [] rfl (Nat.le_of_ble_eq_true rfl) ⟨by decide, by decide⟩ ⟨Nat.zero_le _, Nat.zero_le _⟩ dX4_line_39 (fun τ H locs hq hh => ?_)
      obtain ⟨hv1, hf1⟩ := hq
      refine lv_aload_n X.x X.b dX4_line_42 rfl (lv_at hl 1 rfl) ?_
      refine f_get X hh (v := .ref (gad G 83)) (sh_81 G _) (by decide) rfl in_X4 0 (by decide) kf_X4_12 rfl dX4_line_43 ?_
      refine f_callv X hh (c_pclear l G) mf_yX2_clear ki_yX2_clear kl_yX2_clear km_X4_49 (sh_83 G _) (by decide) rfl rfl hl.1 [] rfl (Nat.le_of_ble_eq_true rfl) ⟨by decide, by decide⟩ ⟨Nat.zero_le _, Nat.zero_le _⟩ dX4_line_46 (fun τ H locs hq hh => ?_)
      subst hq
      refine lv_aload_n X.x X.b dX4_line_49 rfl (lv_at hl 0 rfl) ?_
      refine f_geti X hh (x := nI (rdn (apg a) (apn a))) (sh_row G (r := 7 * 0 + i) (by omega) _) (by omega) rfl in_X3 3 (by decide) kf_X4_71 rfl (by rw [mset_n (show 3 * (7 * 0 + i) ≠ 83 by omega)]; exact hv1.1) dX4_line_50 ?_
      exact f_iret X hh ⟨by unfold sp_line; rw [if_pos c_1, if_pos c_3], by unfold ns_line; rw [if_pos c_1, if_pos c_3, ix_nI (by omega)]; exact (hR.row (q := i) (by omega) hv1 hf1).pad (pd_clear (g := apg a)) (fun k9 h1 h2 => mset_n h1), fun k9 h9 => by rw [mset_n (by omega)]; exact hf1 k9 (by omega)⟩ dX4_line_53
    · refine lv_bipush (v := (-7)) X.x X.b dX4_line_21 (by decide) ?_
      exact f_iret X hh ⟨by unfold sp_line; rw [if_pos c_1, if_neg c_3], by unfold ns_line; rw [if_pos c_1, if_neg c_3]; exact hR, FrC.rf⟩ dX4_line_23
  · rw [show (if inB x 0 2 then (1 : Int32) else 0) = 0 from if_neg c_1]
    refine lv_if_ne (tgt := 9) X.x X.b dX4_line_4 (by decide) (fun h9 => absurd (show _ by decide) h9) (fun _ => ?_)
    refine lv_iconst (v := (-1)) X.x X.b dX4_line_7 (by decide) ?_
    exact f_iret X hh ⟨(if_neg c_1).symm, by unfold ns_line; rw [if_neg c_1]; exact hR, FrC.rf⟩ dX4_line_8
set_option maxHeartbeats 4000000 in
set_option maxRecDepth 100000 in
theorem c4_tune (l : Launch) (G : GG) {σ : Mem} {a : AS} (x : Int32) (hA : AOK a) (hR : RC σ a) : Ci l G yX4_tune cX4_tune 3 (some .int) 2 45 [.ref (gad G 81), .int x] σ (fun r τ => r = sp_tune x a ∧ RC τ (ns_tune x a) ∧ FrC σ τ) := by
  refine Ci.of (own := RX4) (by decide) rfl (Nat.le_of_ble_eq_true rfl) (fun p e s m args below meth c ls H locs X hl hh => ?_)
  have hl : lv_has ls 3 [(0, .ref (gad G 81)), (1, .int x)] := hl
  refine lv_iload_n X.x X.b dX4_tune_0 rfl (lv_at hl 1 rfl) ?_
  refine f_scalli X hh (c4_isTune l G x) mf_yX4_isTune ks_yX4_isTune km_X4_74 rfl hl.1 [] rfl (Nat.le_of_ble_eq_true rfl) ⟨by decide, by decide⟩ ⟨Nat.zero_le _, Nat.zero_le _⟩ dX4_tune_1 (fun r τ H locs hq hh => ?_)
  obtain ⟨rfl, hτ⟩ := hq
  rw [hτ] at hh
  clear hτ
  by_cases c_1 : inB x 0 3
  · rw [show (if inB x 0 3 then (1 : Int32) else 0) = 1 from if_pos c_1]
    obtain ⟨i, ha_i, hb_i, rfl⟩ := inB_of c_1 (by decide)
    refine lv_if_ne (tgt := 9) X.x X.b dX4_tune_4 (by decide) (fun _ => ?_) (fun h9 => absurd h9 (by decide))
    refine lv_aload_n X.x X.b dX4_tune_9 rfl (lv_at hl 0 rfl) ?_
    refine f_get X hh (v := .ref (gad G 83)) (sh_81 G _) (by decide) rfl in_X4 0 (by decide) kf_X4_12 rfl dX4_tune_10 ?_
    refine f_calli X hh (c_faultAsTune l G hR.1) mf_yX2_faultAsTune ki_yX2_faultAsTune kl_yX2_faultAsTune km_X4_56 (sh_83 G _) (by decide) rfl rfl hl.1 [] rfl (Nat.le_of_ble_eq_true rfl) ⟨by decide, by decide⟩ ⟨Nat.zero_le _, Nat.zero_le _⟩ dX4_tune_13 (fun r τ H locs hq hh => ?_)
    obtain ⟨rfl, hτ⟩ := hq
    rw [hτ] at hh
    clear hτ
    refine lv_bipush (v := (-6)) X.x X.b dX4_tune_16 (by decide) ?_
    refine lv_icmp_eq (tgt := 24) X.x X.b dX4_tune_18 (by decide) (fun c_3 => ?_) (fun c_3 => ?_)
    · refine lv_aload_n X.x X.b dX4_tune_24 rfl (lv_at hl 0 rfl) ?_
      refine f_get X hh (v := .ref (gad G 69)) (sh_81 G _) (by decide) rfl in_X4 1 (by decide) kf_X4_19 rfl dX4_tune_25 ?_
      refine f_get X hh (v := .ref (gad G 71)) (sh_69 G _) (by decide) rfl in_X0 1 (by decide) kf_X4_77 rfl dX4_tune_28 ?_
      refine lv_iload_n X.x X.b dX4_tune_31 rfl (lv_at hl 1 rfl) ?_
      refine f_aald X hh (j := i) 2 (sh_71 G _) rfl rfl (by decide) rfl (by omega) (by decide) dX4_tune_32 ?_
      refine lv_astore_n (lv' := [(2, .ref (gad G (3 * (7 * 0 + (3 + i))))), (0, .ref (gad G 81)), (1, .int (nI i))]) X.x X.b dX4_tune_33 rfl hl (by decide) rfl (fun ls hl => ?_)
      refine lv_aload_n X.x X.b dX4_tune_34 rfl (lv_at hl 1 rfl) ?_
      refine f_get X hh (v := .ref (gad G 83)) (sh_81 G _) (by decide) rfl in_X4 0 (by decide) kf_X4_12 rfl dX4_tune_35 ?_
      refine lv_aload_n X.x X.b dX4_tune_38 rfl (lv_at hl 0 rfl) ?_
      refine f_callv X hh (c_readTune l G (r := 7 * 0 + (3 + i)) (by omega) hR.1 (tans_ok hA.1 c_3).1 (tans_ok hA.1 c_3).2 (by rw [room_bk (by decide) (by omega), if_neg (by omega)])) mf_yX2_readTune ki_yX2_readTune kl_yX2_readTune km_X4_80 (sh_83 G _) (by decide) rfl rfl hl.1 [] rfl (Nat.le_of_ble_eq_true rfl) ⟨by decide, by decide⟩ ⟨Nat.zero_le _, Nat.zero_le _⟩ dX4_tune_39 (fun τ H locs hq hh => ?_)
      obtain ⟨hv1, hf1⟩ := hq
      refine lv_aload_n X.x X.b dX4_tune_42 rfl (lv_at hl 1 rfl) ?_
      refine f_get X hh (v := .ref (gad G 83)) (sh_81 G _) (by decide) rfl in_X4 0 (by decide) kf_X4_12 rfl dX4_tune_43 ?_
      refine f_callv X hh (c_pclear l G) mf_yX2_clear ki_yX2_clear kl_yX2_clear km_X4_49 (sh_83 G _) (by decide) rfl rfl hl.1 [] rfl (Nat.le_of_ble_eq_true rfl) ⟨by decide, by decide⟩ ⟨Nat.zero_le _, Nat.zero_le _⟩ dX4_tune_46 (fun τ H locs hq hh => ?_)
      subst hq
      refine lv_aload_n X.x X.b dX4_tune_49 rfl (lv_at hl 0 rfl) ?_
      refine f_geti X hh (x := nI (apn a / 2)) (sh_row G (r := 7 * 0 + (3 + i)) (by omega) _) (by omega) rfl in_X3 3 (by decide) kf_X4_71 rfl (by rw [mset_n (show 3 * (7 * 0 + (3 + i)) ≠ 83 by omega)]; exact hv1.1) dX4_tune_50 ?_
      exact f_iret X hh ⟨by unfold sp_tune; rw [if_pos c_1, if_pos c_3], by unfold ns_tune; rw [if_pos c_1, if_pos c_3, ix_nI (by omega)]; exact (hR.row (q := (3 + i)) (by omega) hv1 hf1).pad (pd_clear (g := apg a)) (fun k9 h1 h2 => mset_n h1), fun k9 h9 => by rw [mset_n (by omega)]; exact hf1 k9 (by omega)⟩ dX4_tune_53
    · refine lv_bipush (v := (-7)) X.x X.b dX4_tune_21 (by decide) ?_
      exact f_iret X hh ⟨by unfold sp_tune; rw [if_pos c_1, if_neg c_3], by unfold ns_tune; rw [if_pos c_1, if_neg c_3]; exact hR, FrC.rf⟩ dX4_tune_23
  · rw [show (if inB x 0 3 then (1 : Int32) else 0) = 0 from if_neg c_1]
    refine lv_if_ne (tgt := 9) X.x X.b dX4_tune_4 (by decide) (fun h9 => absurd (show _ by decide) h9) (fun _ => ?_)
    refine lv_iconst (v := (-1)) X.x X.b dX4_tune_7 (by decide) ?_
    exact f_iret X hh ⟨(if_neg c_1).symm, by unfold ns_tune; rw [if_neg c_1]; exact hR, FrC.rf⟩ dX4_tune_8
theorem RC.rul {σ : Mem} {a : AS} {k q : Nat} (h : RC σ a) (hk : k < 4) : RC (mset σ 72 k (nI q)) (a.1, (bN (aB a), bW (aB a), bZ (aB a), fun x => if x = k then q else bU (aB a) x), a.2.2) := by
  obtain ⟨h1, h2, h3, h4⟩ := h
  refine ⟨h1.keep (mset_n (by decide)) (mset_n (by decide)), ⟨fun x hx => (h2.1 x hx).kk (fun y hy => mset_n (by omega)), fun x hx => ?_⟩, fun x h9 h8 => (h3 x h9 h8).kk (fun y hy => mset_n (by omega)), ?_⟩
  · show mset σ 72 k (nI q) 72 x = nI (if x = k then q else bU (aB a) x)
    by_cases e : x = k
    · subst e; rw [mset_ss, if_pos rfl]
    · rw [mset_sn e, if_neg e]; exact h2.2 x hx
  · rw [mset_n (by decide)]; exact h4
set_option maxHeartbeats 4000000 in
set_option maxRecDepth 100000 in
theorem c4_rule (l : Launch) (G : GG) {σ : Mem} {a : AS} (x v : Int32) (hA : AOK a) (hR : RC σ a) : Ci l G yX4_rule cX4_rule 4 (some .int) 1 22 [.ref (gad G 81), .int x, .int v] σ (fun r τ => r = sp_rule x v a ∧ RC τ (ns_rule x v a) ∧ FrC σ τ) := by
  refine Ci.of (own := RX4) (by decide) rfl (Nat.le_of_ble_eq_true rfl) (fun p e s m args below meth c ls H locs X hl hh => ?_)
  have hl : lv_has ls 4 [(0, .ref (gad G 81)), (1, .int x), (2, .int v)] := hl
  refine lv_iload_n X.x X.b dX4_rule_0 rfl (lv_at hl 1 rfl) ?_
  refine lv_iconst (v := nI 0) X.x X.b dX4_rule_1 (by decide) ?_
  refine lv_iconst (v := nI 3) X.x X.b dX4_rule_2 (by decide) ?_
  refine f_scalli X hh (c_withinB l G x 0 3 (by decide) (by decide)) mf_yX4_isWithin ks_yX4_isWithin km_X4_38 rfl hl.1 [] rfl (Nat.le_of_ble_eq_true rfl) ⟨by decide, by decide⟩ ⟨Nat.zero_le _, Nat.zero_le _⟩ dX4_rule_3 (fun r τ H locs hq hh => ?_)
  obtain ⟨rfl, hτ⟩ := hq
  rw [hτ] at hh
  clear hτ
  by_cases c_1 : inB x 0 3
  · rw [show (if inB x 0 3 then (1 : Int32) else 0) = 1 from if_pos c_1]
    obtain ⟨k, ha_k, hb_k, rfl⟩ := inB_of c_1 (by decide)
    refine lv_if_eq (tgt := 19) X.x X.b dX4_rule_6 (by decide) (fun h9 => absurd h9 (by decide)) (fun _ => ?_)
    refine lv_iload_n X.x X.b dX4_rule_9 rfl (lv_at hl 2 rfl) ?_
    refine lv_iconst (v := nI 0) X.x X.b dX4_rule_10 (by decide) ?_
    refine lv_bipush (v := nI 9) X.x X.b dX4_rule_11 (by decide) ?_
    refine f_scalli X hh (c_withinB l G v 0 9 (by decide) (by decide)) mf_yX4_isWithin ks_yX4_isWithin km_X4_38 rfl hl.1 [] rfl (Nat.le_of_ble_eq_true rfl) ⟨by decide, by decide⟩ ⟨Nat.zero_le _, Nat.zero_le _⟩ dX4_rule_13 (fun r τ H locs hq hh => ?_)
    obtain ⟨rfl, hτ⟩ := hq
    rw [hτ] at hh
    clear hτ
    by_cases c_3 : inB v 0 9
    · rw [show (if inB v 0 9 then (1 : Int32) else 0) = 1 from if_pos c_3]
      obtain ⟨q, ha_q, hb_q, rfl⟩ := inB_of c_3 (by decide)
      refine lv_if_ne (tgt := 22) X.x X.b dX4_rule_16 (by decide) (fun _ => ?_) (fun h9 => absurd h9 (by decide))
      refine lv_aload_n X.x X.b dX4_rule_22 rfl (lv_at hl 0 rfl) ?_
      refine f_get X hh (v := .ref (gad G 69)) (sh_81 G _) (by decide) rfl in_X4 1 (by decide) kf_X4_19 rfl dX4_rule_23 ?_
      refine f_get X hh (v := .ref (gad G 72)) (sh_69 G _) (by decide) rfl in_X0 2 (by decide) kf_X4_83 rfl dX4_rule_26 ?_
      refine lv_iload_n X.x X.b dX4_rule_29 rfl (lv_at hl 1 rfl) ?_
      refine f_ialdx X hh (j := k) (y := nI (bU (aB a) k)) (sh_72 G _) (by decide) rfl (by omega) (by decide) (hR.2.1.2 _ (by omega)) dX4_rule_30 ?_
      refine lv_istore_n (lv' := [(3, .int (nI (bU (aB a) k))), (0, .ref (gad G 81)), (1, .int (nI k)), (2, .int (nI q))]) X.x X.b dX4_rule_31 rfl hl (by decide) rfl (fun ls hl => ?_)
      refine lv_aload_n X.x X.b dX4_rule_32 rfl (lv_at hl 1 rfl) ?_
      refine f_get X hh (v := .ref (gad G 69)) (sh_81 G _) (by decide) rfl in_X4 1 (by decide) kf_X4_19 rfl dX4_rule_33 ?_
      refine f_get X hh (v := .ref (gad G 72)) (sh_69 G _) (by decide) rfl in_X0 2 (by decide) kf_X4_83 rfl dX4_rule_36 ?_
      refine lv_iload_n X.x X.b dX4_rule_39 rfl (lv_at hl 2 rfl) ?_
      refine lv_iload_n X.x X.b dX4_rule_40 rfl (lv_at hl 3 rfl) ?_
      refine f_iast X hh (j := k) (sh_72 G) (by decide) rfl (by omega) (by decide) dX4_rule_41 (fun H locs hh => ?_)
      refine lv_iload_n X.x X.b dX4_rule_42 rfl (lv_at hl 0 rfl) ?_
      exact f_iret X hh ⟨by unfold sp_rule; rw [if_pos ⟨c_1, c_3⟩, ix_nI (by omega)], by unfold ns_rule; rw [if_pos ⟨c_1, c_3⟩, ix_nI (by omega), ix_nI (by omega)]; exact hR.rul (by omega), fun k9 h9 => mset_n (by omega)⟩ dX4_rule_43
    · rw [show (if inB v 0 9 then (1 : Int32) else 0) = 0 from if_neg c_3]
      refine lv_if_ne (tgt := 22) X.x X.b dX4_rule_16 (by decide) (fun h9 => absurd (show _ by decide) h9) (fun _ => ?_)
      refine lv_bipush (v := (-2)) X.x X.b dX4_rule_19 (by decide) ?_
      exact f_iret X hh ⟨(if_neg (fun q9 => c_3 q9.2)).symm, by unfold ns_rule; rw [if_neg (fun q9 => c_3 q9.2)]; exact hR, FrC.rf⟩ dX4_rule_21
  · rw [show (if inB x 0 3 then (1 : Int32) else 0) = 0 from if_neg c_1]
    refine lv_if_eq (tgt := 19) X.x X.b dX4_rule_6 (by decide) (fun _ => ?_) (fun h9 => absurd (show _ by decide) h9)
    refine lv_bipush (v := (-2)) X.x X.b dX4_rule_19 (by decide) ?_
    exact f_iret X hh ⟨(if_neg (fun q9 => c_1 q9.1)).symm, by unfold ns_rule; rw [if_neg (fun q9 => c_1 q9.1)]; exact hR, FrC.rf⟩ dX4_rule_21
set_option maxHeartbeats 4000000 in
set_option maxRecDepth 100000 in
theorem c4_partOf (l : Launch) (G : GG) {σ : Mem} {q n : Nat} {w z : Nat → Nat} (i x : Int32) (hq : q < 23) (hw : RW σ q n w z) : Ci l G yX4_partOf cX4_partOf 3 (some .int) 1 22 [.ref (gad G (3 * q)), .int i, .int x] σ (fun r τ => r = prt n w z i x ∧ τ = σ) := by
  refine Ci.of (own := RX4) (by decide) rfl (Nat.le_of_ble_eq_true rfl) (fun p e s m args below meth c ls H locs X hl hh => ?_)
  have hn := hw.2.1
  have hrm := room_le q
  have hl : lv_has ls 3 [(0, .ref (gad G (3 * q))), (1, .int i), (2, .int x)] := hl
  refine lv_iload_n X.x X.b dX4_partOf_0 rfl (lv_at hl 2 rfl) ?_
  refine lv_iconst (v := nI 0) X.x X.b dX4_partOf_1 (by decide) ?_
  refine lv_iconst (v := nI 1) X.x X.b dX4_partOf_2 (by decide) ?_
  refine f_scalli X hh (c_withinB l G x 0 1 (by decide) (by decide)) mf_yX4_isWithin ks_yX4_isWithin km_X4_38 rfl hl.1 [] rfl (Nat.le_of_ble_eq_true rfl) ⟨by decide, by decide⟩ ⟨Nat.zero_le _, Nat.zero_le _⟩ dX4_partOf_3 (fun r τ H locs hq hh => ?_)
  obtain ⟨rfl, hτ⟩ := hq
  rw [hτ] at hh
  clear hτ
  by_cases c_1 : inB x 0 1
  · rw [show (if inB x 0 1 then (1 : Int32) else 0) = 1 from if_pos c_1]
    obtain ⟨k, ha_k, hb_k, rfl⟩ := inB_of c_1 (by decide)
    refine lv_if_ne (tgt := 12) X.x X.b dX4_partOf_6 (by decide) (fun _ => ?_) (fun h9 => absurd h9 (by decide))
    refine lv_iload_n X.x X.b dX4_partOf_12 rfl (lv_at hl 1 rfl) ?_
    refine lv_iconst (v := (-1)) X.x X.b dX4_partOf_13 (by decide) ?_
    refine lv_icmp_ne (tgt := 22) X.x X.b dX4_partOf_14 (by decide) (fun c_3 => ?_) (fun c_3 => ?_)
    · refine lv_iload_n X.x X.b dX4_partOf_22 rfl (lv_at hl 1 rfl) ?_
      refine lv_iconst (v := nI 0) X.x X.b dX4_partOf_23 (by decide) ?_
      refine lv_aload_n X.x X.b dX4_partOf_24 rfl (lv_at hl 0 rfl) ?_
      refine f_geti X hh (x := nI n) (sh_row G (r := q) (by omega) _) (by omega) rfl in_X3 3 (by decide) kf_X4_71 rfl hw.1 dX4_partOf_25 ?_
      refine lv_iconst (v := nI 1) X.x X.b dX4_partOf_28 (by decide) ?_
      refine f_isub X (z := nI n - nI 1) rfl dX4_partOf_29 ?_
      refine f_scalli X hh (c_withinR l G i (n := n) (by omega)) mf_yX4_isWithin ks_yX4_isWithin km_X4_38 rfl hl.1 [] rfl (Nat.le_of_ble_eq_true rfl) ⟨by decide, by decide⟩ ⟨Nat.zero_le _, Nat.zero_le _⟩ dX4_partOf_30 (fun r τ H locs hq hh => ?_)
      obtain ⟨rfl, hτ⟩ := hq
      rw [hτ] at hh
      clear hτ
      by_cases c_4 : inR i n
      · rw [show (if inR i n then (1 : Int32) else 0) = 1 from if_pos c_4]
        obtain ⟨y, hy, rfl⟩ := inR_of c_4 (by omega)
        refine lv_if_ne (tgt := 39) X.x X.b dX4_partOf_33 (by decide) (fun _ => ?_) (fun h9 => absurd h9 (by decide))
        refine lv_iload_n X.x X.b dX4_partOf_39 rfl (lv_at hl 2 rfl) ?_
        refine lv_if_ne (tgt := 52) X.x X.b dX4_partOf_40 (by decide) (fun c_6 => ?_) (fun c_6 => ?_)
        · have c_6 : ¬ k = 0 := fun q9 => c_6 ((nI_eq (a := k) (b := 0) (by omega) (by omega)).mpr q9)
          refine lv_aload_n X.x X.b dX4_partOf_52 rfl (lv_at hl 0 rfl) ?_
          refine f_get X hh (v := .ref (gad G (3 * q + 2))) (sh_row G (r := q) (by omega) _) (by omega) rfl in_X3 2 (by decide) kf_X4_159 rfl dX4_partOf_53 ?_
          refine lv_iload_n X.x X.b dX4_partOf_56 rfl (lv_at hl 1 rfl) ?_
          refine f_ialdx X hh (j := y) (y := nI (z y)) (sh_rs G (r := q) (by omega) _) (by omega) rfl (by omega) (by unfold roomN; split <;> (try split) <;> decide) (hw.2.2.2 _ (by omega)) dX4_partOf_57 ?_
          exact f_iret X hh ⟨by unfold prt; rw [if_pos c_1, if_neg c_3, if_pos c_4, ix_nI (by omega), if_neg (fun q9 => c_6 ((nI_z (by omega)).mp q9))], rfl⟩ dX4_partOf_58
        · have c_6 : k = 0 := (nI_eq (a := k) (b := 0) (by omega) (by omega)).mp c_6
          refine lv_aload_n X.x X.b dX4_partOf_43 rfl (lv_at hl 0 rfl) ?_
          refine f_get X hh (v := .ref (gad G (3 * q + 1))) (sh_row G (r := q) (by omega) _) (by omega) rfl in_X3 1 (by decide) kf_X4_156 rfl dX4_partOf_44 ?_
          refine lv_iload_n X.x X.b dX4_partOf_47 rfl (lv_at hl 1 rfl) ?_
          refine f_ialdx X hh (j := y) (y := nI (w y)) (sh_rw G (r := q) (by omega) _) (by omega) rfl (by omega) (by unfold roomN; split <;> (try split) <;> decide) (hw.2.2.1 _ (by omega)) dX4_partOf_48 ?_
          refine lv_goto (tgt := 58) X.x X.b dX4_partOf_49 (by decide) ?_
          exact f_iret X hh ⟨by unfold prt; rw [if_pos c_1, if_neg c_3, if_pos c_4, ix_nI (by omega), if_pos ((nI_z (by omega)).mpr c_6)], rfl⟩ dX4_partOf_58
      · rw [show (if inR i n then (1 : Int32) else 0) = 0 from if_neg c_4]
        refine lv_if_ne (tgt := 39) X.x X.b dX4_partOf_33 (by decide) (fun h9 => absurd (show _ by decide) h9) (fun _ => ?_)
        refine lv_bipush (v := (-6)) X.x X.b dX4_partOf_36 (by decide) ?_
        exact f_iret X hh ⟨by unfold prt; rw [if_pos c_1, if_neg c_3, if_neg c_4], rfl⟩ dX4_partOf_38
    · refine lv_aload_n X.x X.b dX4_partOf_17 rfl (lv_at hl 0 rfl) ?_
      refine f_geti X hh (x := nI n) (sh_row G (r := q) (by omega) _) (by omega) rfl in_X3 3 (by decide) kf_X4_71 rfl hw.1 dX4_partOf_18 ?_
      exact f_iret X hh ⟨by unfold prt; rw [if_pos c_1, if_pos c_3], rfl⟩ dX4_partOf_21
  · rw [show (if inB x 0 1 then (1 : Int32) else 0) = 0 from if_neg c_1]
    refine lv_if_ne (tgt := 12) X.x X.b dX4_partOf_6 (by decide) (fun h9 => absurd (show _ by decide) h9) (fun _ => ?_)
    refine lv_bipush (v := (-2)) X.x X.b dX4_partOf_9 (by decide) ?_
    exact f_iret X hh ⟨(if_neg c_1).symm, rfl⟩ dX4_partOf_11
set_option maxHeartbeats 4000000 in
set_option maxRecDepth 100000 in
theorem c4_syllable (l : Launch) (G : GG) {σ : Mem} {a : AS} (x i v : Int32) (hA : AOK a) (hR : RC σ a) : Ci l G yX4_syllable cX4_syllable 4 (some .int) 2 44 [.ref (gad G 81), .int x, .int i, .int v] σ (fun r τ => r = sp_syllable x i v a ∧ RC τ a ∧ FrC σ τ) := by
  refine Ci.of (own := RX4) (by decide) rfl (Nat.le_of_ble_eq_true rfl) (fun p e s m args below meth c ls H locs X hl hh => ?_)
  have hl : lv_has ls 4 [(0, .ref (gad G 81)), (1, .int x), (2, .int i), (3, .int v)] := hl
  refine lv_iload_n X.x X.b dX4_syllable_0 rfl (lv_at hl 1 rfl) ?_
  refine f_scalli X hh (c4_isLine l G x) mf_yX4_isLine ks_yX4_isLine km_X4_59 rfl hl.1 [] rfl (Nat.le_of_ble_eq_true rfl) ⟨by decide, by decide⟩ ⟨Nat.zero_le _, Nat.zero_le _⟩ dX4_syllable_1 (fun r τ H locs hq hh => ?_)
  obtain ⟨rfl, hτ⟩ := hq
  rw [hτ] at hh
  clear hτ
  by_cases c_1 : inB x 0 2
  · rw [show (if inB x 0 2 then (1 : Int32) else 0) = 1 from if_pos c_1]
    obtain ⟨k, ha_k, hb_k, rfl⟩ := inB_of c_1 (by decide)
    refine lv_if_eq (tgt := 24) X.x X.b dX4_syllable_4 (by decide) (fun h9 => absurd h9 (by decide)) (fun _ => ?_)
    refine lv_aload_n X.x X.b dX4_syllable_7 rfl (lv_at hl 0 rfl) ?_
    refine f_get X hh (v := .ref (gad G 69)) (sh_81 G _) (by decide) rfl in_X4 1 (by decide) kf_X4_19 rfl dX4_syllable_8 ?_
    refine f_get X hh (v := .ref (gad G 70)) (sh_69 G _) (by decide) rfl in_X0 0 (by decide) kf_X4_63 rfl dX4_syllable_11 ?_
    refine lv_iload_n X.x X.b dX4_syllable_14 rfl (lv_at hl 1 rfl) ?_
    refine f_aald X hh (j := k) 2 (sh_70 G _) rfl rfl (by decide) rfl (by omega) (by decide) dX4_syllable_15 ?_
    refine lv_iload_n X.x X.b dX4_syllable_16 rfl (lv_at hl 2 rfl) ?_
    refine lv_iload_n X.x X.b dX4_syllable_17 rfl (lv_at hl 3 rfl) ?_
    refine f_scalli X hh (c4_partOf l G (q := 7 * 0 + k) i v (by omega) (hR.2.1.1 _ (by omega))) mf_yX4_partOf ks_yX4_partOf km_X4_87 rfl hl.1 [] rfl (Nat.le_of_ble_eq_true rfl) ⟨by decide, by decide⟩ ⟨Nat.zero_le _, Nat.zero_le _⟩ dX4_syllable_18 (fun r τ H locs hq hh => ?_)
    obtain ⟨rfl, hτ⟩ := hq
    rw [hτ] at hh
    clear hτ
    refine lv_goto (tgt := 25) X.x X.b dX4_syllable_21 (by decide) ?_
    exact f_iret X hh ⟨by unfold sp_syllable; rw [if_pos c_1, ix_nI (by omega)], hR, FrC.rf⟩ dX4_syllable_25
  · rw [show (if inB x 0 2 then (1 : Int32) else 0) = 0 from if_neg c_1]
    refine lv_if_eq (tgt := 24) X.x X.b dX4_syllable_4 (by decide) (fun _ => ?_) (fun h9 => absurd (show _ by decide) h9)
    refine lv_iconst (v := (-1)) X.x X.b dX4_syllable_24 (by decide) ?_
    exact f_iret X hh ⟨(if_neg c_1).symm, hR, FrC.rf⟩ dX4_syllable_25
set_option maxHeartbeats 4000000 in
set_option maxRecDepth 100000 in
theorem c4_note (l : Launch) (G : GG) {σ : Mem} {a : AS} (x i v : Int32) (hA : AOK a) (hR : RC σ a) : Ci l G yX4_note cX4_note 4 (some .int) 2 44 [.ref (gad G 81), .int x, .int i, .int v] σ (fun r τ => r = sp_note x i v a ∧ RC τ a ∧ FrC σ τ) := by
  refine Ci.of (own := RX4) (by decide) rfl (Nat.le_of_ble_eq_true rfl) (fun p e s m args below meth c ls H locs X hl hh => ?_)
  have hl : lv_has ls 4 [(0, .ref (gad G 81)), (1, .int x), (2, .int i), (3, .int v)] := hl
  refine lv_iload_n X.x X.b dX4_note_0 rfl (lv_at hl 1 rfl) ?_
  refine f_scalli X hh (c4_isTune l G x) mf_yX4_isTune ks_yX4_isTune km_X4_74 rfl hl.1 [] rfl (Nat.le_of_ble_eq_true rfl) ⟨by decide, by decide⟩ ⟨Nat.zero_le _, Nat.zero_le _⟩ dX4_note_1 (fun r τ H locs hq hh => ?_)
  obtain ⟨rfl, hτ⟩ := hq
  rw [hτ] at hh
  clear hτ
  by_cases c_1 : inB x 0 3
  · rw [show (if inB x 0 3 then (1 : Int32) else 0) = 1 from if_pos c_1]
    obtain ⟨k, ha_k, hb_k, rfl⟩ := inB_of c_1 (by decide)
    refine lv_if_eq (tgt := 24) X.x X.b dX4_note_4 (by decide) (fun h9 => absurd h9 (by decide)) (fun _ => ?_)
    refine lv_aload_n X.x X.b dX4_note_7 rfl (lv_at hl 0 rfl) ?_
    refine f_get X hh (v := .ref (gad G 69)) (sh_81 G _) (by decide) rfl in_X4 1 (by decide) kf_X4_19 rfl dX4_note_8 ?_
    refine f_get X hh (v := .ref (gad G 71)) (sh_69 G _) (by decide) rfl in_X0 1 (by decide) kf_X4_77 rfl dX4_note_11 ?_
    refine lv_iload_n X.x X.b dX4_note_14 rfl (lv_at hl 1 rfl) ?_
    refine f_aald X hh (j := k) 2 (sh_71 G _) rfl rfl (by decide) rfl (by omega) (by decide) dX4_note_15 ?_
    refine lv_iload_n X.x X.b dX4_note_16 rfl (lv_at hl 2 rfl) ?_
    refine lv_iload_n X.x X.b dX4_note_17 rfl (lv_at hl 3 rfl) ?_
    refine f_scalli X hh (c4_partOf l G (q := 7 * 0 + (3 + k)) i v (by omega) (hR.2.1.1 _ (by omega))) mf_yX4_partOf ks_yX4_partOf km_X4_87 rfl hl.1 [] rfl (Nat.le_of_ble_eq_true rfl) ⟨by decide, by decide⟩ ⟨Nat.zero_le _, Nat.zero_le _⟩ dX4_note_18 (fun r τ H locs hq hh => ?_)
    obtain ⟨rfl, hτ⟩ := hq
    rw [hτ] at hh
    clear hτ
    refine lv_goto (tgt := 25) X.x X.b dX4_note_21 (by decide) ?_
    exact f_iret X hh ⟨by unfold sp_note; rw [if_pos c_1, ix_nI (by omega)], hR, FrC.rf⟩ dX4_note_25
  · rw [show (if inB x 0 3 then (1 : Int32) else 0) = 0 from if_neg c_1]
    refine lv_if_eq (tgt := 24) X.x X.b dX4_note_4 (by decide) (fun _ => ?_) (fun h9 => absurd (show _ by decide) h9)
    refine lv_iconst (v := (-1)) X.x X.b dX4_note_24 (by decide) ?_
    exact f_iret X hh ⟨(if_neg c_1).symm, hR, FrC.rf⟩ dX4_note_25
