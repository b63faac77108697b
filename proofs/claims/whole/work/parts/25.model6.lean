/-! the model's public methods on layings -/
theorem lw_tk0 {I : LI} {i j k : Nat} (h : (tsa I (TT I) i j k).2.2.1 = 0) : (tsa I (TT I) i j k).2.2.2 = 0 := by
  induction k with
  | zero => exact h
  | succ k ih =>
    by_cases hc : can I k i j = true
    · have e := tsa_c hc
      rw [e] at h ⊢
      rw [tk_wy] at h
      unfold tk
      rw [if_pos (by omega)]
      exact ih (by omega)
    · rw [tsa_n hc] at h ⊢
      exact ih h
theorem wy0_eq {I : LI} (hB : LB I) : nI (TT I 0 0).2.2.1 = wy0 I := by
  unfold wy0
  by_cases h : (iN I = 0 ↔ iM I = 0)
  · rw [if_pos h]
  · rw [if_neg h, (TT_L hB).mpr h]
theorem lw0_eq {I : LI} (hB : LB I) : nI (TT I 0 0).2.2.2 = lw0 I := by
  unfold lw0
  by_cases h : (iN I = 0 ↔ iM I = 0)
  · rw [if_pos h]
  · rw [if_neg h]
    have h1 := (TT_L hB).mpr h
    rw [TT_n0 hB] at h1 ⊢
    rw [lw_tk0 h1]
theorem hasL_of {I : LI} (hB : LB I) (h : ¬ (TT I 0 0).2.2.1 = 0) : (iN I = 0 ↔ iM I = 0) := Classical.byContradiction fun q => h ((TT_L hB).mpr q)
theorem dn_add (a b : Nat) : dn a + nI b = dn (a + b) := by
  unfold dn
  rw [← nI_add, Int32.add_assoc, Int32.add_assoc, Int32.add_comm (-1)]
theorem dn_eq {q y : Nat} (hq : q < 2 ^ 30) (hy : y < 2 ^ 30) : dn q = nI y ↔ q = y + 1 := by
  cases q with
  | zero => rw [dn_0]; exact ⟨fun h => absurd h.symm (nI_m1 (by omega)), fun h => by omega⟩
  | succ q => rw [dn_s, nI_eq (by omega) (by omega)]; omega
theorem ho_fo {I : LI} {y : Nat} : ∀ {k : Nat}, ho I y k = 0 ↔ fo I y k = none
  | 0 => ⟨fun _ => rfl, fun _ => rfl⟩
  | k + 1 => by
    have ih := ho_fo (I := I) (y := y) (k := k)
    have eh : ho I y (k + 1) = ho I y k + (if (pth I (k + 1)).2 = y + 1 then 1 else 0) := rfl
    have ef : fo I y (k + 1) = if (fo I y k).isNone ∧ (pth I (k + 1)).2 = y + 1 then some ((pth I (k + 1)).1 - 1) else fo I y k := rfl
    rw [eh, ef]
    by_cases h : (pth I (k + 1)).2 = y + 1
    · rw [if_pos h]
      by_cases h2 : (fo I y k).isNone = true
      · rw [if_pos ⟨h2, h⟩]; exact ⟨fun q => by omega, fun q => by cases q⟩
      · rw [if_neg (fun q => h2 q.1)]
        exact ⟨fun q => by omega, fun q => absurd (by rw [q]; rfl) h2⟩
    · rw [if_neg h, if_neg (fun q => h q.2)]
      exact ih
theorem vsum_le {a : AS} (hA : AOK a) {j : Nat} (hj : j < 4) : ∀ {k : Nat}, k ≤ 3 → vsum a j k ≤ 540 * k
  | 0, _ => Nat.le_refl 0
  | k + 1, hk => by
    have h := vsum_le hA hj (k := k) (by omega)
    show vsum a j k + (if bN (aB a) k = 0 then 0 else (TT (inst a k j) 0 0).1) ≤ _
    have h1 := (TT_b (inst_ok hA (show k < 3 by omega) hj) (Nat.zero_le _) (Nat.zero_le _)).1
    split <;> omega
theorem m6_lt : (-6 : Int32) < 0 := by decide
theorem vsN_lt {a : AS} (hA : AOK a) {j : Nat} (hj : j < 4) : vsN a j < 0 ↔ vsN a j = -6 := by
  unfold vsN
  split
  · exact ⟨fun _ => rfl, fun _ => m6_lt⟩
  · have := vsum_le hA hj (k := 3) (by decide)
    exact ⟨fun h => absurd h (nI_pos (by omega)), fun h => absurd h (nI_m6 (by omega))⟩
theorem bst_lt {f : Nat → Int32} : ∀ {k : Nat}, k < 2 ^ 31 → ((bst f k).1 < 0 ↔ (bst f k).2 = -6)
  | 0, _ => ⟨fun _ => rfl, fun _ => m6_lt⟩
  | k + 1, hk => by
    show ((if f k ≠ -6 ∧ ((bst f k).2 = -6 ∨ f k < (bst f k).2) then (nI k, f k) else bst f k).1 < 0 ↔ (if f k ≠ -6 ∧ ((bst f k).2 = -6 ∨ f k < (bst f k).2) then (nI k, f k) else bst f k).2 = -6)
    by_cases h : f k ≠ -6 ∧ ((bst f k).2 = -6 ∨ f k < (bst f k).2)
    · rw [if_pos h]; exact ⟨fun q => absurd q (nI_pos (by omega)), fun q => absurd q h.1⟩
    · rw [if_neg h]; exact bst_lt (by omega)
theorem anw_ne {f : Nat → Nat → Int32} {c0 : Int32} (h0 : c0 ≠ -6) : ∀ {e : Nat}, (anw f c0 e).2.2 ≠ -6
  | 0 => h0
  | e + 1 => by
    show (if f (e / 3) (e % 3) ≠ -6 ∧ ((anw f c0 e).2.2 = -6 ∨ f (e / 3) (e % 3) < (anw f c0 e).2.2) then (nI (e / 3), nI (e % 3), f (e / 3) (e % 3)) else anw f c0 e).2.2 ≠ -6
    by_cases h : f (e / 3) (e % 3) ≠ -6 ∧ ((anw f c0 e).2.2 = -6 ∨ f (e / 3) (e % 3) < (anw f c0 e).2.2)
    · rw [if_pos h]; exact h.1
    · rw [if_neg h]; exact anw_ne h0
theorem anw_lt {f : Nat → Nat → Int32} {c0 : Int32} : ∀ {e : Nat}, e < 2 ^ 31 → ((anw f c0 e).1 < 0 ↔ (anw f c0 e).1 = -6)
  | 0, _ => ⟨fun _ => rfl, fun _ => m6_lt⟩
  | e + 1, he => by
    show ((if f (e / 3) (e % 3) ≠ -6 ∧ ((anw f c0 e).2.2 = -6 ∨ f (e / 3) (e % 3) < (anw f c0 e).2.2) then (nI (e / 3), nI (e % 3), f (e / 3) (e % 3)) else anw f c0 e).1 < 0 ↔ (if f (e / 3) (e % 3) ≠ -6 ∧ ((anw f c0 e).2.2 = -6 ∨ f (e / 3) (e % 3) < (anw f c0 e).2.2) then (nI (e / 3), nI (e % 3), f (e / 3) (e % 3)) else anw f c0 e).1 = -6)
    by_cases h : f (e / 3) (e % 3) ≠ -6 ∧ ((anw f c0 e).2.2 = -6 ∨ f (e / 3) (e % 3) < (anw f c0 e).2.2)
    · rw [if_pos h]; exact ⟨fun q => absurd q (nI_pos (by omega)), fun q => absurd q (nI_m6 (by omega))⟩
    · rw [if_neg h]; exact anw_lt (by omega)
/-- where none is found, nothing is told -/
theorem anw_no {f : Nat → Nat → Int32} {c0 : Int32} : ∀ {e : Nat}, (anw f c0 e).1 = -6 → e < 2 ^ 31 → (anw f c0 e).2.1 = -6
  | 0, _, _ => rfl
  | e + 1, h, he => by
    have e1 : anw f c0 (e + 1) = if f (e / 3) (e % 3) ≠ -6 ∧ ((anw f c0 e).2.2 = -6 ∨ f (e / 3) (e % 3) < (anw f c0 e).2.2) then (nI (e / 3), nI (e % 3), f (e / 3) (e % 3)) else anw f c0 e := rfl
    rw [e1] at h ⊢
    by_cases hc : f (e / 3) (e % 3) ≠ -6 ∧ ((anw f c0 e).2.2 = -6 ∨ f (e / 3) (e % 3) < (anw f c0 e).2.2)
    · rw [if_pos hc] at h; exact absurd h (nI_m6 (by omega))
    · rw [if_neg hc] at h ⊢; exact anw_no h (by omega)
theorem anw_all {f : Nat → Nat → Int32} (h : ∀ s v, f s v = -6) : ∀ {e : Nat}, anw f (-6) e = (-6, -6, -6)
  | 0 => rfl
  | e + 1 => by
    show (if f (e / 3) (e % 3) ≠ -6 ∧ _ then _ else anw f (-6) e) = _
    rw [if_neg (fun q => q.1 (h _ _))]; exact anw_all h
theorem MLM.st {σ : Mem} {a : AS} {i j q u : Nat} (h : MLM σ (inst a i j)) : MLM (mset σ 139 q (nI u)) (instA a i j q u) := by
  obtain ⟨h1, h2, h3, h4, h5⟩ := h
  refine ⟨by rw [mset_n (by decide)]; exact h1, by rw [mset_n (by decide)]; exact h2, fun x hx => ⟨?_, ?_⟩, fun x hx => by rw [mset_n (by decide), mset_n (by decide)]; exact h4 x hx, fun x hx => by rw [mset_n (by decide)]; exact h5 x hx⟩
  · show _ = nI (if x = q then u else bW (aB a) i x)
    by_cases e : x = q
    · subst e; rw [mset_ss, if_pos rfl]
    · rw [mset_sn e, if_neg e]; exact (h3 x hx).1
  · rw [mset_n (by decide)]; exact (h3 x hx).2
theorem MLM.eq {σ τ : Mem} {I : LI} (h : MLM σ I) (e : ∀ c, c = 134 ∨ c = 135 ∨ (139 ≤ c ∧ c ≤ 142) → τ c = σ c) : MLM τ I := by
  obtain ⟨h1, h2, h3, h4, h5⟩ := h
  exact ⟨by rw [e 134 (by decide)]; exact h1, by rw [e 134 (by decide)]; exact h2, fun i hi => by rw [e 139 (by decide), e 140 (by decide)]; exact h3 i hi, fun i hi => by rw [e 141 (by decide), e 142 (by decide)]; exact h4 i hi, fun i hi => by rw [e 135 (by decide)]; exact h5 i hi⟩
theorem mset_2 {σ : Mem} {k f : Nat} {x y : Int32} : mset (mset σ k f x) k f y = mset σ k f y := by
  funext c
  by_cases h : c = k
  · subst h
    funext z
    by_cases hz : z = f
    · subst hz; rw [mset_ss, mset_ss]
    · rw [mset_sn hz, mset_sn hz, mset_sn hz]
  · rw [mset_n h, mset_n h, mset_n h]
theorem MLM.un {σ : Mem} {a : AS} {i j q : Nat} (h : MLM (mset σ 139 q (nI (bW (aB a) i q))) (instA a i j q (bW (aB a) i q))) : MLM (mset σ 139 q (nI (bW (aB a) i q))) (inst a i j) := by
  obtain ⟨h1, h2, h3, h4, h5⟩ := h
  refine ⟨h1, h2, fun x hx => ⟨?_, (h3 x hx).2⟩, h4, h5⟩
  have h6 : _ = nI (if x = q then bW (aB a) i q else bW (aB a) i x) := (h3 x hx).1
  by_cases e : x = q
  · subst e; rw [if_pos rfl] at h6; exact h6
  · rw [if_neg e] at h6; exact h6
set_option maxHeartbeats 4000000 in
set_option maxRecDepth 100000 in
theorem c5_go0 (l : Launch) (G : GG) {σ : Mem} {a : AS} {k t : Nat} (hA : AOK a) (hR : RM σ a) (hk0 : k < 3) (ht0 : t < 4) : Cv l G yX5_go cX5_go 4 4 96 [.ref (gad G 134), .int (nI k), .int (nI t), .int (nI 0)] σ (fun τ => MLM τ (inst a k t) ∧ MT τ (inst a k t) ∧ FrN σ τ) := by
  refine Cv.of (own := RX5) (by decide) rfl (Nat.le_of_ble_eq_true rfl) (fun p e s m args below meth c ls H locs X hl hh => ?_)
  have hl : lv_has ls 4 [(0, .ref (gad G 134)), (1, .int (nI k)), (2, .int (nI t)), (3, .int (nI 0))] := hl
  refine lv_aload_n X.x X.b dX5_go_0 rfl (lv_at hl 0 rfl) ?_
  refine lv_iload_n X.x X.b dX5_go_1 rfl (lv_at hl 1 rfl) ?_
  refine lv_iload_n X.x X.b dX5_go_2 rfl (lv_at hl 2 rfl) ?_
  refine lv_iload_n X.x X.b dX5_go_3 rfl (lv_at hl 3 rfl) ?_
  refine f_callv X hh (c5_lay l G (u := 0) hA hR hk0 ht0 (by decide)) mf_yX5_lay ki_yX5_lay kl_yX5_lay km_X5_106 (sh_134 G _) (by decide) rfl rfl hl.1 [] rfl (Nat.le_of_ble_eq_true rfl) ⟨by decide, by decide⟩ ⟨Nat.zero_le _, Nat.zero_le _⟩ dX5_go_4 (fun τ H locs hq hh => ?_)
  obtain ⟨hM0, hf1⟩ := hq
  have hM1 := hM0.z
  refine lv_aload_n X.x X.b dX5_go_7 rfl (lv_at hl 0 rfl) ?_
  refine f_callv X hh (c5_layTable l G (inst_ok hA hk0 ht0) hM1) mf_yX5_layTable ki_yX5_layTable kl_yX5_layTable km_X5_109 (sh_134 G _) (by decide) rfl rfl hl.1 [] rfl (Nat.le_of_ble_eq_true rfl) ⟨by decide, by decide⟩ ⟨Nat.zero_le _, Nat.zero_le _⟩ dX5_go_8 (fun τ H locs hq hh => ?_)
  obtain ⟨hT2, hf2⟩ := hq
  exact f_vret X hh ⟨hM1.ku hf2, hT2, hf1.tr hf2.n⟩ dX5_go_11
set_option maxHeartbeats 4000000 in
set_option maxRecDepth 100000 in
theorem c5_stepOf (l : Launch) (G : GG) {σ : Mem} {x : Nat} (hx : x < 2 ^ 31) : Ci l G yX5_stepOf cX5_stepOf 1 (some .int) 0 0 [.int (nI x)] σ (fun r τ => r = (if isS x = true then nI (sN x) else -6) ∧ τ = σ) := by
  refine Ci.of (own := RX5) (by decide) rfl (Nat.le_of_ble_eq_true rfl) (fun p e s m args below meth c ls H locs X hl hh => ?_)
  have hl : lv_has ls 1 [(0, .int (nI x))] := hl
  refine lv_iload_n X.x X.b dX5_stepOf_0 rfl (lv_at hl 0 rfl) ?_
  refine lv_bipush (v := nI 111) X.x X.b dX5_stepOf_1 (by decide) ?_
  refine lv_icmp_ne (tgt := 10) X.x X.b dX5_stepOf_3 (by decide) (fun c_1 => ?_) (fun c_1 => ?_)
  · have c_1 : ¬ x = 111 := fun q9 => c_1 ((nI_eq (a := x) (b := 111) (by omega) (by omega)).mpr q9)
    refine lv_iload_n X.x X.b dX5_stepOf_10 rfl (lv_at hl 0 rfl) ?_
    refine lv_bipush (v := nI 104) X.x X.b dX5_stepOf_11 (by decide) ?_
    refine lv_icmp_ne (tgt := 20) X.x X.b dX5_stepOf_13 (by decide) (fun c_2 => ?_) (fun c_2 => ?_)
    · have c_2 : ¬ x = 104 := fun q9 => c_2 ((nI_eq (a := x) (b := 104) (by omega) (by omega)).mpr q9)
      refine lv_iload_n X.x X.b dX5_stepOf_20 rfl (lv_at hl 0 rfl) ?_
      refine lv_bipush (v := nI 115) X.x X.b dX5_stepOf_21 (by decide) ?_
      refine lv_icmp_ne (tgt := 30) X.x X.b dX5_stepOf_23 (by decide) (fun c_3 => ?_) (fun c_3 => ?_)
      · have c_3 : ¬ x = 115 := fun q9 => c_3 ((nI_eq (a := x) (b := 115) (by omega) (by omega)).mpr q9)
        refine lv_bipush (v := (-6)) X.x X.b dX5_stepOf_30 (by decide) ?_
        exact f_iret X hh ⟨(if_neg (by simp [isS]; omega)).symm, rfl⟩ dX5_stepOf_32
      · have c_3 : x = 115 := (nI_eq (a := x) (b := 115) (by omega) (by omega)).mp c_3
        refine lv_iconst (v := nI 2) X.x X.b dX5_stepOf_26 (by decide) ?_
        refine lv_goto (tgt := 32) X.x X.b dX5_stepOf_27 (by decide) ?_
        exact f_iret X hh ⟨by rw [if_pos (by simp [isS]; omega)]; unfold sN; rw [if_neg (by omega), if_neg (by omega)], rfl⟩ dX5_stepOf_32
    · have c_2 : x = 104 := (nI_eq (a := x) (b := 104) (by omega) (by omega)).mp c_2
      refine lv_iconst (v := nI 1) X.x X.b dX5_stepOf_16 (by decide) ?_
      refine lv_goto (tgt := 32) X.x X.b dX5_stepOf_17 (by decide) ?_
      exact f_iret X hh ⟨by rw [if_pos (by simp [isS]; omega)]; unfold sN; rw [if_neg (by omega), if_pos (by omega)], rfl⟩ dX5_stepOf_32
  · have c_1 : x = 111 := (nI_eq (a := x) (b := 111) (by omega) (by omega)).mp c_1
    refine lv_iconst (v := nI 0) X.x X.b dX5_stepOf_6 (by decide) ?_
    refine lv_goto (tgt := 32) X.x X.b dX5_stepOf_7 (by decide) ?_
    exact f_iret X hh ⟨by rw [if_pos (by simp [isS]; omega)]; unfold sN; rw [if_pos (by omega)], rfl⟩ dX5_stepOf_32
set_option maxHeartbeats 4000000 in
set_option maxRecDepth 100000 in
theorem c5_cost (l : Launch) (G : GG) {σ : Mem} {a : AS} (x y : Int32) (hA : AOK a) (hR : RM σ a) : Ci l G yX5_cost cX5_cost 8 (some .int) 2 46 [.ref (gad G 134), .int x, .int y] σ (fun r τ => r = sp_cost x y a ∧ RM τ a ∧ FrM σ τ) := by
  refine Ci.of (own := RX5) (by decide) rfl (Nat.le_of_ble_eq_true rfl) (fun p e s m args below meth c ls H locs X hl hh => ?_)
  have hn := hA.1
  have hg := hA.2.1
  have hl : lv_has ls 8 [(0, .ref (gad G 134)), (1, .int x), (2, .int y)] := hl
  refine lv_iload_n X.x X.b dX5_cost_0 rfl (lv_at hl 1 rfl) ?_
  refine f_scalli X hh (c5_isLine l G x) mf_yX5_isLine ks_yX5_isLine km_X5_68 rfl hl.1 [] rfl (Nat.le_of_ble_eq_true rfl) ⟨by decide, by decide⟩ ⟨Nat.zero_le _, Nat.zero_le _⟩ dX5_cost_1 (fun r τ H locs hq hh => ?_)
  obtain ⟨rfl, hτ⟩ := hq
  rw [hτ] at hh
  clear hτ
  by_cases c_1 : inB x 0 2
  · rw [show (if inB x 0 2 then (1 : Int32) else 0) = 1 from if_pos c_1]
    obtain ⟨i, ha_i, hb_i, rfl⟩ := inB_of c_1 (by decide)
    refine lv_if_eq (tgt := 14) X.x X.b dX5_cost_4 (by decide) (fun h9 => absurd h9 (by decide)) (fun _ => ?_)
    refine lv_iload_n X.x X.b dX5_cost_7 rfl (lv_at hl 2 rfl) ?_
    refine f_scalli X hh (c5_isTune l G y) mf_yX5_isTune ks_yX5_isTune km_X5_72 rfl hl.1 [] rfl (Nat.le_of_ble_eq_true rfl) ⟨by decide, by decide⟩ ⟨Nat.zero_le _, Nat.zero_le _⟩ dX5_cost_8 (fun r τ H locs hq hh => ?_)
    obtain ⟨rfl, hτ⟩ := hq
    rw [hτ] at hh
    clear hτ
    by_cases c_3 : inB y 0 3
    · rw [show (if inB y 0 3 then (1 : Int32) else 0) = 1 from if_pos c_3]
      obtain ⟨j, ha_j, hb_j, rfl⟩ := inB_of c_3 (by decide)
      refine lv_if_ne (tgt := 16) X.x X.b dX5_cost_11 (by decide) (fun _ => ?_) (fun h9 => absurd h9 (by decide))
      have hkn : kno (nI i) (nI j) := ⟨c_1, c_3⟩
      have hI := inst_ok hA (show i < 3 by omega) (show j < 4 by omega)
      have ei := ix_nI (show i < 2 ^ 31 by omega)
      have ej := ix_nI (show j < 2 ^ 31 by omega)
      have hbn1 := hI.1
      have hbn2 := hI.2.1
      have hbn3 : bN (aB a) i ≤ 9 := hI.1
      have hbn4 : bN (aB a) (3 + j) ≤ 11 := hI.2.1
      have lp1 : ∀ (k q : Nat), (∀ z, z < q → isS (apg a z) = true) → apn a - q = k → q ≤ apn a → ∀ (ls : Array Slot) (H : Heap) (locs : List Loc), lv_has ls 8 [(3, .int (nI q)), (0, .ref (gad G 134)), (1, .int (nI i)), (2, .int (nI j))] → HH G s σ H locs → WI l G p e s m args below meth c 2 46 (fun r τ => r = sp_cost (nI i) (nI j) a ∧ RM τ a ∧ FrM σ τ) H locs (F0 m 18 ls []) := by
        intro km
        induction km using Nat.strongRecOn with
        | ind km ih =>
          intro q ho hk hq ls H locs hl hh
          have hg2 := hg q
          refine lv_iload_n X.x X.b dX5_cost_18 rfl (lv_at hl 0 rfl) ?_
          refine lv_aload_n X.x X.b dX5_cost_19 rfl (lv_at hl 1 rfl) ?_
          refine f_geti X hh (x := nI (apn a)) (sh_134 G _) (by decide) rfl in_X5 4 (by decide) kf_X5_54 rfl hR.1.1 dX5_cost_20 ?_
          refine lv_icmp_ge (tgt := 47) X.x X.b dX5_cost_23 (by decide) (fun c_5 => ?_) (fun c_5 => ?_)
          · have c_5 : (apn a) ≤ q := (nI_leI (a := (apn a)) (b := q) (by omega) (by omega)).mp c_5
            have hS : ∀ z, z < apn a → isS (apg a z) = true := fun z hz => ho z (by omega)
            refine lv_aload_n X.x X.b dX5_cost_47 rfl (lv_at hl 1 rfl) ?_
            refine lv_iload_n X.x X.b dX5_cost_48 rfl (lv_at hl 2 rfl) ?_
            refine lv_iload_n X.x X.b dX5_cost_49 rfl (lv_at hl 3 rfl) ?_
            refine lv_iconst (v := nI 0) X.x X.b dX5_cost_50 (by decide) ?_
            refine f_callv X hh (c5_lay l G (u := 0) hA hR (by omega) (by omega) (by decide)) mf_yX5_lay ki_yX5_lay kl_yX5_lay km_X5_106 (sh_134 G _) (by decide) rfl rfl hl.1 [] rfl (Nat.le_of_ble_eq_true rfl) ⟨by decide, by decide⟩ ⟨Nat.zero_le _, Nat.zero_le _⟩ dX5_cost_51 (fun τ H locs hq hh => ?_)
            obtain ⟨hM0, hf1⟩ := hq
            have hM1 := hM0.z
            have hR1 := hR.kn hf1
            refine lv_iconst (v := nI 0) X.x X.b dX5_cost_54 (by decide) ?_
            refine lv_istore_n (lv' := [(3, .int (nI 0)), (0, .ref (gad G 134)), (1, .int (nI i)), (2, .int (nI j))]) X.x X.b dX5_cost_55 rfl hl (by decide) rfl (fun ls hl => ?_)
            refine lv_iconst (v := nI 0) X.x X.b dX5_cost_56 (by decide) ?_
            refine lv_istore (lv' := [(4, .int (nI 0)), (3, .int (nI 0)), (0, .ref (gad G 134)), (1, .int (nI i)), (2, .int (nI j))]) X.x X.b dX5_cost_57 hl (by decide) rfl (fun ls hl => ?_)
            refine lv_iconst (v := nI 0) X.x X.b dX5_cost_59 (by decide) ?_
            refine lv_istore (lv' := [(5, .int (nI 0)), (4, .int (nI 0)), (3, .int (nI 0)), (0, .ref (gad G 134)), (1, .int (nI i)), (2, .int (nI j))]) X.x X.b dX5_cost_60 hl (by decide) rfl (fun ls hl => ?_)
            refine lv_iconst (v := nI 0) X.x X.b dX5_cost_62 (by decide) ?_
            refine lv_istore (lv' := [(6, .int (nI 0)), (5, .int (nI 0)), (4, .int (nI 0)), (3, .int (nI 0)), (0, .ref (gad G 134)), (1, .int (nI i)), (2, .int (nI j))]) X.x X.b dX5_cost_63 hl (by decide) rfl (fun ls hl => ?_)
            have lp2 : ∀ (k t u v w : Nat), apn a - t = k → t ≤ apn a → cofs (inst a i j) (apg a) t = some (u, v, w) → u ≤ iN (inst a i j) → v ≤ iM (inst a i j) → ∀ (ls : Array Slot) (H : Heap) (locs : List Loc), lv_has ls 8 [(6, .int (nI t)), (5, .int (nI w)), (4, .int (nI v)), (3, .int (nI u)), (0, .ref (gad G 134)), (1, .int (nI i)), (2, .int (nI j))] → HH G s τ H locs → WI l G p e s m args below meth c 2 46 (fun r τ => r = sp_cost (nI i) (nI j) a ∧ RM τ a ∧ FrM σ τ) H locs (F0 m 65 ls []) := by
              intro km
              induction km using Nat.strongRecOn with
              | ind km ih =>
                intro t u v w hk ht hcf hu hv0 ls H locs hl hh
                have hg2 := hg t
                refine lv_iload X.x X.b dX5_cost_65 (lv_at hl 0 rfl) ?_
                refine lv_aload_n X.x X.b dX5_cost_67 rfl (lv_at hl 4 rfl) ?_
                refine f_geti X hh (x := nI (apn a)) (sh_134 G _) (by decide) rfl in_X5 4 (by decide) kf_X5_54 rfl hR1.1.1 dX5_cost_68 ?_
                refine lv_icmp_ge (tgt := 139) X.x X.b dX5_cost_71 (by decide) (fun c_6 => ?_) (fun c_6 => ?_)
                · have c_6 : (apn a) ≤ t := (nI_leI (a := (apn a)) (b := t) (by omega) (by omega)).mp c_6
                  refine lv_iload_n X.x X.b dX5_cost_139 rfl (lv_at hl 3 rfl) ?_
                  refine lv_aload_n X.x X.b dX5_cost_140 rfl (lv_at hl 4 rfl) ?_
                  refine f_geti X hh (x := nI (iN (inst a i j))) (sh_134 G _) (by decide) rfl in_X5 9 (by decide) kf_X5_75 rfl hM1.1 dX5_cost_141 ?_
                  refine lv_icmp_ne (tgt := 161) X.x X.b dX5_cost_144 (by decide) (fun c_7 => ?_) (fun c_7 => ?_)
                  · have c_7 : ¬ u = (iN (inst a i j)) := fun q9 => c_7 ((nI_eq (a := u) (b := (iN (inst a i j))) (by omega) (by omega)).mpr q9)
                    refine lv_bipush (v := (-5)) X.x X.b dX5_cost_161 (by decide) ?_
                    exact f_iret X hh ⟨by unfold sp_cost; rw [if_pos hkn, if_pos hS, ei, ej]; obtain rfl : t = apn a := (by omega); unfold cres; rw [hcf]; exact (if_neg (by omega)).symm, hR1, hf1.m⟩ dX5_cost_163
                  · have c_7 : u = (iN (inst a i j)) := (nI_eq (a := u) (b := (iN (inst a i j))) (by omega) (by omega)).mp c_7
                    refine lv_iload X.x X.b dX5_cost_147 (lv_at hl 2 rfl) ?_
                    refine lv_aload_n X.x X.b dX5_cost_149 rfl (lv_at hl 4 rfl) ?_
                    refine f_geti X hh (x := nI (iM (inst a i j))) (sh_134 G _) (by decide) rfl in_X5 10 (by decide) kf_X5_78 rfl hM1.2.1 dX5_cost_150 ?_
                    refine lv_icmp_ne (tgt := 161) X.x X.b dX5_cost_153 (by decide) (fun c_8 => ?_) (fun c_8 => ?_)
                    · have c_8 : ¬ v = (iM (inst a i j)) := fun q9 => c_8 ((nI_eq (a := v) (b := (iM (inst a i j))) (by omega) (by omega)).mpr q9)
                      refine lv_bipush (v := (-5)) X.x X.b dX5_cost_161 (by decide) ?_
                      exact f_iret X hh ⟨by unfold sp_cost; rw [if_pos hkn, if_pos hS, ei, ej]; obtain rfl : t = apn a := (by omega); unfold cres; rw [hcf]; exact (if_neg (by omega)).symm, hR1, hf1.m⟩ dX5_cost_163
                    · have c_8 : v = (iM (inst a i j)) := (nI_eq (a := v) (b := (iM (inst a i j))) (by omega) (by omega)).mp c_8
                      refine lv_iload X.x X.b dX5_cost_156 (lv_at hl 1 rfl) ?_
                      refine lv_goto (tgt := 163) X.x X.b dX5_cost_158 (by decide) ?_
                      exact f_iret X hh ⟨by unfold sp_cost; rw [if_pos hkn, if_pos hS, ei, ej]; obtain rfl : t = apn a := (by omega); unfold cres; rw [hcf]; exact (if_pos ⟨by omega, by omega⟩).symm, hR1, hf1.m⟩ dX5_cost_163
                · have c_6 : ¬ (apn a) ≤ t := fun q9 => c_6 ((nI_leI (a := (apn a)) (b := t) (by omega) (by omega)).mpr q9)
                  refine lv_aload_n X.x X.b dX5_cost_74 rfl (lv_at hl 4 rfl) ?_
                  refine f_get X hh (v := .ref (gad G 138)) (sh_134 G _) (by decide) rfl in_X5 3 (by decide) kf_X5_20 rfl dX5_cost_75 ?_
                  refine lv_iload X.x X.b dX5_cost_78 (lv_at hl 0 rfl) ?_
                  refine f_ialdx X hh (j := t) (y := nI (apg a t)) (sh_138 G _) (by decide) rfl (by omega) (by decide) (hR1.1.2 _ (by omega)) dX5_cost_80 ?_
                  refine f_scalli X hh (c5_stepOf l G (x := apg a t) (by omega)) mf_yX5_stepOf ks_yX5_stepOf km_X5_112 rfl hl.1 [] rfl (Nat.le_of_ble_eq_true rfl) ⟨by decide, by decide⟩ ⟨Nat.zero_le _, Nat.zero_le _⟩ dX5_cost_81 (fun r τ H locs hq hh => ?_)
                  obtain ⟨rfl, hτ⟩ := hq
                  rw [hτ] at hh
                  clear hτ
                  rw [show (if isS (apg a t) = true then nI (sN (apg a t)) else -6) = nI (sN (apg a t)) from if_pos (hS t (by omega))]
                  have hsl := sN_lt (apg a t)
                  refine lv_istore (lv' := [(7, .int (nI (sN (apg a t)))), (6, .int (nI t)), (5, .int (nI w)), (4, .int (nI v)), (3, .int (nI u)), (0, .ref (gad G 134)), (1, .int (nI i)), (2, .int (nI j))]) X.x X.b dX5_cost_84 hl (by decide) rfl (fun ls hl => ?_)
                  refine lv_aload_n X.x X.b dX5_cost_86 rfl (lv_at hl 5 rfl) ?_
                  refine lv_iload X.x X.b dX5_cost_87 (lv_at hl 0 rfl) ?_
                  refine lv_iload_n X.x X.b dX5_cost_89 rfl (lv_at hl 4 rfl) ?_
                  refine lv_iload X.x X.b dX5_cost_90 (lv_at hl 3 rfl) ?_
                  refine f_calli X hh (c5_canStep l G (I := inst a i j) (st := sN (apg a t)) (i := u) (j := v) hI hM1 (by omega) (by omega) (by omega)) mf_yX5_canStep ki_yX5_canStep kl_yX5_canStep km_X5_99 (sh_134 G _) (by decide) rfl rfl hl.1 [] rfl (Nat.le_of_ble_eq_true rfl) ⟨by decide, by decide⟩ ⟨Nat.zero_le _, Nat.zero_le _⟩ dX5_cost_92 (fun r τ H locs hq hh => ?_)
                  obtain ⟨rfl, hτ⟩ := hq
                  rw [hτ] at hh
                  clear hτ
                  by_cases c_9 : can (inst a i j) (sN (apg a t)) u v = true
                  · rw [show (if can (inst a i j) (sN (apg a t)) u v = true then (1 : Int32) else 0) = 1 from if_pos c_9]
                    have hnx := can_next (by omega) c_9 hu hv0
                    refine lv_if_ne (tgt := 101) X.x X.b dX5_cost_95 (by decide) (fun _ => ?_) (fun h9 => absurd h9 (by decide))
                    refine lv_iload X.x X.b dX5_cost_101 (lv_at hl 2 rfl) ?_
                    refine lv_aload_n X.x X.b dX5_cost_103 rfl (lv_at hl 5 rfl) ?_
                    refine lv_iload X.x X.b dX5_cost_104 (lv_at hl 0 rfl) ?_
                    refine lv_iload_n X.x X.b dX5_cost_106 rfl (lv_at hl 4 rfl) ?_
                    refine lv_iload X.x X.b dX5_cost_107 (lv_at hl 3 rfl) ?_
                    refine f_calli X hh (c5_costOf l G (I := inst a i j) (st := sN (apg a t)) (i := u) (j := v) hI hM1 (by omega) c_9 (by omega) (by omega)) mf_yX5_costOf ki_yX5_costOf kl_yX5_costOf km_X5_95 (sh_134 G _) (by decide) rfl rfl hl.1 [.int (nI w)] rfl (Nat.le_of_ble_eq_true rfl) ⟨by decide, by decide⟩ ⟨Nat.zero_le _, Nat.zero_le _⟩ dX5_cost_109 (fun r τ H locs hq hh => ?_)
                    obtain ⟨rfl, hτ⟩ := hq
                    rw [hτ] at hh
                    clear hτ
                    refine f_iadd X (z := nI (w + cst (inst a i j) (sN (apg a t)) u v)) (nI_add w (cst (inst a i j) (sN (apg a t)) u v)) dX5_cost_112 ?_
                    refine lv_istore (lv' := [(5, .int (nI (w + cst (inst a i j) (sN (apg a t)) u v))), (7, .int (nI (sN (apg a t)))), (6, .int (nI t)), (4, .int (nI v)), (3, .int (nI u)), (0, .ref (gad G 134)), (1, .int (nI i)), (2, .int (nI j))]) X.x X.b dX5_cost_113 hl (by decide) rfl (fun ls hl => ?_)
                    refine lv_iload_n X.x X.b dX5_cost_115 rfl (lv_at hl 4 rfl) ?_
                    refine lv_iload X.x X.b dX5_cost_116 (lv_at hl 1 rfl) ?_
                    refine f_scalli X hh (c5_syllablesOf l G (st := sN (apg a t)) (by omega)) mf_yX5_syllablesOf ks_yX5_syllablesOf km_X5_88 rfl hl.1 [.int (nI u)] rfl (Nat.le_of_ble_eq_true rfl) ⟨by decide, by decide⟩ ⟨Nat.zero_le _, Nat.zero_le _⟩ dX5_cost_118 (fun r τ H locs hq hh => ?_)
                    obtain ⟨rfl, hτ⟩ := hq
                    rw [hτ] at hh
                    clear hτ
                    refine f_iadd X (z := nI (u + di (sN (apg a t)))) (nI_add u (di (sN (apg a t)))) dX5_cost_121 ?_
                    refine lv_istore_n (lv' := [(3, .int (nI (u + di (sN (apg a t))))), (5, .int (nI (w + cst (inst a i j) (sN (apg a t)) u v))), (7, .int (nI (sN (apg a t)))), (6, .int (nI t)), (4, .int (nI v)), (0, .ref (gad G 134)), (1, .int (nI i)), (2, .int (nI j))]) X.x X.b dX5_cost_122 rfl hl (by decide) rfl (fun ls hl => ?_)
                    refine lv_iload X.x X.b dX5_cost_123 (lv_at hl 4 rfl) ?_
                    refine lv_iload X.x X.b dX5_cost_125 (lv_at hl 2 rfl) ?_
                    refine f_scalli X hh (c5_notesOf l G (st := sN (apg a t)) (by omega)) mf_yX5_notesOf ks_yX5_notesOf km_X5_92 rfl hl.1 [.int (nI v)] rfl (Nat.le_of_ble_eq_true rfl) ⟨by decide, by decide⟩ ⟨Nat.zero_le _, Nat.zero_le _⟩ dX5_cost_127 (fun r τ H locs hq hh => ?_)
                    obtain ⟨rfl, hτ⟩ := hq
                    rw [hτ] at hh
                    clear hτ
                    refine f_iadd X (z := nI (v + dj (sN (apg a t)))) (nI_add v (dj (sN (apg a t)))) dX5_cost_130 ?_
                    refine lv_istore (lv' := [(4, .int (nI (v + dj (sN (apg a t))))), (3, .int (nI (u + di (sN (apg a t))))), (5, .int (nI (w + cst (inst a i j) (sN (apg a t)) u v))), (7, .int (nI (sN (apg a t)))), (6, .int (nI t)), (0, .ref (gad G 134)), (1, .int (nI i)), (2, .int (nI j))]) X.x X.b dX5_cost_131 hl (by decide) rfl (fun ls hl => ?_)
                    refine lv_iinc (v := nI (t + 1)) (lv' := [(6, .int (nI (t + 1))), (4, .int (nI (v + dj (sN (apg a t))))), (3, .int (nI (u + di (sN (apg a t))))), (5, .int (nI (w + cst (inst a i j) (sN (apg a t)) u v))), (7, .int (nI (sN (apg a t)))), (0, .ref (gad G 134)), (1, .int (nI i)), (2, .int (nI j))]) X.x X.b dX5_cost_133 hl (k := 4) rfl (nI_1 t) (by decide) rfl (fun ls hl => ?_)
                    refine lv_goto (tgt := 65) X.x X.b dX5_cost_136 (by decide) ?_
                    exact ih (apn a - (t + 1)) (by omega) (t + 1) _ _ _ rfl (by omega) (cofs_s hcf c_9) hnx.1 hnx.2 ls H locs (lv_sub hl [0, 3, 1, 2, 5, 6, 7] rfl) hh
                  · rw [show (if can (inst a i j) (sN (apg a t)) u v = true then (1 : Int32) else 0) = 0 from if_neg c_9]
                    refine lv_if_ne (tgt := 101) X.x X.b dX5_cost_95 (by decide) (fun h9 => absurd (show _ by decide) h9) (fun _ => ?_)
                    refine lv_bipush (v := (-5)) X.x X.b dX5_cost_98 (by decide) ?_
                    exact f_iret X hh ⟨by unfold sp_cost; rw [if_pos hkn, if_pos hS, ei, ej]; unfold cres; have e9 := cofs_n hcf c_9 (apn a - (t + 1)); rw [show t + 1 + (apn a - (t + 1)) = apn a by omega] at e9; rw [e9], hR1, hf1.m⟩ dX5_cost_100
            exact lp2 (apn a) 0 0 0 0 rfl (by omega) rfl (by omega) (by omega) ls H locs (lv_sub hl [0, 1, 2, 3, 4, 5, 6] rfl) hh
          · have c_5 : ¬ (apn a) ≤ q := fun q9 => c_5 ((nI_leI (a := (apn a)) (b := q) (by omega) (by omega)).mpr q9)
            refine lv_aload_n X.x X.b dX5_cost_26 rfl (lv_at hl 1 rfl) ?_
            refine f_get X hh (v := .ref (gad G 138)) (sh_134 G _) (by decide) rfl in_X5 3 (by decide) kf_X5_20 rfl dX5_cost_27 ?_
            refine lv_iload_n X.x X.b dX5_cost_30 rfl (lv_at hl 0 rfl) ?_
            refine f_ialdx X hh (j := q) (y := nI (apg a q)) (sh_138 G _) (by decide) rfl (by omega) (by decide) (hR.1.2 _ (by omega)) dX5_cost_31 ?_
            refine f_scalli X hh (c5_stepOf l G (x := apg a q) (by omega)) mf_yX5_stepOf ks_yX5_stepOf km_X5_112 rfl hl.1 [] rfl (Nat.le_of_ble_eq_true rfl) ⟨by decide, by decide⟩ ⟨Nat.zero_le _, Nat.zero_le _⟩ dX5_cost_32 (fun r τ H locs hq hh => ?_)
            obtain ⟨rfl, hτ⟩ := hq
            rw [hτ] at hh
            clear hτ
            by_cases hs9 : isS (apg a q) = true
            · rw [show (if isS (apg a q) = true then nI (sN (apg a q)) else -6) = nI (sN (apg a q)) from if_pos hs9]
              have hsl := sN_lt (apg a q)
              refine lv_if_ge (tgt := 41) X.x X.b dX5_cost_35 (by decide) (fun _ => ?_) (fun h9 => absurd h9 (fun q9 => q9 (nI_pos' (by omega))))
              refine lv_iinc (v := nI (q + 1)) (lv' := [(3, .int (nI (q + 1))), (0, .ref (gad G 134)), (1, .int (nI i)), (2, .int (nI j))]) X.x X.b dX5_cost_41 hl (k := 0) rfl (nI_1 q) (by decide) rfl (fun ls hl => ?_)
              refine lv_goto (tgt := 18) X.x X.b dX5_cost_44 (by decide) ?_
              refine ih (apn a - (q + 1)) (by omega) (q + 1) (fun z hz => ?_) rfl (by omega) ls H locs (lv_sub hl [0, 1, 2, 3] rfl) hh
              by_cases e9 : z = q
              · subst e9; exact hs9
              · exact ho z (by omega)
            · rw [show (if isS (apg a q) = true then nI (sN (apg a q)) else -6) = -6 from if_neg hs9]
              refine lv_if_ge (tgt := 41) X.x X.b dX5_cost_35 (by decide) (fun h9 => absurd h9 (by decide)) (fun _ => ?_)
              refine lv_bipush (v := (-7)) X.x X.b dX5_cost_38 (by decide) ?_
              exact f_iret X hh ⟨by unfold sp_cost; rw [if_pos hkn, if_neg (fun q9 => hs9 (q9 q (by omega)))], hR, FrM.rf⟩ dX5_cost_40
      refine lv_iconst (v := nI 0) X.x X.b dX5_cost_16 (by decide) ?_
      refine lv_istore_n (lv' := [(3, .int (nI 0)), (0, .ref (gad G 134)), (1, .int (nI i)), (2, .int (nI j))]) X.x X.b dX5_cost_17 rfl hl (by decide) rfl (fun ls hl => ?_)
      exact lp1 (apn a) 0 (fun z hz => absurd hz (Nat.not_lt_zero _)) rfl (by omega) ls H locs (lv_sub hl [0, 1, 2, 3] rfl) hh
    · rw [show (if inB y 0 3 then (1 : Int32) else 0) = 0 from if_neg c_3]
      refine lv_if_ne (tgt := 16) X.x X.b dX5_cost_11 (by decide) (fun h9 => absurd (show _ by decide) h9) (fun _ => ?_)
      refine lv_iconst (v := (-1)) X.x X.b dX5_cost_14 (by decide) ?_
      exact f_iret X hh ⟨(if_neg (fun q9 : kno _ _ => c_3 q9.2)).symm, hR, FrM.rf⟩ dX5_cost_15
  · rw [show (if inB x 0 2 then (1 : Int32) else 0) = 0 from if_neg c_1]
    refine lv_if_eq (tgt := 14) X.x X.b dX5_cost_4 (by decide) (fun _ => ?_) (fun h9 => absurd (show _ by decide) h9)
    refine lv_iconst (v := (-1)) X.x X.b dX5_cost_14 (by decide) ?_
    exact f_iret X hh ⟨(if_neg (fun q9 : kno _ _ => c_1 q9.1)).symm, hR, FrM.rf⟩ dX5_cost_15
set_option maxHeartbeats 4000000 in
set_option maxRecDepth 100000 in
theorem c5_least (l : Launch) (G : GG) {σ : Mem} {a : AS} (x y v : Int32) (hA : AOK a) (hR : RM σ a) : Ci l G yX5_least cX5_least 4 (some .int) 5 119 [.ref (gad G 134), .int x, .int y, .int v] σ (fun r τ => r = sp_least x y v a ∧ RM τ a ∧ FrM σ τ) := by
  refine Ci.of (own := RX5) (by decide) rfl (Nat.le_of_ble_eq_true rfl) (fun p e s m args below meth c ls H locs X hl hh => ?_)
  have hl : lv_has ls 4 [(0, .ref (gad G 134)), (1, .int x), (2, .int y), (3, .int v)] := hl
  refine lv_iload_n X.x X.b dX5_least_0 rfl (lv_at hl 1 rfl) ?_
  refine f_scalli X hh (c5_isLine l G x) mf_yX5_isLine ks_yX5_isLine km_X5_68 rfl hl.1 [] rfl (Nat.le_of_ble_eq_true rfl) ⟨by decide, by decide⟩ ⟨Nat.zero_le _, Nat.zero_le _⟩ dX5_least_1 (fun r τ H locs hq hh => ?_)
  obtain ⟨rfl, hτ⟩ := hq
  rw [hτ] at hh
  clear hτ
  by_cases c_1 : inB x 0 2
  · rw [show (if inB x 0 2 then (1 : Int32) else 0) = 1 from if_pos c_1]
    obtain ⟨i, ha_i, hb_i, rfl⟩ := inB_of c_1 (by decide)
    refine lv_if_eq (tgt := 14) X.x X.b dX5_least_4 (by decide) (fun h9 => absurd h9 (by decide)) (fun _ => ?_)
    refine lv_iload_n X.x X.b dX5_least_7 rfl (lv_at hl 2 rfl) ?_
    refine f_scalli X hh (c5_isTune l G y) mf_yX5_isTune ks_yX5_isTune km_X5_72 rfl hl.1 [] rfl (Nat.le_of_ble_eq_true rfl) ⟨by decide, by decide⟩ ⟨Nat.zero_le _, Nat.zero_le _⟩ dX5_least_8 (fun r τ H locs hq hh => ?_)
    obtain ⟨rfl, hτ⟩ := hq
    rw [hτ] at hh
    clear hτ
    by_cases c_3 : inB y 0 3
    · rw [show (if inB y 0 3 then (1 : Int32) else 0) = 1 from if_pos c_3]
      obtain ⟨j, ha_j, hb_j, rfl⟩ := inB_of c_3 (by decide)
      refine lv_if_ne (tgt := 16) X.x X.b dX5_least_11 (by decide) (fun _ => ?_) (fun h9 => absurd h9 (by decide))
      have hkn : kno (nI i) (nI j) := ⟨c_1, c_3⟩
      have hI := inst_ok hA (show i < 3 by omega) (show j < 4 by omega)
      have ei := ix_nI (show i < 2 ^ 31 by omega)
      have ej := ix_nI (show j < 2 ^ 31 by omega)
      have hbn1 := hI.1
      have hbn2 := hI.2.1
      have hbn3 : bN (aB a) i ≤ 9 := hI.1
      have hbn4 : bN (aB a) (3 + j) ≤ 11 := hI.2.1
      refine lv_iload_n X.x X.b dX5_least_16 rfl (lv_at hl 3 rfl) ?_
      refine lv_iconst (v := (-1)) X.x X.b dX5_least_17 (by decide) ?_
      refine lv_icmp_ge (tgt := 24) X.x X.b dX5_least_18 (by decide) (fun c_5 => ?_) (fun c_5 => ?_)
      · refine lv_aload_n X.x X.b dX5_least_24 rfl (lv_at hl 0 rfl) ?_
        refine lv_iload_n X.x X.b dX5_least_25 rfl (lv_at hl 1 rfl) ?_
        refine lv_iload_n X.x X.b dX5_least_26 rfl (lv_at hl 2 rfl) ?_
        refine lv_iconst (v := nI 0) X.x X.b dX5_least_27 (by decide) ?_
        refine f_callv X hh (c5_go0 l G (k := i) (t := j) hA hR (by omega) (by omega)) mf_yX5_go ki_yX5_go kl_yX5_go km_X5_121 (sh_134 G _) (by decide) rfl rfl hl.1 [] rfl (Nat.le_of_ble_eq_true rfl) ⟨by decide, by decide⟩ ⟨Nat.zero_le _, Nat.zero_le _⟩ dX5_least_28 (fun τ H locs hq hh => ?_)
        obtain ⟨hM1, hT1, hf1⟩ := hq
        have hR1 := hR.kn hf1
        have hw0 := TT_w0 (inst_ok hA (show i < 3 by omega) (show j < 4 by omega))
        refine lv_aload_n X.x X.b dX5_least_31 rfl (lv_at hl 0 rfl) ?_
        refine f_get X hh (v := .ref (gad G 145)) (sh_134 G _) (by decide) rfl in_X5 13 (by decide) kf_X5_41 rfl dX5_least_32 ?_
        refine lv_iconst (v := nI 0) X.x X.b dX5_least_35 (by decide) ?_
        refine f_ialdx X hh (j := 0) (y := nI ((TT (inst a i j) 0 0).2.2.1)) (sh_145 G _) (by decide) rfl (by omega) (by decide) (hT1 0 0 (Nat.zero_le _) (Nat.zero_le _) trivial).2.2.1 dX5_least_36 ?_
        refine lv_if_ne (tgt := 43) X.x X.b dX5_least_37 (by decide) (fun c_6 => ?_) (fun c_6 => ?_)
        · have c_6 : ¬ ((TT (inst a i j) 0 0).2.2.1) = 0 := fun q9 => c_6 ((nI_eq (a := ((TT (inst a i j) 0 0).2.2.1)) (b := 0) (by omega) (by omega)).mpr q9)
          refine lv_iload_n X.x X.b dX5_least_43 rfl (lv_at hl 3 rfl) ?_
          refine lv_iconst (v := (-1)) X.x X.b dX5_least_44 (by decide) ?_
          refine lv_icmp_ne (tgt := 55) X.x X.b dX5_least_45 (by decide) (fun c_7 => ?_) (fun c_7 => ?_)
          · obtain ⟨k, hk, rfl⟩ := ge0_of c_5 c_7
            refine lv_aload_n X.x X.b dX5_least_55 rfl (lv_at hl 0 rfl) ?_
            have hl9 := tln_le hI (hasL_of hI c_6)
            refine f_callv X hh (c5_laySteps l G hI (hasL_of hI c_6) hM1 hT1) mf_yX5_laySteps ki_yX5_laySteps kl_yX5_laySteps km_X5_124 (sh_134 G _) (by decide) rfl rfl hl.1 [] rfl (Nat.le_of_ble_eq_true rfl) ⟨by decide, by decide⟩ ⟨Nat.zero_le _, Nat.zero_le _⟩ dX5_least_56 (fun τ H locs hq hh => ?_)
            obtain ⟨hS2, hf2⟩ := hq
            refine lv_iload_n X.x X.b dX5_least_59 rfl (lv_at hl 3 rfl) ?_
            refine lv_aload_n X.x X.b dX5_least_60 rfl (lv_at hl 0 rfl) ?_
            refine f_geti X hh (x := nI (tln (inst a i j))) (sh_134 G _) (by decide) rfl in_X5 16 (by decide) kf_X5_115 rfl hS2.1 dX5_least_61 ?_
            refine lv_icmp_ge (tgt := 76) X.x X.b dX5_least_64 (by decide) (fun c_8 => ?_) (fun c_8 => ?_)
            · have c_8 : (tln (inst a i j)) ≤ k := (nI_leI (a := (tln (inst a i j))) (b := k) (by omega) (by omega)).mp c_8
              refine lv_bipush (v := (-6)) X.x X.b dX5_least_76 (by decide) ?_
              exact f_iret X hh ⟨by unfold sp_least; rw [if_pos hkn, if_neg (Int32.not_lt.mpr c_5)]; rw [if_neg c_7, ei, ej, ix_nI hk]; unfold lsN; rw [if_pos (hasL_of hI c_6), if_neg (by omega)], hR1.kn hf2.n, (hf1.tr hf2.n).m⟩ dX5_least_78
            · have c_8 : ¬ (tln (inst a i j)) ≤ k := fun q9 => c_8 ((nI_leI (a := (tln (inst a i j))) (b := k) (by omega) (by omega)).mpr q9)
              refine lv_aload_n X.x X.b dX5_least_67 rfl (lv_at hl 0 rfl) ?_
              refine f_get X hh (v := .ref (gad G 147)) (sh_134 G _) (by decide) rfl in_X5 15 (by decide) kf_X5_47 rfl dX5_least_68 ?_
              refine lv_iload_n X.x X.b dX5_least_71 rfl (lv_at hl 3 rfl) ?_
              refine f_ialdx X hh (j := k) (y := nI (sta (inst a i j) k)) (sh_147 G _) (by decide) rfl (by omega) (by decide) (hS2.2 _ (by omega)) dX5_least_72 ?_
              refine lv_goto (tgt := 78) X.x X.b dX5_least_73 (by decide) ?_
              exact f_iret X hh ⟨by unfold sp_least; rw [if_pos hkn, if_neg (Int32.not_lt.mpr c_5)]; rw [if_neg c_7, ei, ej, ix_nI hk]; unfold lsN; rw [if_pos (hasL_of hI c_6), if_pos (by omega)], hR1.kn hf2.n, (hf1.tr hf2.n).m⟩ dX5_least_78
          · refine lv_aload_n X.x X.b dX5_least_48 rfl (lv_at hl 0 rfl) ?_
            refine f_get X hh (v := .ref (gad G 143)) (sh_134 G _) (by decide) rfl in_X5 11 (by decide) kf_X5_35 rfl dX5_least_49 ?_
            refine lv_iconst (v := nI 0) X.x X.b dX5_least_52 (by decide) ?_
            refine f_ialdx X hh (j := 0) (y := nI ((TT (inst a i j) 0 0).1)) (sh_143 G _) (by decide) rfl (by omega) (by decide) (hT1 0 0 (Nat.zero_le _) (Nat.zero_le _) trivial).1 dX5_least_53 ?_
            exact f_iret X hh ⟨by unfold sp_least; rw [if_pos hkn, if_neg (Int32.not_lt.mpr c_5)]; rw [if_pos c_7, ei, ej]; exact (if_pos (hasL_of hI c_6)).symm, hR1, hf1.m⟩ dX5_least_54
        · have c_6 : ((TT (inst a i j) 0 0).2.2.1) = 0 := (nI_eq (a := ((TT (inst a i j) 0 0).2.2.1)) (b := 0) (by omega) (by omega)).mp c_6
          refine lv_bipush (v := (-6)) X.x X.b dX5_least_40 (by decide) ?_
          exact f_iret X hh ⟨by unfold sp_least; rw [if_pos hkn, if_neg (Int32.not_lt.mpr c_5)]; by_cases e9 : v = -1 <;> simp only [e9, if_true, if_false, ei, ej, lcN, lsN, if_neg ((TT_L hI).mp c_6)], hR1, hf1.m⟩ dX5_least_42
      · refine lv_bipush (v := (-2)) X.x X.b dX5_least_21 (by decide) ?_
        exact f_iret X hh ⟨by unfold sp_least; rw [if_pos hkn, if_pos (Int32.not_le.mp c_5)], hR, FrM.rf⟩ dX5_least_23
    · rw [show (if inB y 0 3 then (1 : Int32) else 0) = 0 from if_neg c_3]
      refine lv_if_ne (tgt := 16) X.x X.b dX5_least_11 (by decide) (fun h9 => absurd (show _ by decide) h9) (fun _ => ?_)
      refine lv_iconst (v := (-1)) X.x X.b dX5_least_14 (by decide) ?_
      exact f_iret X hh ⟨(if_neg (fun q9 : kno _ _ => c_3 q9.2)).symm, hR, FrM.rf⟩ dX5_least_15
  · rw [show (if inB x 0 2 then (1 : Int32) else 0) = 0 from if_neg c_1]
    refine lv_if_eq (tgt := 14) X.x X.b dX5_least_4 (by decide) (fun _ => ?_) (fun h9 => absurd (show _ by decide) h9)
    refine lv_iconst (v := (-1)) X.x X.b dX5_least_14 (by decide) ?_
    exact f_iret X hh ⟨(if_neg (fun q9 : kno _ _ => c_1 q9.1)).symm, hR, FrM.rf⟩ dX5_least_15
set_option maxHeartbeats 4000000 in
set_option maxRecDepth 100000 in
theorem c5_ways (l : Launch) (G : GG) {σ : Mem} {a : AS} (x y v : Int32) (hA : AOK a) (hR : RM σ a) : Ci l G yX5_ways cX5_ways 4 (some .int) 5 119 [.ref (gad G 134), .int x, .int y, .int v] σ (fun r τ => r = sp_ways x y v a ∧ RM τ a ∧ FrM σ τ) := by
  refine Ci.of (own := RX5) (by decide) rfl (Nat.le_of_ble_eq_true rfl) (fun p e s m args below meth c ls H locs X hl hh => ?_)
  have hl : lv_has ls 4 [(0, .ref (gad G 134)), (1, .int x), (2, .int y), (3, .int v)] := hl
  refine lv_iload_n X.x X.b dX5_ways_0 rfl (lv_at hl 1 rfl) ?_
  refine f_scalli X hh (c5_isLine l G x) mf_yX5_isLine ks_yX5_isLine km_X5_68 rfl hl.1 [] rfl (Nat.le_of_ble_eq_true rfl) ⟨by decide, by decide⟩ ⟨Nat.zero_le _, Nat.zero_le _⟩ dX5_ways_1 (fun r τ H locs hq hh => ?_)
  obtain ⟨rfl, hτ⟩ := hq
  rw [hτ] at hh
  clear hτ
  by_cases c_1 : inB x 0 2
  · rw [show (if inB x 0 2 then (1 : Int32) else 0) = 1 from if_pos c_1]
    obtain ⟨i, ha_i, hb_i, rfl⟩ := inB_of c_1 (by decide)
    refine lv_if_eq (tgt := 14) X.x X.b dX5_ways_4 (by decide) (fun h9 => absurd h9 (by decide)) (fun _ => ?_)
    refine lv_iload_n X.x X.b dX5_ways_7 rfl (lv_at hl 2 rfl) ?_
    refine f_scalli X hh (c5_isTune l G y) mf_yX5_isTune ks_yX5_isTune km_X5_72 rfl hl.1 [] rfl (Nat.le_of_ble_eq_true rfl) ⟨by decide, by decide⟩ ⟨Nat.zero_le _, Nat.zero_le _⟩ dX5_ways_8 (fun r τ H locs hq hh => ?_)
    obtain ⟨rfl, hτ⟩ := hq
    rw [hτ] at hh
    clear hτ
    by_cases c_3 : inB y 0 3
    · rw [show (if inB y 0 3 then (1 : Int32) else 0) = 1 from if_pos c_3]
      obtain ⟨j, ha_j, hb_j, rfl⟩ := inB_of c_3 (by decide)
      refine lv_if_ne (tgt := 16) X.x X.b dX5_ways_11 (by decide) (fun _ => ?_) (fun h9 => absurd h9 (by decide))
      have hkn : kno (nI i) (nI j) := ⟨c_1, c_3⟩
      have hI := inst_ok hA (show i < 3 by omega) (show j < 4 by omega)
      have ei := ix_nI (show i < 2 ^ 31 by omega)
      have ej := ix_nI (show j < 2 ^ 31 by omega)
      have hbn1 := hI.1
      have hbn2 := hI.2.1
      have hbn3 : bN (aB a) i ≤ 9 := hI.1
      have hbn4 : bN (aB a) (3 + j) ≤ 11 := hI.2.1
      refine lv_iload_n X.x X.b dX5_ways_16 rfl (lv_at hl 3 rfl) ?_
      refine lv_iconst (v := nI 0) X.x X.b dX5_ways_17 (by decide) ?_
      refine lv_iconst (v := nI 2) X.x X.b dX5_ways_18 (by decide) ?_
      refine f_scalli X hh (c5_inB l G v 0 2 (by decide) (by decide)) mf_yX5_in ks_yX5_in km_X5_50 rfl hl.1 [] rfl (Nat.le_of_ble_eq_true rfl) ⟨by decide, by decide⟩ ⟨Nat.zero_le _, Nat.zero_le _⟩ dX5_ways_19 (fun r τ H locs hq hh => ?_)
      obtain ⟨rfl, hτ⟩ := hq
      rw [hτ] at hh
      clear hτ
      by_cases c_5 : inB v 0 2
      · rw [show (if inB v 0 2 then (1 : Int32) else 0) = 1 from if_pos c_5]
        obtain ⟨k, ha_k, hb_k, rfl⟩ := inB_of c_5 (by decide)
        refine lv_if_ne (tgt := 28) X.x X.b dX5_ways_22 (by decide) (fun _ => ?_) (fun h9 => absurd h9 (by decide))
        refine lv_aload_n X.x X.b dX5_ways_28 rfl (lv_at hl 0 rfl) ?_
        refine lv_iload_n X.x X.b dX5_ways_29 rfl (lv_at hl 1 rfl) ?_
        refine lv_iload_n X.x X.b dX5_ways_30 rfl (lv_at hl 2 rfl) ?_
        refine lv_iconst (v := nI 0) X.x X.b dX5_ways_31 (by decide) ?_
        refine f_callv X hh (c5_go0 l G (k := i) (t := j) hA hR (by omega) (by omega)) mf_yX5_go ki_yX5_go kl_yX5_go km_X5_121 (sh_134 G _) (by decide) rfl rfl hl.1 [] rfl (Nat.le_of_ble_eq_true rfl) ⟨by decide, by decide⟩ ⟨Nat.zero_le _, Nat.zero_le _⟩ dX5_ways_32 (fun τ H locs hq hh => ?_)
        obtain ⟨hM1, hT1, hf1⟩ := hq
        have hR1 := hR.kn hf1
        have hw0 := TT_w0 (inst_ok hA (show i < 3 by omega) (show j < 4 by omega))
        refine lv_iload_n X.x X.b dX5_ways_35 rfl (lv_at hl 3 rfl) ?_
        refine lv_if_ne (tgt := 48) X.x X.b dX5_ways_36 (by decide) (fun c_7 => ?_) (fun c_7 => ?_)
        · have c_7 : ¬ k = 0 := fun q9 => c_7 ((nI_eq (a := k) (b := 0) (by omega) (by omega)).mpr q9)
          refine lv_iload_n X.x X.b dX5_ways_48 rfl (lv_at hl 3 rfl) ?_
          refine lv_iconst (v := nI 1) X.x X.b dX5_ways_49 (by decide) ?_
          refine lv_icmp_ne (tgt := 62) X.x X.b dX5_ways_50 (by decide) (fun c_8 => ?_) (fun c_8 => ?_)
          · have c_8 : ¬ k = 1 := fun q9 => c_8 ((nI_eq (a := k) (b := 1) (by omega) (by omega)).mpr q9)
            refine lv_aload_n X.x X.b dX5_ways_62 rfl (lv_at hl 0 rfl) ?_
            refine f_get X hh (v := .ref (gad G 145)) (sh_134 G _) (by decide) rfl in_X5 13 (by decide) kf_X5_41 rfl dX5_ways_63 ?_
            refine lv_iconst (v := nI 0) X.x X.b dX5_ways_66 (by decide) ?_
            refine f_ialdx X hh (j := 0) (y := nI ((TT (inst a i j) 0 0).2.2.1)) (sh_145 G _) (by decide) rfl (by omega) (by decide) (hT1 0 0 (Nat.zero_le _) (Nat.zero_le _) trivial).2.2.1 dX5_ways_67 ?_
            refine lv_if_ne (tgt := 76) X.x X.b dX5_ways_68 (by decide) (fun c_9 => ?_) (fun c_9 => ?_)
            · have c_9 : ¬ ((TT (inst a i j) 0 0).2.2.1) = 0 := fun q9 => c_9 ((nI_eq (a := ((TT (inst a i j) 0 0).2.2.1)) (b := 0) (by omega) (by omega)).mpr q9)
              refine lv_aload_n X.x X.b dX5_ways_76 rfl (lv_at hl 0 rfl) ?_
              refine f_get X hh (v := .ref (gad G 144)) (sh_134 G _) (by decide) rfl in_X5 12 (by decide) kf_X5_38 rfl dX5_ways_77 ?_
              refine lv_iconst (v := nI 0) X.x X.b dX5_ways_80 (by decide) ?_
              refine f_ialdx X hh (j := 0) (y := nI ((TT (inst a i j) 0 0).2.1)) (sh_144 G _) (by decide) rfl (by omega) (by decide) (hT1 0 0 (Nat.zero_le _) (Nat.zero_le _) trivial).2.1 dX5_ways_81 ?_
              exact f_iret X hh ⟨by unfold sp_ways; rw [if_pos hkn, if_pos c_5, ei, ej, if_neg (fun q9 => c_7 ((nI_z (by omega)).mp q9)), if_neg (fun q9 : nI k = 1 => c_8 ((nI_eq (b := 1) (by omega) (by decide)).mp q9))]; exact (if_pos (hasL_of hI c_9)).symm, hR1, hf1.m⟩ dX5_ways_82
            · have c_9 : ((TT (inst a i j) 0 0).2.2.1) = 0 := (nI_eq (a := ((TT (inst a i j) 0 0).2.2.1)) (b := 0) (by omega) (by omega)).mp c_9
              refine lv_bipush (v := (-6)) X.x X.b dX5_ways_71 (by decide) ?_
              refine lv_goto (tgt := 82) X.x X.b dX5_ways_73 (by decide) ?_
              exact f_iret X hh ⟨by unfold sp_ways; rw [if_pos hkn, if_pos c_5, ei, ej, if_neg (fun q9 => c_7 ((nI_z (by omega)).mp q9)), if_neg (fun q9 : nI k = 1 => c_8 ((nI_eq (b := 1) (by omega) (by decide)).mp q9))]; exact (if_neg ((TT_L hI).mp c_9)).symm, hR1, hf1.m⟩ dX5_ways_82
          · have c_8 : k = 1 := (nI_eq (a := k) (b := 1) (by omega) (by omega)).mp c_8
            refine lv_aload_n X.x X.b dX5_ways_53 rfl (lv_at hl 0 rfl) ?_
            refine f_get X hh (v := .ref (gad G 146)) (sh_134 G _) (by decide) rfl in_X5 14 (by decide) kf_X5_44 rfl dX5_ways_54 ?_
            refine lv_iconst (v := nI 0) X.x X.b dX5_ways_57 (by decide) ?_
            refine f_ialdx X hh (j := 0) (y := nI ((TT (inst a i j) 0 0).2.2.2)) (sh_146 G _) (by decide) rfl (by omega) (by decide) (hT1 0 0 (Nat.zero_le _) (Nat.zero_le _) trivial).2.2.2 dX5_ways_58 ?_
            refine lv_goto (tgt := 82) X.x X.b dX5_ways_59 (by decide) ?_
            exact f_iret X hh ⟨by unfold sp_ways; rw [if_pos hkn, if_pos c_5, ei, ej, if_neg (fun q9 => c_7 ((nI_z (by omega)).mp q9)), if_pos (show nI k = 1 by rw [c_8]; rfl)]; exact lw0_eq hI, hR1, hf1.m⟩ dX5_ways_82
        · have c_7 : k = 0 := (nI_eq (a := k) (b := 0) (by omega) (by omega)).mp c_7
          refine lv_aload_n X.x X.b dX5_ways_39 rfl (lv_at hl 0 rfl) ?_
          refine f_get X hh (v := .ref (gad G 145)) (sh_134 G _) (by decide) rfl in_X5 13 (by decide) kf_X5_41 rfl dX5_ways_40 ?_
          refine lv_iconst (v := nI 0) X.x X.b dX5_ways_43 (by decide) ?_
          refine f_ialdx X hh (j := 0) (y := nI ((TT (inst a i j) 0 0).2.2.1)) (sh_145 G _) (by decide) rfl (by omega) (by decide) (hT1 0 0 (Nat.zero_le _) (Nat.zero_le _) trivial).2.2.1 dX5_ways_44 ?_
          refine lv_goto (tgt := 82) X.x X.b dX5_ways_45 (by decide) ?_
          exact f_iret X hh ⟨by unfold sp_ways; rw [if_pos hkn, if_pos c_5, ei, ej, if_pos ((nI_z (by omega)).mpr c_7)]; exact wy0_eq hI, hR1, hf1.m⟩ dX5_ways_82
      · rw [show (if inB v 0 2 then (1 : Int32) else 0) = 0 from if_neg c_5]
        refine lv_if_ne (tgt := 28) X.x X.b dX5_ways_22 (by decide) (fun h9 => absurd (show _ by decide) h9) (fun _ => ?_)
        refine lv_bipush (v := (-2)) X.x X.b dX5_ways_25 (by decide) ?_
        exact f_iret X hh ⟨by unfold sp_ways; rw [if_pos hkn, if_neg c_5], hR, FrM.rf⟩ dX5_ways_27
    · rw [show (if inB y 0 3 then (1 : Int32) else 0) = 0 from if_neg c_3]
      refine lv_if_ne (tgt := 16) X.x X.b dX5_ways_11 (by decide) (fun h9 => absurd (show _ by decide) h9) (fun _ => ?_)
      refine lv_iconst (v := (-1)) X.x X.b dX5_ways_14 (by decide) ?_
      exact f_iret X hh ⟨(if_neg (fun q9 : kno _ _ => c_3 q9.2)).symm, hR, FrM.rf⟩ dX5_ways_15
  · rw [show (if inB x 0 2 then (1 : Int32) else 0) = 0 from if_neg c_1]
    refine lv_if_eq (tgt := 14) X.x X.b dX5_ways_4 (by decide) (fun _ => ?_) (fun h9 => absurd (show _ by decide) h9)
    refine lv_iconst (v := (-1)) X.x X.b dX5_ways_14 (by decide) ?_
    exact f_iret X hh ⟨(if_neg (fun q9 : kno _ _ => c_1 q9.1)).symm, hR, FrM.rf⟩ dX5_ways_15
