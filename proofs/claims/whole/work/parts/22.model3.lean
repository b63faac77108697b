/-! the model's layings -/
def MLM (σ : Mem) (I : LI) : Prop := σ 134 9 = nI (iN I) ∧ σ 134 10 = nI (iM I) ∧ (∀ i, i < iN I → σ 139 i = nI (iW I i) ∧ σ 140 i = nI (iZ I i)) ∧ (∀ j, j < iM I → σ 141 j = nI (iV I j) ∧ σ 142 j = nI (iQ I j)) ∧ ∀ k, k < 4 → σ 135 (149 + k) = nI (iU I k)
/-- the tables alone change -/
def Fru (σ τ : Mem) : Prop := ∀ k, (k < 143 ∨ k = 147) → τ k = σ k
theorem Fru.rf {σ : Mem} : Fru σ σ := fun _ _ => rfl
theorem Fru.tr {σ τ υ : Mem} (h : Fru σ τ) (g : Fru τ υ) : Fru σ υ := fun k a => (g k a).trans (h k a)
theorem Fru.n {σ τ : Mem} (h : Fru σ τ) : FrN σ τ := ⟨fun k hk => h k (by omega), by rw [h 134 (by decide)]⟩
theorem MLM.ku {σ τ : Mem} {I : LI} (h : MLM σ I) (f : Fru σ τ) : MLM τ I := by
  obtain ⟨h1, h2, h3, h4, h5⟩ := h
  exact ⟨by rw [f 134 (by decide)]; exact h1, by rw [f 134 (by decide)]; exact h2, fun i hi => by rw [f 139 (by decide), f 140 (by decide)]; exact h3 i hi, fun i hi => by rw [f 141 (by decide), f 142 (by decide)]; exact h4 i hi, fun i hi => by rw [f 135 (by decide)]; exact h5 i hi⟩
/-- four tables at one place -/
def T4 (σ : Mem) (h : Nat) (A : X4) : Prop := σ 143 h = nI A.1 ∧ σ 144 h = nI A.2.1 ∧ σ 145 h = nI A.2.2.1 ∧ σ 146 h = nI A.2.2.2
theorem T4.k {σ τ : Mem} {h h2 : Nat} {A : X4} (hT : T4 σ h A) (f : ∀ c x, ¬ (143 ≤ c ∧ c ≤ 146 ∧ x = h2) → τ c x = σ c x) (hn : h ≠ h2) : T4 τ h A := by
  obtain ⟨a, b, c, d⟩ := hT
  exact ⟨by rw [f _ _ (by omega)]; exact a, by rw [f _ _ (by omega)]; exact b, by rw [f _ _ (by omega)]; exact c, by rw [f _ _ (by omega)]; exact d⟩
theorem pow19 : 3 ^ 19 < 2 ^ 31 := by decide
theorem tsa_le3 {I : LI} {i j st : Nat} (hs : st ≤ 3) : (tsa I (TT I) i j st).2.2.1 ≤ (tsa I (TT I) i j 3).2.2.1 := by
  have a : (tsa I (TT I) i j 0).2.2.1 ≤ (tsa I (TT I) i j 1).2.2.1 := tsa_wy_mono 0
  have b : (tsa I (TT I) i j 1).2.2.1 ≤ (tsa I (TT I) i j 2).2.2.1 := tsa_wy_mono 1
  have d : (tsa I (TT I) i j 2).2.2.1 ≤ (tsa I (TT I) i j 3).2.2.1 := tsa_wy_mono 2
  rcases (show st = 0 ∨ st = 1 ∨ st = 2 ∨ st = 3 by omega) with rfl | rfl | rfl | rfl <;> omega
theorem TT_w19 {I : LI} (hB : LB I) {i j : Nat} (hi : i ≤ iN I) (hj : j ≤ iM I) (h : 1 ≤ i + j) : (TT I i j).2.2.1 < 2 ^ 31 := by
  have := hB.1
  have := hB.2.1
  exact Nat.lt_of_le_of_lt (TT_wy hB 19 i j hi hj (by omega)) pow19
theorem tsa_wyb {I : LI} (hB : LB I) {i j st : Nat} (hs : st < 3) (hi : i ≤ iN I) (hj : j ≤ iM I) (hc : can I st i j = true) : (tsa I (TT I) i j st).2.2.1 < 2 ^ 31 := by
  by_cases h : 1 ≤ i + j
  · have h1 := tsa_le3 (I := I) (i := i) (j := j) (st := st) (by omega)
    rw [← TT_rec hB hi hj] at h1
    exact Nat.lt_of_le_of_lt h1 (TT_w19 hB hi hj h)
  · have e1 : i = 0 := by omega
    have e2 : j = 0 := by omega
    subst e1; subst e2
    rcases (show st = 0 ∨ st = 1 ∨ st = 2 by omega) with rfl | rfl | rfl
    · show (if 0 = iN I ∧ 0 = iM I then 1 else 0) < 2 ^ 31
      split <;> decide
    · have := can1.mp hc; omega
    · have := can2.mp hc; omega
theorem TT_n0 {I : LI} (hB : LB I) : TT I 0 0 = tsa I (TT I) 0 0 1 := by
  rw [TT_rec hB (Nat.zero_le _) (Nat.zero_le _)]
  have h1 : ¬ can I 1 0 0 = true := fun h => by have := can1.mp h; omega
  have h2 : ¬ can I 2 0 0 = true := fun h => by have := can2.mp h; omega
  rw [tsa_n h2, tsa_n h1]
theorem TT_w0 {I : LI} (hB : LB I) : (TT I 0 0).2.2.1 < 2 ^ 31 := by
  rw [TT_n0 hB]
  have e0 : (tsa I (TT I) 0 0 0).2.2.1 ≤ 1 := by
    show (if 0 = iN I ∧ 0 = iM I then 1 else 0) ≤ 1
    split <;> omega
  by_cases hc : can I 0 0 0 = true
  · rw [tsa_wyS hc]
    have hn := can0.mp hc
    have h1 := TT_wy hB 18 1 1 (by omega) (by omega) (by have := hB.1; have := hB.2.1; omega)
    have h2 : (3 : Nat) ^ 18 = 387420489 := by decide
    show _ + (TT I (0 + 1) (0 + 1)).2.2.1 < _
    have e : (TT I (0 + 1) (0 + 1)).2.2.1 = (TT I 1 1).2.2.1 := rfl
    omega
  · rw [tsa_n hc]; omega
theorem TT_L {I : LI} (hB : LB I) : (TT I 0 0).2.2.1 = 0 ↔ ¬ (iN I = 0 ↔ iM I = 0) := by
  constructor
  · intro h hL
    exact TT_d hB hL (Or.inr ⟨rfl, rfl⟩) h
  · intro h
    rw [TT_n0 hB]
    have hc : ¬ can I 0 0 0 = true := fun q => h (by have := can0.mp q; omega)
    rw [tsa_n hc]
    show (if 0 = iN I ∧ 0 = iM I then 1 else 0) = 0
    rw [if_neg (fun q => h (by omega))]
def dn (r : Nat) : Int32 := nI r + (-1)
theorem dn_s (i : Nat) : dn (i + 1) = nI i := pk_m1 i
theorem dn_0 : dn 0 = -1 := by decide
set_option maxHeartbeats 4000000 in
set_option maxRecDepth 100000 in
theorem c5_syllablesOf (l : Launch) (G : GG) {σ : Mem} {st : Nat} (hs : st < 3) : Ci l G yX5_syllablesOf cX5_syllablesOf 1 (some .int) 0 0 [.int (nI st)] σ (fun r τ => r = nI (di st) ∧ τ = σ) := by
  refine Ci.of (own := RX5) (by decide) rfl (Nat.le_of_ble_eq_true rfl) (fun p e s m args below meth c ls H locs X hl hh => ?_)
  have hl : lv_has ls 1 [(0, .int (nI st))] := hl
  refine lv_iload_n X.x X.b dX5_syllablesOf_0 rfl (lv_at hl 0 rfl) ?_
  refine lv_iconst (v := nI 1) X.x X.b dX5_syllablesOf_1 (by decide) ?_
  refine lv_icmp_ne (tgt := 9) X.x X.b dX5_syllablesOf_2 (by decide) (fun c_1 => ?_) (fun c_1 => ?_)
  · have c_1 : ¬ st = 1 := fun q9 => c_1 ((nI_eq (a := st) (b := 1) (by omega) (by omega)).mpr q9)
    refine lv_iconst (v := nI 1) X.x X.b dX5_syllablesOf_9 (by decide) ?_
    exact f_iret X hh ⟨by unfold di; first | (rw [if_pos (by omega)]) | (rw [if_neg (by omega)]), rfl⟩ dX5_syllablesOf_10
  · have c_1 : st = 1 := (nI_eq (a := st) (b := 1) (by omega) (by omega)).mp c_1
    refine lv_iconst (v := nI 0) X.x X.b dX5_syllablesOf_5 (by decide) ?_
    refine lv_goto (tgt := 10) X.x X.b dX5_syllablesOf_6 (by decide) ?_
    exact f_iret X hh ⟨by unfold di; first | (rw [if_pos (by omega)]) | (rw [if_neg (by omega)]), rfl⟩ dX5_syllablesOf_10
set_option maxHeartbeats 4000000 in
set_option maxRecDepth 100000 in
theorem c5_notesOf (l : Launch) (G : GG) {σ : Mem} {st : Nat} (hs : st < 3) : Ci l G yX5_notesOf cX5_notesOf 1 (some .int) 0 0 [.int (nI st)] σ (fun r τ => r = nI (dj st) ∧ τ = σ) := by
  refine Ci.of (own := RX5) (by decide) rfl (Nat.le_of_ble_eq_true rfl) (fun p e s m args below meth c ls H locs X hl hh => ?_)
  have hl : lv_has ls 1 [(0, .int (nI st))] := hl
  refine lv_iload_n X.x X.b dX5_notesOf_0 rfl (lv_at hl 0 rfl) ?_
  refine lv_iconst (v := nI 2) X.x X.b dX5_notesOf_1 (by decide) ?_
  refine lv_icmp_ne (tgt := 9) X.x X.b dX5_notesOf_2 (by decide) (fun c_1 => ?_) (fun c_1 => ?_)
  · have c_1 : ¬ st = 2 := fun q9 => c_1 ((nI_eq (a := st) (b := 2) (by omega) (by omega)).mpr q9)
    refine lv_iconst (v := nI 1) X.x X.b dX5_notesOf_9 (by decide) ?_
    exact f_iret X hh ⟨by unfold dj; first | (rw [if_pos (by omega)]) | (rw [if_neg (by omega)]), rfl⟩ dX5_notesOf_10
  · have c_1 : st = 2 := (nI_eq (a := st) (b := 2) (by omega) (by omega)).mp c_1
    refine lv_iconst (v := nI 0) X.x X.b dX5_notesOf_5 (by decide) ?_
    refine lv_goto (tgt := 10) X.x X.b dX5_notesOf_6 (by decide) ?_
    exact f_iret X hh ⟨by unfold dj; first | (rw [if_pos (by omega)]) | (rw [if_neg (by omega)]), rfl⟩ dX5_notesOf_10
set_option maxHeartbeats 4000000 in
set_option maxRecDepth 100000 in
theorem c5_at (l : Launch) (G : GG) {σ : Mem} {i j : Nat}  : Ci l G yX5_at cX5_at 2 (some .int) 0 0 [.int (nI i), .int (nI j)] σ (fun r τ => r = nI (12 * i + j) ∧ τ = σ) := by
  refine Ci.of (own := RX5) (by decide) rfl (Nat.le_of_ble_eq_true rfl) (fun p e s m args below meth c ls H locs X hl hh => ?_)
  have hl : lv_has ls 2 [(0, .int (nI i)), (1, .int (nI j))] := hl
  refine lv_bipush (v := nI 12) X.x X.b dX5_at_0 (by decide) ?_
  refine lv_iload_n X.x X.b dX5_at_2 rfl (lv_at hl 0 rfl) ?_
  refine f_imul X (z := nI (12 * i)) (pk_mul 12 i) dX5_at_3 ?_
  refine lv_iload_n X.x X.b dX5_at_4 rfl (lv_at hl 1 rfl) ?_
  refine f_iadd X (z := nI (12 * i + j)) (nI_add (12 * i) j) dX5_at_5 ?_
  exact f_iret X hh ⟨rfl, rfl⟩ dX5_at_6
set_option maxHeartbeats 4000000 in
set_option maxRecDepth 100000 in
theorem c5_fit (l : Launch) (G : GG) {σ : Mem} {I : LI} {i j : Nat} (hB : LB I) (hM : MLM σ I) (hi : i < iN I) (hj : j < iM I) : Ci l G yX5_fit cX5_fit 4 (some .int) 0 0 [.ref (gad G 134), .int (nI i), .int (nI j)] σ (fun r τ => r = nI (fitN I i j) ∧ τ = σ) := by
  refine Ci.of (own := RX5) (by decide) rfl (Nat.le_of_ble_eq_true rfl) (fun p e s m args below meth c ls H locs X hl hh => ?_)
  have hb1 := hB.1
  have hb2 := hB.2.1
  have hw2 := hB.2.2.1 i hi
  have hv2 := hB.2.2.2.1 j hj
  have hl : lv_has ls 4 [(0, .ref (gad G 134)), (1, .int (nI i)), (2, .int (nI j))] := hl
  refine lv_aload_n X.x X.b dX5_fit_0 rfl (lv_at hl 0 rfl) ?_
  refine f_get X hh (v := .ref (gad G 139)) (sh_134 G _) (by decide) rfl in_X5 5 (by decide) kf_X5_23 rfl dX5_fit_1 ?_
  refine lv_iload_n X.x X.b dX5_fit_4 rfl (lv_at hl 1 rfl) ?_
  refine f_ialdx X hh (j := i) (y := nI (iW I i)) (sh_139 G _) (by decide) rfl (by omega) (by decide) (hM.2.2.1 _ (by omega)).1 dX5_fit_5 ?_
  refine lv_aload_n X.x X.b dX5_fit_6 rfl (lv_at hl 0 rfl) ?_
  refine f_get X hh (v := .ref (gad G 141)) (sh_134 G _) (by decide) rfl in_X5 7 (by decide) kf_X5_29 rfl dX5_fit_7 ?_
  refine lv_iload_n X.x X.b dX5_fit_10 rfl (lv_at hl 2 rfl) ?_
  refine f_ialdx X hh (j := j) (y := nI (iV I j)) (sh_141 G _) (by decide) rfl (by omega) (by decide) (hM.2.2.2.1 _ (by omega)).1 dX5_fit_11 ?_
  refine f_isub X (z := nI (iW I i) - nI (iV I j)) rfl dX5_fit_12 ?_
  refine lv_istore_n (lv' := [(3, .int (nI (iW I i) - nI (iV I j))), (0, .ref (gad G 134)), (1, .int (nI i)), (2, .int (nI j))]) X.x X.b dX5_fit_13 rfl hl (by decide) rfl (fun ls hl => ?_)
  refine lv_aload_n X.x X.b dX5_fit_14 rfl (lv_at hl 1 rfl) ?_
  refine f_get X hh (v := .ref (gad G 135)) (sh_134 G _) (by decide) rfl in_X5 0 (by decide) kf_X5_7 rfl dX5_fit_15 ?_
  refine lv_sipush (v := nI 149) X.x X.b dX5_fit_18 (by decide) ?_
  refine f_ialdx X hh (j := 149) (y := nI (iU I 0)) (sh_135 G _) (by decide) rfl (by omega) (by decide) (hM.2.2.2.2 0 (by decide)) dX5_fit_21 ?_
  refine lv_iload_n X.x X.b dX5_fit_22 rfl (lv_at hl 0 rfl) ?_
  refine lv_if_ge (tgt := 31) X.x X.b dX5_fit_23 (by decide) (fun c_1 => ?_) (fun c_1 => ?_)
  · have e9 := abs_nI (a := iW I i) (b := iV I j) (by omega) (by omega)
    rw [if_pos c_1] at e9
    rw [e9] at hl
    refine lv_iload_n X.x X.b dX5_fit_31 rfl (lv_at hl 0 rfl) ?_
    refine f_imul X (z := nI (fitN I i j)) (pk_mul _ _) dX5_fit_32 ?_
    exact f_iret X hh ⟨rfl, rfl⟩ dX5_fit_33
  · have e9 := abs_nI (a := iW I i) (b := iV I j) (by omega) (by omega)
    rw [if_neg c_1] at e9
    simp only [Int32.zero_sub] at e9
    refine lv_iload_n X.x X.b dX5_fit_26 rfl (lv_at hl 0 rfl) ?_
    refine lv_ineg X.x X.b dX5_fit_27 ?_
    rw [e9]
    refine lv_goto (tgt := 32) X.x X.b dX5_fit_28 (by decide) ?_
    refine f_imul X (z := nI (fitN I i j)) (pk_mul _ _) dX5_fit_32 ?_
    exact f_iret X hh ⟨rfl, rfl⟩ dX5_fit_33
set_option maxHeartbeats 4000000 in
set_option maxRecDepth 100000 in
theorem c5_costOf (l : Launch) (G : GG) {σ : Mem} {I : LI} {st i j : Nat} (hB : LB I) (hM : MLM σ I) (hs : st < 3) (hc : can I st i j = true) (hi : i ≤ iN I) (hj : j ≤ iM I) : Ci l G yX5_costOf cX5_costOf 4 (some .int) 1 23 [.ref (gad G 134), .int (nI st), .int (nI i), .int (nI j)] σ (fun r τ => r = nI (cst I st i j) ∧ τ = σ) := by
  refine Ci.of (own := RX5) (by decide) rfl (Nat.le_of_ble_eq_true rfl) (fun p e s m args below meth c ls H locs X hl hh => ?_)
  have hb1 := hB.1
  have hb2 := hB.2.1
  rcases (show st = 0 ∨ st = 1 ∨ st = 2 by omega) with rfl | rfl | rfl
  · have hc2 := can0.mp hc
    have hz2 := hB.2.2.2.2.2.1 i (by omega)
    have hq2 := hB.2.2.2.2.2.2 j (by omega)
    have hl : lv_has ls 4 [(0, .ref (gad G 134)), (1, .int (nI 0)), (2, .int (nI i)), (3, .int (nI j))] := hl
    refine lv_iload_n X.x X.b dX5_costOf_0 rfl (lv_at hl 1 rfl) ?_
    refine lv_lookup (tgt := 28) (off := 27) X.x X.b dX5_costOf_1 (by decide) (by decide +kernel) (by decide) ?_
    refine lv_aload_n X.x X.b dX5_costOf_28 rfl (lv_at hl 0 rfl) ?_
    refine lv_iload_n X.x X.b dX5_costOf_29 rfl (lv_at hl 2 rfl) ?_
    refine lv_iload_n X.x X.b dX5_costOf_30 rfl (lv_at hl 3 rfl) ?_
    refine f_calli X hh (c5_fit l G (i := i) (j := j) hB hM (by omega) (by omega)) mf_yX5_fit ki_yX5_fit kl_yX5_fit km_X5_81 (sh_134 G _) (by decide) rfl rfl hl.1 [] rfl (Nat.le_of_ble_eq_true rfl) ⟨by decide, by decide⟩ ⟨Nat.zero_le _, Nat.zero_le _⟩ dX5_costOf_31 (fun r τ H locs hq hh => ?_)
    obtain ⟨rfl, hτ⟩ := hq
    rw [hτ] at hh
    clear hτ
    refine lv_aload_n X.x X.b dX5_costOf_34 rfl (lv_at hl 0 rfl) ?_
    refine f_get X hh (v := .ref (gad G 140)) (sh_134 G _) (by decide) rfl in_X5 6 (by decide) kf_X5_26 rfl dX5_costOf_35 ?_
    refine lv_iload_n X.x X.b dX5_costOf_38 rfl (lv_at hl 2 rfl) ?_
    refine f_ialdx X hh (j := i) (y := nI (iZ I i)) (sh_140 G _) (by decide) rfl (by omega) (by decide) (hM.2.2.1 _ (by omega)).2 dX5_costOf_39 ?_
    refine lv_iconst (v := nI 1) X.x X.b dX5_costOf_40 (by decide) ?_
    refine lv_icmp_ne (tgt := 65) X.x X.b dX5_costOf_41 (by decide) (fun c_1 => ?_) (fun c_1 => ?_)
    · have c_1 : ¬ (iZ I i) = 1 := fun q9 => c_1 ((nI_eq (a := (iZ I i)) (b := 1) (by omega) (by omega)).mpr q9)
      refine lv_iconst (v := nI 0) X.x X.b dX5_costOf_65 (by decide) ?_
      refine f_iadd X (z := nI (fitN I i j + 0)) (nI_add (fitN I i j) 0) dX5_costOf_66 ?_
      exact f_iret X hh ⟨by show _ = nI (fitN I i j + (if iZ I i = 1 ∧ iQ I j = 1 then iU I 3 else 0)); first | (rw [if_pos (by omega)]) | (rw [if_neg (by omega)]), rfl⟩ dX5_costOf_67
    · have c_1 : (iZ I i) = 1 := (nI_eq (a := (iZ I i)) (b := 1) (by omega) (by omega)).mp c_1
      refine lv_aload_n X.x X.b dX5_costOf_44 rfl (lv_at hl 0 rfl) ?_
      refine f_get X hh (v := .ref (gad G 142)) (sh_134 G _) (by decide) rfl in_X5 8 (by decide) kf_X5_32 rfl dX5_costOf_45 ?_
      refine lv_iload_n X.x X.b dX5_costOf_48 rfl (lv_at hl 3 rfl) ?_
      refine f_ialdx X hh (j := j) (y := nI (iQ I j)) (sh_142 G _) (by decide) rfl (by omega) (by decide) (hM.2.2.2.1 _ (by omega)).2 dX5_costOf_49 ?_
      refine lv_iconst (v := nI 1) X.x X.b dX5_costOf_50 (by decide) ?_
      refine lv_icmp_ne (tgt := 65) X.x X.b dX5_costOf_51 (by decide) (fun c_2 => ?_) (fun c_2 => ?_)
      · have c_2 : ¬ (iQ I j) = 1 := fun q9 => c_2 ((nI_eq (a := (iQ I j)) (b := 1) (by omega) (by omega)).mpr q9)
        refine lv_iconst (v := nI 0) X.x X.b dX5_costOf_65 (by decide) ?_
        refine f_iadd X (z := nI (fitN I i j + 0)) (nI_add (fitN I i j) 0) dX5_costOf_66 ?_
        exact f_iret X hh ⟨by show _ = nI (fitN I i j + (if iZ I i = 1 ∧ iQ I j = 1 then iU I 3 else 0)); first | (rw [if_pos (by omega)]) | (rw [if_neg (by omega)]), rfl⟩ dX5_costOf_67
      · have c_2 : (iQ I j) = 1 := (nI_eq (a := (iQ I j)) (b := 1) (by omega) (by omega)).mp c_2
        refine lv_aload_n X.x X.b dX5_costOf_54 rfl (lv_at hl 0 rfl) ?_
        refine f_get X hh (v := .ref (gad G 135)) (sh_134 G _) (by decide) rfl in_X5 0 (by decide) kf_X5_7 rfl dX5_costOf_55 ?_
        refine lv_sipush (v := nI 152) X.x X.b dX5_costOf_58 (by decide) ?_
        refine f_ialdx X hh (j := 152) (y := nI (iU I 3)) (sh_135 G _) (by decide) rfl (by omega) (by decide) (hM.2.2.2.2 3 (by decide)) dX5_costOf_61 ?_
        refine lv_goto (tgt := 66) X.x X.b dX5_costOf_62 (by decide) ?_
        refine f_iadd X (z := nI (fitN I i j + iU I 3)) (nI_add (fitN I i j) (iU I 3)) dX5_costOf_66 ?_
        exact f_iret X hh ⟨by show _ = nI (fitN I i j + (if iZ I i = 1 ∧ iQ I j = 1 then iU I 3 else 0)); first | (rw [if_pos (by omega)]) | (rw [if_neg (by omega)]), rfl⟩ dX5_costOf_67
  · have hl : lv_has ls 4 [(0, .ref (gad G 134)), (1, .int (nI 1)), (2, .int (nI i)), (3, .int (nI j))] := hl
    refine lv_iload_n X.x X.b dX5_costOf_0 rfl (lv_at hl 1 rfl) ?_
    refine lv_lookup (tgt := 68) (off := 67) X.x X.b dX5_costOf_1 (by decide) (by decide +kernel) (by decide) ?_
    refine lv_aload_n X.x X.b dX5_costOf_68 rfl (lv_at hl 0 rfl) ?_
    refine f_get X hh (v := .ref (gad G 135)) (sh_134 G _) (by decide) rfl in_X5 0 (by decide) kf_X5_7 rfl dX5_costOf_69 ?_
    refine lv_sipush (v := nI 150) X.x X.b dX5_costOf_72 (by decide) ?_
    refine f_ialdx X hh (j := 150) (y := nI (iU I 1)) (sh_135 G _) (by decide) rfl (by omega) (by decide) (hM.2.2.2.2 1 (by decide)) dX5_costOf_75 ?_
    exact f_iret X hh ⟨rfl, rfl⟩ dX5_costOf_76
  · have hc2 := can2.mp hc
    have hz2 := hB.2.2.2.2.2.1 i (by omega)
    have hl : lv_has ls 4 [(0, .ref (gad G 134)), (1, .int (nI 2)), (2, .int (nI i)), (3, .int (nI j))] := hl
    refine lv_iload_n X.x X.b dX5_costOf_0 rfl (lv_at hl 1 rfl) ?_
    refine lv_lookup (tgt := 77) (off := 76) X.x X.b dX5_costOf_1 (by decide) (by decide +kernel) (by decide) ?_
    refine lv_aload_n X.x X.b dX5_costOf_77 rfl (lv_at hl 0 rfl) ?_
    refine lv_iload_n X.x X.b dX5_costOf_78 rfl (lv_at hl 2 rfl) ?_
    refine lv_iload_n X.x X.b dX5_costOf_79 rfl (lv_at hl 3 rfl) ?_
    refine lv_iconst (v := nI 1) X.x X.b dX5_costOf_80 (by decide) ?_
    refine f_isub X (z := nI (j - 1)) (pk_sub (a := j) (b := 1) (by omega)) dX5_costOf_81 ?_
    refine f_calli X hh (c5_fit l G (i := i) (j := j - 1) hB hM (by omega) (by omega)) mf_yX5_fit ki_yX5_fit kl_yX5_fit km_X5_81 (sh_134 G _) (by decide) rfl rfl hl.1 [] rfl (Nat.le_of_ble_eq_true rfl) ⟨by decide, by decide⟩ ⟨Nat.zero_le _, Nat.zero_le _⟩ dX5_costOf_82 (fun r τ H locs hq hh => ?_)
    obtain ⟨rfl, hτ⟩ := hq
    rw [hτ] at hh
    clear hτ
    refine lv_aload_n X.x X.b dX5_costOf_85 rfl (lv_at hl 0 rfl) ?_
    refine f_get X hh (v := .ref (gad G 135)) (sh_134 G _) (by decide) rfl in_X5 0 (by decide) kf_X5_7 rfl dX5_costOf_86 ?_
    refine lv_sipush (v := nI 151) X.x X.b dX5_costOf_89 (by decide) ?_
    refine f_ialdx X hh (j := 151) (y := nI (iU I 2)) (sh_135 G _) (by decide) rfl (by omega) (by decide) (hM.2.2.2.2 2 (by decide)) dX5_costOf_92 ?_
    refine f_iadd X (z := nI (fitN I i (j - 1) + iU I 2)) (nI_add (fitN I i (j - 1)) (iU I 2)) dX5_costOf_93 ?_
    exact f_iret X hh ⟨rfl, rfl⟩ dX5_costOf_94
set_option maxHeartbeats 4000000 in
set_option maxRecDepth 100000 in
theorem c5_canStep (l : Launch) (G : GG) {σ : Mem} {I : LI} {st i j : Nat} (hB : LB I) (hM : MLM σ I) (hs : st < 3) (hi : i ≤ iN I) (hj : j ≤ iM I) : Ci l G yX5_canStep cX5_canStep 4 (some .boolean) 0 0 [.ref (gad G 134), .int (nI st), .int (nI i), .int (nI j)] σ (fun r τ => r = (if can I st i j = true then 1 else 0) ∧ τ = σ) := by
  refine Ci.of (own := RX5) (by decide) rfl (Nat.le_of_ble_eq_true rfl) (fun p e s m args below meth c ls H locs X hl hh => ?_)
  have hb1 := hB.1
  have hb2 := hB.2.1
  rcases (show st = 0 ∨ st = 1 ∨ st = 2 by omega) with rfl | rfl | rfl
  · have hl : lv_has ls 4 [(0, .ref (gad G 134)), (1, .int (nI 0)), (2, .int (nI i)), (3, .int (nI j))] := hl
    refine lv_iload_n X.x X.b dX5_canStep_0 rfl (lv_at hl 1 rfl) ?_
    refine lv_lookup (tgt := 28) (off := 27) X.x X.b dX5_canStep_1 (by decide) (by decide +kernel) (by decide) ?_
    refine lv_iload_n X.x X.b dX5_canStep_28 rfl (lv_at hl 2 rfl) ?_
    refine lv_aload_n X.x X.b dX5_canStep_29 rfl (lv_at hl 0 rfl) ?_
    refine f_geti X hh (x := nI (iN I)) (sh_134 G _) (by decide) rfl in_X5 9 (by decide) kf_X5_75 rfl hM.1 dX5_canStep_30 ?_
    refine lv_icmp_ge (tgt := 48) X.x X.b dX5_canStep_33 (by decide) (fun c_1 => ?_) (fun c_1 => ?_)
    · have c_1 : (iN I) ≤ i := (nI_leI (a := (iN I)) (b := i) (by omega) (by omega)).mp c_1
      refine lv_iconst (v := nI 0) X.x X.b dX5_canStep_48 (by decide) ?_
      exact f_zret X hh rfl ⟨by first | (rw [if_pos (can0.mpr (by omega))]; rfl) | (rw [if_neg (fun q9 => absurd (can0.mp q9) (by omega))]; rfl), rfl⟩ dX5_canStep_49
    · have c_1 : ¬ (iN I) ≤ i := fun q9 => c_1 ((nI_leI (a := (iN I)) (b := i) (by omega) (by omega)).mpr q9)
      refine lv_iload_n X.x X.b dX5_canStep_36 rfl (lv_at hl 3 rfl) ?_
      refine lv_aload_n X.x X.b dX5_canStep_37 rfl (lv_at hl 0 rfl) ?_
      refine f_geti X hh (x := nI (iM I)) (sh_134 G _) (by decide) rfl in_X5 10 (by decide) kf_X5_78 rfl hM.2.1 dX5_canStep_38 ?_
      refine lv_icmp_ge (tgt := 48) X.x X.b dX5_canStep_41 (by decide) (fun c_2 => ?_) (fun c_2 => ?_)
      · have c_2 : (iM I) ≤ j := (nI_leI (a := (iM I)) (b := j) (by omega) (by omega)).mp c_2
        refine lv_iconst (v := nI 0) X.x X.b dX5_canStep_48 (by decide) ?_
        exact f_zret X hh rfl ⟨by first | (rw [if_pos (can0.mpr (by omega))]; rfl) | (rw [if_neg (fun q9 => absurd (can0.mp q9) (by omega))]; rfl), rfl⟩ dX5_canStep_49
      · have c_2 : ¬ (iM I) ≤ j := fun q9 => c_2 ((nI_leI (a := (iM I)) (b := j) (by omega) (by omega)).mpr q9)
        refine lv_iconst (v := nI 1) X.x X.b dX5_canStep_44 (by decide) ?_
        refine lv_goto (tgt := 49) X.x X.b dX5_canStep_45 (by decide) ?_
        exact f_zret X hh rfl ⟨by first | (rw [if_pos (can0.mpr (by omega))]; rfl) | (rw [if_neg (fun q9 => absurd (can0.mp q9) (by omega))]; rfl), rfl⟩ dX5_canStep_49
  · have hl : lv_has ls 4 [(0, .ref (gad G 134)), (1, .int (nI 1)), (2, .int (nI i)), (3, .int (nI j))] := hl
    refine lv_iload_n X.x X.b dX5_canStep_0 rfl (lv_at hl 1 rfl) ?_
    refine lv_lookup (tgt := 50) (off := 49) X.x X.b dX5_canStep_1 (by decide) (by decide +kernel) (by decide) ?_
    refine lv_iload_n X.x X.b dX5_canStep_50 rfl (lv_at hl 2 rfl) ?_
    refine lv_if_le (tgt := 66) X.x X.b dX5_canStep_51 (by decide) (fun c_3 => ?_) (fun c_3 => ?_)
    · have c_3 : i ≤ 0 := (nI_leI (a := i) (b := 0) (by omega) (by omega)).mp c_3
      refine lv_iconst (v := nI 0) X.x X.b dX5_canStep_66 (by decide) ?_
      exact f_zret X hh rfl ⟨by first | (rw [if_pos (can1.mpr (by omega))]; rfl) | (rw [if_neg (fun q9 => absurd (can1.mp q9) (by omega))]; rfl), rfl⟩ dX5_canStep_67
    · have c_3 : ¬ i ≤ 0 := fun q9 => c_3 ((nI_leI (a := i) (b := 0) (by omega) (by omega)).mpr q9)
      refine lv_iload_n X.x X.b dX5_canStep_54 rfl (lv_at hl 3 rfl) ?_
      refine lv_aload_n X.x X.b dX5_canStep_55 rfl (lv_at hl 0 rfl) ?_
      refine f_geti X hh (x := nI (iM I)) (sh_134 G _) (by decide) rfl in_X5 10 (by decide) kf_X5_78 rfl hM.2.1 dX5_canStep_56 ?_
      refine lv_icmp_ge (tgt := 66) X.x X.b dX5_canStep_59 (by decide) (fun c_4 => ?_) (fun c_4 => ?_)
      · have c_4 : (iM I) ≤ j := (nI_leI (a := (iM I)) (b := j) (by omega) (by omega)).mp c_4
        refine lv_iconst (v := nI 0) X.x X.b dX5_canStep_66 (by decide) ?_
        exact f_zret X hh rfl ⟨by first | (rw [if_pos (can1.mpr (by omega))]; rfl) | (rw [if_neg (fun q9 => absurd (can1.mp q9) (by omega))]; rfl), rfl⟩ dX5_canStep_67
      · have c_4 : ¬ (iM I) ≤ j := fun q9 => c_4 ((nI_leI (a := (iM I)) (b := j) (by omega) (by omega)).mpr q9)
        refine lv_iconst (v := nI 1) X.x X.b dX5_canStep_62 (by decide) ?_
        refine lv_goto (tgt := 67) X.x X.b dX5_canStep_63 (by decide) ?_
        exact f_zret X hh rfl ⟨by first | (rw [if_pos (can1.mpr (by omega))]; rfl) | (rw [if_neg (fun q9 => absurd (can1.mp q9) (by omega))]; rfl), rfl⟩ dX5_canStep_67
  · have hl : lv_has ls 4 [(0, .ref (gad G 134)), (1, .int (nI 2)), (2, .int (nI i)), (3, .int (nI j))] := hl
    refine lv_iload_n X.x X.b dX5_canStep_0 rfl (lv_at hl 1 rfl) ?_
    refine lv_lookup (tgt := 68) (off := 67) X.x X.b dX5_canStep_1 (by decide) (by decide +kernel) (by decide) ?_
    refine lv_iload_n X.x X.b dX5_canStep_68 rfl (lv_at hl 3 rfl) ?_
    refine lv_if_le (tgt := 84) X.x X.b dX5_canStep_69 (by decide) (fun c_5 => ?_) (fun c_5 => ?_)
    · have c_5 : j ≤ 0 := (nI_leI (a := j) (b := 0) (by omega) (by omega)).mp c_5
      refine lv_iconst (v := nI 0) X.x X.b dX5_canStep_84 (by decide) ?_
      exact f_zret X hh rfl ⟨by first | (rw [if_pos (can2.mpr (by omega))]; rfl) | (rw [if_neg (fun q9 => absurd (can2.mp q9) (by omega))]; rfl), rfl⟩ dX5_canStep_85
    · have c_5 : ¬ j ≤ 0 := fun q9 => c_5 ((nI_leI (a := j) (b := 0) (by omega) (by omega)).mpr q9)
      refine lv_iload_n X.x X.b dX5_canStep_72 rfl (lv_at hl 2 rfl) ?_
      refine lv_aload_n X.x X.b dX5_canStep_73 rfl (lv_at hl 0 rfl) ?_
      refine f_geti X hh (x := nI (iN I)) (sh_134 G _) (by decide) rfl in_X5 9 (by decide) kf_X5_75 rfl hM.1 dX5_canStep_74 ?_
      refine lv_icmp_ge (tgt := 84) X.x X.b dX5_canStep_77 (by decide) (fun c_6 => ?_) (fun c_6 => ?_)
      · have c_6 : (iN I) ≤ i := (nI_leI (a := (iN I)) (b := i) (by omega) (by omega)).mp c_6
        refine lv_iconst (v := nI 0) X.x X.b dX5_canStep_84 (by decide) ?_
        exact f_zret X hh rfl ⟨by first | (rw [if_pos (can2.mpr (by omega))]; rfl) | (rw [if_neg (fun q9 => absurd (can2.mp q9) (by omega))]; rfl), rfl⟩ dX5_canStep_85
      · have c_6 : ¬ (iN I) ≤ i := fun q9 => c_6 ((nI_leI (a := (iN I)) (b := i) (by omega) (by omega)).mpr q9)
        refine lv_iconst (v := nI 1) X.x X.b dX5_canStep_80 (by decide) ?_
        refine lv_goto (tgt := 85) X.x X.b dX5_canStep_81 (by decide) ?_
        exact f_zret X hh rfl ⟨by first | (rw [if_pos (can2.mpr (by omega))]; rfl) | (rw [if_neg (fun q9 => absurd (can2.mp q9) (by omega))]; rfl), rfl⟩ dX5_canStep_85
set_option maxHeartbeats 4000000 in
set_option maxRecDepth 100000 in
theorem c5_take (l : Launch) (G : GG) {σ : Mem} {I : LI} {st i j : Nat} {A T : X4} (hB : LB I) (hM : MLM σ I) (hs : st < 3) (hc : can I st i j = true) (hi : i ≤ iN I) (hj : j ≤ iM I) (hA : T4 σ (12 * i + j) A) (hT : T4 σ (12 * (i + di st) + (j + dj st)) T) (hA1 : A.1 ≤ 567 ∧ A.2.1 ≤ 567) (hA2 : A.2.2.1 < 2 ^ 31) (hT1 : T.1 ≤ 540 ∧ T.2.1 ≤ 540) (hT2 : T.2.2.1 < 2 ^ 31) : Cv l G yX5_take cX5_take 7 2 46 [.ref (gad G 134), .int (nI st), .int (nI i), .int (nI j)] σ (fun τ => T4 τ (12 * i + j) (tk A (cst I st i j) T) ∧ ∀ c x, ¬ (143 ≤ c ∧ c ≤ 146 ∧ x = 12 * i + j) → τ c x = σ c x) := by
  refine Cv.of (own := RX5) (by decide) rfl (Nat.le_of_ble_eq_true rfl) (fun p e s m args below meth c ls H locs X hl hh => ?_)
  have hb1 := hB.1
  have hb2 := hB.2.1
  have hnx := can_next hs hc hi hj
  have hcc := cst_le hB hs hc hi hj
  have hd := dij (st := st)
  have hne : 12 * i + j ≠ 12 * (i + di st) + (j + dj st) := by omega
  have hl : lv_has ls 7 [(0, .ref (gad G 134)), (1, .int (nI st)), (2, .int (nI i)), (3, .int (nI j))] := hl
  refine lv_iload_n X.x X.b dX5_take_0 rfl (lv_at hl 2 rfl) ?_
  refine lv_iload_n X.x X.b dX5_take_1 rfl (lv_at hl 3 rfl) ?_
  refine f_scalli X hh (c5_at l G (i := i) (j := j)) mf_yX5_at ks_yX5_at km_X5_85 rfl hl.1 [] rfl (Nat.le_of_ble_eq_true rfl) ⟨by decide, by decide⟩ ⟨Nat.zero_le _, Nat.zero_le _⟩ dX5_take_2 (fun r τ H locs hq hh => ?_)
  obtain ⟨rfl, hτ⟩ := hq
  rw [hτ] at hh
  clear hτ
  refine lv_istore (lv' := [(4, .int (nI (12 * i + j))), (0, .ref (gad G 134)), (1, .int (nI st)), (2, .int (nI i)), (3, .int (nI j))]) X.x X.b dX5_take_5 hl (by decide) rfl (fun ls hl => ?_)
  refine lv_iload_n X.x X.b dX5_take_7 rfl (lv_at hl 3 rfl) ?_
  refine lv_iload_n X.x X.b dX5_take_8 rfl (lv_at hl 2 rfl) ?_
  refine f_scalli X hh (c5_syllablesOf l G (st := st) (by omega)) mf_yX5_syllablesOf ks_yX5_syllablesOf km_X5_88 rfl hl.1 [.int (nI i)] rfl (Nat.le_of_ble_eq_true rfl) ⟨by decide, by decide⟩ ⟨Nat.zero_le _, Nat.zero_le _⟩ dX5_take_9 (fun r τ H locs hq hh => ?_)
  obtain ⟨rfl, hτ⟩ := hq
  rw [hτ] at hh
  clear hτ
  refine f_iadd X (z := nI (i + di st)) (nI_add i (di st)) dX5_take_12 ?_
  refine lv_iload_n X.x X.b dX5_take_13 rfl (lv_at hl 4 rfl) ?_
  refine lv_iload_n X.x X.b dX5_take_14 rfl (lv_at hl 2 rfl) ?_
  refine f_scalli X hh (c5_notesOf l G (st := st) (by omega)) mf_yX5_notesOf ks_yX5_notesOf km_X5_92 rfl hl.1 [.int (nI j), .int (nI (i + di st))] rfl (Nat.le_of_ble_eq_true rfl) ⟨by decide, by decide⟩ ⟨Nat.zero_le _, Nat.zero_le _⟩ dX5_take_15 (fun r τ H locs hq hh => ?_)
  obtain ⟨rfl, hτ⟩ := hq
  rw [hτ] at hh
  clear hτ
  refine f_iadd X (z := nI (j + dj st)) (nI_add j (dj st)) dX5_take_18 ?_
  refine f_scalli X hh (c5_at l G (i := i + di st) (j := j + dj st)) mf_yX5_at ks_yX5_at km_X5_85 rfl hl.1 [] rfl (Nat.le_of_ble_eq_true rfl) ⟨by decide, by decide⟩ ⟨Nat.zero_le _, Nat.zero_le _⟩ dX5_take_19 (fun r τ H locs hq hh => ?_)
  obtain ⟨rfl, hτ⟩ := hq
  rw [hτ] at hh
  clear hτ
  refine lv_istore (lv' := [(5, .int (nI (12 * (i + di st) + (j + dj st)))), (4, .int (nI (12 * i + j))), (0, .ref (gad G 134)), (1, .int (nI st)), (2, .int (nI i)), (3, .int (nI j))]) X.x X.b dX5_take_22 hl (by decide) rfl (fun ls hl => ?_)
  refine lv_aload_n X.x X.b dX5_take_24 rfl (lv_at hl 2 rfl) ?_
  refine f_get X hh (v := .ref (gad G 145)) (sh_134 G _) (by decide) rfl in_X5 13 (by decide) kf_X5_41 rfl dX5_take_25 ?_
  refine lv_iload X.x X.b dX5_take_28 (lv_at hl 0 rfl) ?_
  refine f_ialdx X hh (j := 12 * (i + di st) + (j + dj st)) (y := nI T.2.2.1) (sh_145 G _) (by decide) rfl (by omega) (by decide) hT.2.2.1 dX5_take_30 ?_
  refine lv_if_ne (tgt := 35) X.x X.b dX5_take_31 (by decide) (fun c_1 => ?_) (fun c_1 => ?_)
  · have c_1 : ¬ T.2.2.1 = 0 := fun q9 => c_1 ((nI_eq (a := T.2.2.1) (b := 0) (by omega) (by omega)).mpr q9)
    refine lv_aload_n X.x X.b dX5_take_35 rfl (lv_at hl 2 rfl) ?_
    refine lv_iload_n X.x X.b dX5_take_36 rfl (lv_at hl 3 rfl) ?_
    refine lv_iload_n X.x X.b dX5_take_37 rfl (lv_at hl 4 rfl) ?_
    refine lv_iload_n X.x X.b dX5_take_38 rfl (lv_at hl 5 rfl) ?_
    refine f_calli X hh (c5_costOf l G (st := st) (i := i) (j := j) hB hM (by omega) hc (by omega) (by omega)) mf_yX5_costOf ki_yX5_costOf kl_yX5_costOf km_X5_95 (sh_134 G _) (by decide) rfl rfl hl.1 [] rfl (Nat.le_of_ble_eq_true rfl) ⟨by decide, by decide⟩ ⟨Nat.zero_le _, Nat.zero_le _⟩ dX5_take_39 (fun r τ H locs hq hh => ?_)
    obtain ⟨rfl, hτ⟩ := hq
    rw [hτ] at hh
    clear hτ
    refine lv_istore (lv' := [(6, .int (nI (cst I st i j))), (5, .int (nI (12 * (i + di st) + (j + dj st)))), (4, .int (nI (12 * i + j))), (0, .ref (gad G 134)), (1, .int (nI st)), (2, .int (nI i)), (3, .int (nI j))]) X.x X.b dX5_take_42 hl (by decide) rfl (fun ls hl => ?_)
    refine lv_aload_n X.x X.b dX5_take_44 rfl (lv_at hl 3 rfl) ?_
    refine f_get X hh (v := .ref (gad G 145)) (sh_134 G _) (by decide) rfl in_X5 13 (by decide) kf_X5_41 rfl dX5_take_45 ?_
    refine lv_iload X.x X.b dX5_take_48 (lv_at hl 2 rfl) ?_
    refine f_ialdx X hh (j := 12 * i + j) (y := nI A.2.2.1) (sh_145 G _) (by decide) rfl (by omega) (by decide) hA.2.2.1 dX5_take_50 ?_
    refine lv_if_eq (tgt := 74) X.x X.b dX5_take_51 (by decide) (fun c_2 => ?_) (fun c_2 => ?_)
    · have c_2 : A.2.2.1 = 0 := (nI_eq (a := A.2.2.1) (b := 0) (by omega) (by omega)).mp c_2
      refine lv_aload_n X.x X.b dX5_take_74 rfl (lv_at hl 3 rfl) ?_
      refine f_get X hh (v := .ref (gad G 143)) (sh_134 G _) (by decide) rfl in_X5 11 (by decide) kf_X5_35 rfl dX5_take_75 ?_
      refine lv_iload X.x X.b dX5_take_78 (lv_at hl 2 rfl) ?_
      refine lv_iload X.x X.b dX5_take_80 (lv_at hl 0 rfl) ?_
      refine lv_aload_n X.x X.b dX5_take_82 rfl (lv_at hl 3 rfl) ?_
      refine f_get X hh (v := .ref (gad G 143)) (sh_134 G _) (by decide) rfl in_X5 11 (by decide) kf_X5_35 rfl dX5_take_83 ?_
      refine lv_iload X.x X.b dX5_take_86 (lv_at hl 1 rfl) ?_
      refine f_ialdx X hh (j := 12 * (i + di st) + (j + dj st)) (y := nI T.1) (sh_143 G _) (by decide) rfl (by omega) (by decide) hT.1 dX5_take_88 ?_
      refine f_iadd X (z := nI (cst I st i j + T.1)) (nI_add (cst I st i j) T.1) dX5_take_89 ?_
      refine f_iast X hh (j := 12 * i + j) (sh_143 G) (by decide) rfl (by omega) (by decide) dX5_take_90 (fun H locs hh => ?_)
      refine lv_aload_n X.x X.b dX5_take_91 rfl (lv_at hl 3 rfl) ?_
      refine f_get X hh (v := .ref (gad G 146)) (sh_134 G _) (by decide) rfl in_X5 14 (by decide) kf_X5_44 rfl dX5_take_92 ?_
      refine lv_iload X.x X.b dX5_take_95 (lv_at hl 2 rfl) ?_
      refine lv_iconst (v := nI 0) X.x X.b dX5_take_97 (by decide) ?_
      refine f_iast X hh (j := 12 * i + j) (sh_146 G) (by decide) rfl (by omega) (by decide) dX5_take_98 (fun H locs hh => ?_)
      refine lv_aload_n X.x X.b dX5_take_99 rfl (lv_at hl 3 rfl) ?_
      refine f_get X hh (v := .ref (gad G 146)) (sh_134 G _) (by decide) rfl in_X5 14 (by decide) kf_X5_44 rfl dX5_take_100 ?_
      refine lv_iload X.x X.b dX5_take_103 (lv_at hl 2 rfl) ?_
      refine lv_dup2_11 X.x X.b dX5_take_105 rfl rfl ?_
      refine f_ialdx X hh (j := 12 * i + j) (y := nI 0) (sh_146 G _) (by decide) rfl (by omega) (by decide) (by rw [mset_ss]) dX5_take_106 ?_
      refine lv_iload X.x X.b dX5_take_107 (lv_at hl 0 rfl) ?_
      refine lv_aload_n X.x X.b dX5_take_109 rfl (lv_at hl 3 rfl) ?_
      refine f_get X hh (v := .ref (gad G 143)) (sh_134 G _) (by decide) rfl in_X5 11 (by decide) kf_X5_35 rfl dX5_take_110 ?_
      refine lv_iload X.x X.b dX5_take_113 (lv_at hl 1 rfl) ?_
      refine f_ialdx X hh (j := 12 * (i + di st) + (j + dj st)) (y := nI T.1) (sh_143 G _) (by decide) rfl (by omega) (by decide) (by rw [mset_n (show 143 ≠ 146 by omega), mset_sn (show 12 * (i + di st) + (j + dj st) ≠ 12 * i + j by omega)]; exact hT.1) dX5_take_115 ?_
      refine f_iadd X (z := nI (cst I st i j + T.1)) (nI_add (cst I st i j) T.1) dX5_take_116 ?_
      refine lv_aload_n X.x X.b dX5_take_117 rfl (lv_at hl 3 rfl) ?_
      refine f_get X hh (v := .ref (gad G 143)) (sh_134 G _) (by decide) rfl in_X5 11 (by decide) kf_X5_35 rfl dX5_take_118 ?_
      refine lv_iload X.x X.b dX5_take_121 (lv_at hl 2 rfl) ?_
      refine f_ialdx X hh (j := 12 * i + j) (y := nI (cst I st i j + T.1)) (sh_143 G _) (by decide) rfl (by omega) (by decide) (by rw [mset_n (show 143 ≠ 146 by omega), mset_ss]) dX5_take_123 ?_
      refine lv_icmp_ne (tgt := 137) X.x X.b dX5_take_124 (by decide) (fun c_3 => ?_) (fun c_3 => ?_)
      · have c_3 : ¬ (cst I st i j + T.1) = (cst I st i j + T.1) := fun q9 => c_3 ((nI_eq (a := (cst I st i j + T.1)) (b := (cst I st i j + T.1)) (by omega) (by omega)).mpr q9)
        refine lv_iconst (v := nI 0) X.x X.b dX5_take_137 (by decide) ?_
        refine f_iadd X (z := nI (0 + 0)) (nI_add 0 0) dX5_take_138 ?_
        refine f_iast X hh (j := 12 * i + j) (sh_146 G) (by decide) rfl (by omega) (by decide) dX5_take_139 (fun H locs hh => ?_)
        refine lv_aload_n X.x X.b dX5_take_140 rfl (lv_at hl 3 rfl) ?_
        refine f_get X hh (v := .ref (gad G 144)) (sh_134 G _) (by decide) rfl in_X5 12 (by decide) kf_X5_38 rfl dX5_take_141 ?_
        refine lv_iload X.x X.b dX5_take_144 (lv_at hl 2 rfl) ?_
        refine lv_aload_n X.x X.b dX5_take_146 rfl (lv_at hl 3 rfl) ?_
        refine f_get X hh (v := .ref (gad G 145)) (sh_134 G _) (by decide) rfl in_X5 13 (by decide) kf_X5_41 rfl dX5_take_147 ?_
        refine lv_iload X.x X.b dX5_take_150 (lv_at hl 2 rfl) ?_
        refine f_ialdx X hh (j := 12 * i + j) (y := nI A.2.2.1) (sh_145 G _) (by decide) rfl (by omega) (by decide) (by rw [mset_n (show 145 ≠ 146 by omega), mset_n (show 145 ≠ 146 by omega), mset_n (show 145 ≠ 143 by omega)]; exact hA.2.2.1) dX5_take_152 ?_
        refine lv_if_eq (tgt := 176) X.x X.b dX5_take_153 (by decide) (fun c_4 => ?_) (fun c_4 => ?_)
        · have c_4 : A.2.2.1 = 0 := (nI_eq (a := A.2.2.1) (b := 0) (by omega) (by omega)).mp c_4
          refine lv_iload X.x X.b dX5_take_176 (lv_at hl 0 rfl) ?_
          refine lv_aload_n X.x X.b dX5_take_178 rfl (lv_at hl 3 rfl) ?_
          refine f_get X hh (v := .ref (gad G 144)) (sh_134 G _) (by decide) rfl in_X5 12 (by decide) kf_X5_38 rfl dX5_take_179 ?_
          refine lv_iload X.x X.b dX5_take_182 (lv_at hl 1 rfl) ?_
          refine f_ialdx X hh (j := 12 * (i + di st) + (j + dj st)) (y := nI T.2.1) (sh_144 G _) (by decide) rfl (by omega) (by decide) (by rw [mset_n (show 144 ≠ 146 by omega), mset_n (show 144 ≠ 146 by omega), mset_n (show 144 ≠ 143 by omega)]; exact hT.2.1) dX5_take_184 ?_
          refine f_iadd X (z := nI (cst I st i j + T.2.1)) (nI_add (cst I st i j) T.2.1) dX5_take_185 ?_
          refine lv_goto (tgt := 196) X.x X.b dX5_take_186 (by decide) ?_
          refine f_iast X hh (j := 12 * i + j) (sh_144 G) (by decide) rfl (by omega) (by decide) dX5_take_196 (fun H locs hh => ?_)
          refine lv_aload_n X.x X.b dX5_take_197 rfl (lv_at hl 3 rfl) ?_
          refine f_get X hh (v := .ref (gad G 145)) (sh_134 G _) (by decide) rfl in_X5 13 (by decide) kf_X5_41 rfl dX5_take_198 ?_
          refine lv_iload X.x X.b dX5_take_201 (lv_at hl 2 rfl) ?_
          refine lv_dup2_11 X.x X.b dX5_take_203 rfl rfl ?_
          refine f_ialdx X hh (j := 12 * i + j) (y := nI A.2.2.1) (sh_145 G _) (by decide) rfl (by omega) (by decide) (by rw [mset_n (show 145 ≠ 144 by omega), mset_n (show 145 ≠ 146 by omega), mset_n (show 145 ≠ 146 by omega), mset_n (show 145 ≠ 143 by omega)]; exact hA.2.2.1) dX5_take_204 ?_
          refine lv_aload_n X.x X.b dX5_take_205 rfl (lv_at hl 3 rfl) ?_
          refine f_get X hh (v := .ref (gad G 145)) (sh_134 G _) (by decide) rfl in_X5 13 (by decide) kf_X5_41 rfl dX5_take_206 ?_
          refine lv_iload X.x X.b dX5_take_209 (lv_at hl 1 rfl) ?_
          refine f_ialdx X hh (j := 12 * (i + di st) + (j + dj st)) (y := nI T.2.2.1) (sh_145 G _) (by decide) rfl (by omega) (by decide) (by rw [mset_n (show 145 ≠ 144 by omega), mset_n (show 145 ≠ 146 by omega), mset_n (show 145 ≠ 146 by omega), mset_n (show 145 ≠ 143 by omega)]; exact hT.2.2.1) dX5_take_211 ?_
          refine f_iadd X (z := nI (A.2.2.1 + T.2.2.1)) (nI_add A.2.2.1 T.2.2.1) dX5_take_212 ?_
          refine f_iast X hh (j := 12 * i + j) (sh_145 G) (by decide) rfl (by omega) (by decide) dX5_take_213 (fun H locs hh => ?_)
          refine f_vret X hh ?_ dX5_take_214
          exact absurd rfl c_3
        · have c_4 : ¬ A.2.2.1 = 0 := fun q9 => c_4 ((nI_eq (a := A.2.2.1) (b := 0) (by omega) (by omega)).mpr q9)
          refine lv_iload X.x X.b dX5_take_156 (lv_at hl 0 rfl) ?_
          refine lv_aload_n X.x X.b dX5_take_158 rfl (lv_at hl 3 rfl) ?_
          refine f_get X hh (v := .ref (gad G 144)) (sh_134 G _) (by decide) rfl in_X5 12 (by decide) kf_X5_38 rfl dX5_take_159 ?_
          refine lv_iload X.x X.b dX5_take_162 (lv_at hl 1 rfl) ?_
          refine f_ialdx X hh (j := 12 * (i + di st) + (j + dj st)) (y := nI T.2.1) (sh_144 G _) (by decide) rfl (by omega) (by decide) (by rw [mset_n (show 144 ≠ 146 by omega), mset_n (show 144 ≠ 146 by omega), mset_n (show 144 ≠ 143 by omega)]; exact hT.2.1) dX5_take_164 ?_
          refine f_iadd X (z := nI (cst I st i j + T.2.1)) (nI_add (cst I st i j) T.2.1) dX5_take_165 ?_
          refine lv_aload_n X.x X.b dX5_take_166 rfl (lv_at hl 3 rfl) ?_
          refine f_get X hh (v := .ref (gad G 144)) (sh_134 G _) (by decide) rfl in_X5 12 (by decide) kf_X5_38 rfl dX5_take_167 ?_
          refine lv_iload X.x X.b dX5_take_170 (lv_at hl 2 rfl) ?_
          refine f_ialdx X hh (j := 12 * i + j) (y := nI A.2.1) (sh_144 G _) (by decide) rfl (by omega) (by decide) (by rw [mset_n (show 144 ≠ 146 by omega), mset_n (show 144 ≠ 146 by omega), mset_n (show 144 ≠ 143 by omega)]; exact hA.2.1) dX5_take_172 ?_
          refine lv_icmp_le (tgt := 189) X.x X.b dX5_take_173 (by decide) (fun c_5 => ?_) (fun c_5 => ?_)
          · have c_5 : (cst I st i j + T.2.1) ≤ A.2.1 := (nI_leI (a := (cst I st i j + T.2.1)) (b := A.2.1) (by omega) (by omega)).mp c_5
            refine lv_aload_n X.x X.b dX5_take_189 rfl (lv_at hl 3 rfl) ?_
            refine f_get X hh (v := .ref (gad G 144)) (sh_134 G _) (by decide) rfl in_X5 12 (by decide) kf_X5_38 rfl dX5_take_190 ?_
            refine lv_iload X.x X.b dX5_take_193 (lv_at hl 2 rfl) ?_
            refine f_ialdx X hh (j := 12 * i + j) (y := nI A.2.1) (sh_144 G _) (by decide) rfl (by omega) (by decide) (by rw [mset_n (show 144 ≠ 146 by omega), mset_n (show 144 ≠ 146 by omega), mset_n (show 144 ≠ 143 by omega)]; exact hA.2.1) dX5_take_195 ?_
            refine f_iast X hh (j := 12 * i + j) (sh_144 G) (by decide) rfl (by omega) (by decide) dX5_take_196 (fun H locs hh => ?_)
            refine lv_aload_n X.x X.b dX5_take_197 rfl (lv_at hl 3 rfl) ?_
            refine f_get X hh (v := .ref (gad G 145)) (sh_134 G _) (by decide) rfl in_X5 13 (by decide) kf_X5_41 rfl dX5_take_198 ?_
            refine lv_iload X.x X.b dX5_take_201 (lv_at hl 2 rfl) ?_
            refine lv_dup2_11 X.x X.b dX5_take_203 rfl rfl ?_
            refine f_ialdx X hh (j := 12 * i + j) (y := nI A.2.2.1) (sh_145 G _) (by decide) rfl (by omega) (by decide) (by rw [mset_n (show 145 ≠ 144 by omega), mset_n (show 145 ≠ 146 by omega), mset_n (show 145 ≠ 146 by omega), mset_n (show 145 ≠ 143 by omega)]; exact hA.2.2.1) dX5_take_204 ?_
            refine lv_aload_n X.x X.b dX5_take_205 rfl (lv_at hl 3 rfl) ?_
            refine f_get X hh (v := .ref (gad G 145)) (sh_134 G _) (by decide) rfl in_X5 13 (by decide) kf_X5_41 rfl dX5_take_206 ?_
            refine lv_iload X.x X.b dX5_take_209 (lv_at hl 1 rfl) ?_
            refine f_ialdx X hh (j := 12 * (i + di st) + (j + dj st)) (y := nI T.2.2.1) (sh_145 G _) (by decide) rfl (by omega) (by decide) (by rw [mset_n (show 145 ≠ 144 by omega), mset_n (show 145 ≠ 146 by omega), mset_n (show 145 ≠ 146 by omega), mset_n (show 145 ≠ 143 by omega)]; exact hT.2.2.1) dX5_take_211 ?_
            refine f_iadd X (z := nI (A.2.2.1 + T.2.2.1)) (nI_add A.2.2.1 T.2.2.1) dX5_take_212 ?_
            refine f_iast X hh (j := 12 * i + j) (sh_145 G) (by decide) rfl (by omega) (by decide) dX5_take_213 (fun H locs hh => ?_)
            refine f_vret X hh ?_ dX5_take_214
            exact absurd rfl c_3
          · have c_5 : ¬ (cst I st i j + T.2.1) ≤ A.2.1 := fun q9 => c_5 ((nI_leI (a := (cst I st i j + T.2.1)) (b := A.2.1) (by omega) (by omega)).mpr q9)
            refine lv_iload X.x X.b dX5_take_176 (lv_at hl 0 rfl) ?_
            refine lv_aload_n X.x X.b dX5_take_178 rfl (lv_at hl 3 rfl) ?_
            refine f_get X hh (v := .ref (gad G 144)) (sh_134 G _) (by decide) rfl in_X5 12 (by decide) kf_X5_38 rfl dX5_take_179 ?_
            refine lv_iload X.x X.b dX5_take_182 (lv_at hl 1 rfl) ?_
            refine f_ialdx X hh (j := 12 * (i + di st) + (j + dj st)) (y := nI T.2.1) (sh_144 G _) (by decide) rfl (by omega) (by decide) (by rw [mset_n (show 144 ≠ 146 by omega), mset_n (show 144 ≠ 146 by omega), mset_n (show 144 ≠ 143 by omega)]; exact hT.2.1) dX5_take_184 ?_
            refine f_iadd X (z := nI (cst I st i j + T.2.1)) (nI_add (cst I st i j) T.2.1) dX5_take_185 ?_
            refine lv_goto (tgt := 196) X.x X.b dX5_take_186 (by decide) ?_
            refine f_iast X hh (j := 12 * i + j) (sh_144 G) (by decide) rfl (by omega) (by decide) dX5_take_196 (fun H locs hh => ?_)
            refine lv_aload_n X.x X.b dX5_take_197 rfl (lv_at hl 3 rfl) ?_
            refine f_get X hh (v := .ref (gad G 145)) (sh_134 G _) (by decide) rfl in_X5 13 (by decide) kf_X5_41 rfl dX5_take_198 ?_
            refine lv_iload X.x X.b dX5_take_201 (lv_at hl 2 rfl) ?_
            refine lv_dup2_11 X.x X.b dX5_take_203 rfl rfl ?_
            refine f_ialdx X hh (j := 12 * i + j) (y := nI A.2.2.1) (sh_145 G _) (by decide) rfl (by omega) (by decide) (by rw [mset_n (show 145 ≠ 144 by omega), mset_n (show 145 ≠ 146 by omega), mset_n (show 145 ≠ 146 by omega), mset_n (show 145 ≠ 143 by omega)]; exact hA.2.2.1) dX5_take_204 ?_
            refine lv_aload_n X.x X.b dX5_take_205 rfl (lv_at hl 3 rfl) ?_
            refine f_get X hh (v := .ref (gad G 145)) (sh_134 G _) (by decide) rfl in_X5 13 (by decide) kf_X5_41 rfl dX5_take_206 ?_
            refine lv_iload X.x X.b dX5_take_209 (lv_at hl 1 rfl) ?_
            refine f_ialdx X hh (j := 12 * (i + di st) + (j + dj st)) (y := nI T.2.2.1) (sh_145 G _) (by decide) rfl (by omega) (by decide) (by rw [mset_n (show 145 ≠ 144 by omega), mset_n (show 145 ≠ 146 by omega), mset_n (show 145 ≠ 146 by omega), mset_n (show 145 ≠ 143 by omega)]; exact hT.2.2.1) dX5_take_211 ?_
            refine f_iadd X (z := nI (A.2.2.1 + T.2.2.1)) (nI_add A.2.2.1 T.2.2.1) dX5_take_212 ?_
            refine f_iast X hh (j := 12 * i + j) (sh_145 G) (by decide) rfl (by omega) (by decide) dX5_take_213 (fun H locs hh => ?_)
            refine f_vret X hh ?_ dX5_take_214
            exact absurd rfl c_3
      · have c_3 : (cst I st i j + T.1) = (cst I st i j + T.1) := (nI_eq (a := (cst I st i j + T.1)) (b := (cst I st i j + T.1)) (by omega) (by omega)).mp c_3
        refine lv_aload_n X.x X.b dX5_take_127 rfl (lv_at hl 3 rfl) ?_
        refine f_get X hh (v := .ref (gad G 146)) (sh_134 G _) (by decide) rfl in_X5 14 (by decide) kf_X5_44 rfl dX5_take_128 ?_
        refine lv_iload X.x X.b dX5_take_131 (lv_at hl 1 rfl) ?_
        refine f_ialdx X hh (j := 12 * (i + di st) + (j + dj st)) (y := nI T.2.2.2) (sh_146 G _) (by decide) rfl (by omega) (by decide) (by rw [mset_sn (show 12 * (i + di st) + (j + dj st) ≠ 12 * i + j by omega), mset_n (show 146 ≠ 143 by omega)]; exact hT.2.2.2) dX5_take_133 ?_
        refine lv_goto (tgt := 138) X.x X.b dX5_take_134 (by decide) ?_
        refine f_iadd X (z := nI (0 + T.2.2.2)) (nI_add 0 T.2.2.2) dX5_take_138 ?_
        refine f_iast X hh (j := 12 * i + j) (sh_146 G) (by decide) rfl (by omega) (by decide) dX5_take_139 (fun H locs hh => ?_)
        refine lv_aload_n X.x X.b dX5_take_140 rfl (lv_at hl 3 rfl) ?_
        refine f_get X hh (v := .ref (gad G 144)) (sh_134 G _) (by decide) rfl in_X5 12 (by decide) kf_X5_38 rfl dX5_take_141 ?_
        refine lv_iload X.x X.b dX5_take_144 (lv_at hl 2 rfl) ?_
        refine lv_aload_n X.x X.b dX5_take_146 rfl (lv_at hl 3 rfl) ?_
        refine f_get X hh (v := .ref (gad G 145)) (sh_134 G _) (by decide) rfl in_X5 13 (by decide) kf_X5_41 rfl dX5_take_147 ?_
        refine lv_iload X.x X.b dX5_take_150 (lv_at hl 2 rfl) ?_
        refine f_ialdx X hh (j := 12 * i + j) (y := nI A.2.2.1) (sh_145 G _) (by decide) rfl (by omega) (by decide) (by rw [mset_n (show 145 ≠ 146 by omega), mset_n (show 145 ≠ 146 by omega), mset_n (show 145 ≠ 143 by omega)]; exact hA.2.2.1) dX5_take_152 ?_
        refine lv_if_eq (tgt := 176) X.x X.b dX5_take_153 (by decide) (fun c_6 => ?_) (fun c_6 => ?_)
        · have c_6 : A.2.2.1 = 0 := (nI_eq (a := A.2.2.1) (b := 0) (by omega) (by omega)).mp c_6
          refine lv_iload X.x X.b dX5_take_176 (lv_at hl 0 rfl) ?_
          refine lv_aload_n X.x X.b dX5_take_178 rfl (lv_at hl 3 rfl) ?_
          refine f_get X hh (v := .ref (gad G 144)) (sh_134 G _) (by decide) rfl in_X5 12 (by decide) kf_X5_38 rfl dX5_take_179 ?_
          refine lv_iload X.x X.b dX5_take_182 (lv_at hl 1 rfl) ?_
          refine f_ialdx X hh (j := 12 * (i + di st) + (j + dj st)) (y := nI T.2.1) (sh_144 G _) (by decide) rfl (by omega) (by decide) (by rw [mset_n (show 144 ≠ 146 by omega), mset_n (show 144 ≠ 146 by omega), mset_n (show 144 ≠ 143 by omega)]; exact hT.2.1) dX5_take_184 ?_
          refine f_iadd X (z := nI (cst I st i j + T.2.1)) (nI_add (cst I st i j) T.2.1) dX5_take_185 ?_
          refine lv_goto (tgt := 196) X.x X.b dX5_take_186 (by decide) ?_
          refine f_iast X hh (j := 12 * i + j) (sh_144 G) (by decide) rfl (by omega) (by decide) dX5_take_196 (fun H locs hh => ?_)
          refine lv_aload_n X.x X.b dX5_take_197 rfl (lv_at hl 3 rfl) ?_
          refine f_get X hh (v := .ref (gad G 145)) (sh_134 G _) (by decide) rfl in_X5 13 (by decide) kf_X5_41 rfl dX5_take_198 ?_
          refine lv_iload X.x X.b dX5_take_201 (lv_at hl 2 rfl) ?_
          refine lv_dup2_11 X.x X.b dX5_take_203 rfl rfl ?_
          refine f_ialdx X hh (j := 12 * i + j) (y := nI A.2.2.1) (sh_145 G _) (by decide) rfl (by omega) (by decide) (by rw [mset_n (show 145 ≠ 144 by omega), mset_n (show 145 ≠ 146 by omega), mset_n (show 145 ≠ 146 by omega), mset_n (show 145 ≠ 143 by omega)]; exact hA.2.2.1) dX5_take_204 ?_
          refine lv_aload_n X.x X.b dX5_take_205 rfl (lv_at hl 3 rfl) ?_
          refine f_get X hh (v := .ref (gad G 145)) (sh_134 G _) (by decide) rfl in_X5 13 (by decide) kf_X5_41 rfl dX5_take_206 ?_
          refine lv_iload X.x X.b dX5_take_209 (lv_at hl 1 rfl) ?_
          refine f_ialdx X hh (j := 12 * (i + di st) + (j + dj st)) (y := nI T.2.2.1) (sh_145 G _) (by decide) rfl (by omega) (by decide) (by rw [mset_n (show 145 ≠ 144 by omega), mset_n (show 145 ≠ 146 by omega), mset_n (show 145 ≠ 146 by omega), mset_n (show 145 ≠ 143 by omega)]; exact hT.2.2.1) dX5_take_211 ?_
          refine f_iadd X (z := nI (A.2.2.1 + T.2.2.1)) (nI_add A.2.2.1 T.2.2.1) dX5_take_212 ?_
          refine f_iast X hh (j := 12 * i + j) (sh_145 G) (by decide) rfl (by omega) (by decide) dX5_take_213 (fun H locs hh => ?_)
          refine f_vret X hh ?_ dX5_take_214
          have hc1 : (A.2.2.1 = 0 ∨ cst I st i j + T.1 < A.1) := by omega
          have hc2 : cst I st i j + T.1 = cst I st i j + T.1 := by omega
          have hc3 : (A.2.2.1 = 0 ∨ A.2.1 < cst I st i j + T.2.1) := by omega
          have e9 : tk A (cst I st i j) T = (cst I st i j + T.1, cst I st i j + T.2.1, A.2.2.1 + T.2.2.1, 0 + T.2.2.2) := by unfold tk; rw [if_neg c_1]; simp only [if_pos hc1, if_pos hc2, if_pos hc3, if_true]
          rw [e9]
          exact ⟨⟨(by rw [mset_n (show 143 ≠ 145 by omega), mset_n (show 143 ≠ 144 by omega), mset_n (show 143 ≠ 146 by omega), mset_n (show 143 ≠ 146 by omega), mset_ss]), (by rw [mset_n (show 144 ≠ 145 by omega), mset_ss]), (by rw [mset_ss]), (by rw [mset_n (show 146 ≠ 145 by omega), mset_n (show 146 ≠ 144 by omega), mset_ss])⟩, fun c x hx => by rw [mset_nn (by omega), mset_nn (by omega), mset_nn (by omega), mset_nn (by omega), mset_nn (by omega)]⟩
        · have c_6 : ¬ A.2.2.1 = 0 := fun q9 => c_6 ((nI_eq (a := A.2.2.1) (b := 0) (by omega) (by omega)).mpr q9)
          refine lv_iload X.x X.b dX5_take_156 (lv_at hl 0 rfl) ?_
          refine lv_aload_n X.x X.b dX5_take_158 rfl (lv_at hl 3 rfl) ?_
          refine f_get X hh (v := .ref (gad G 144)) (sh_134 G _) (by decide) rfl in_X5 12 (by decide) kf_X5_38 rfl dX5_take_159 ?_
          refine lv_iload X.x X.b dX5_take_162 (lv_at hl 1 rfl) ?_
          refine f_ialdx X hh (j := 12 * (i + di st) + (j + dj st)) (y := nI T.2.1) (sh_144 G _) (by decide) rfl (by omega) (by decide) (by rw [mset_n (show 144 ≠ 146 by omega), mset_n (show 144 ≠ 146 by omega), mset_n (show 144 ≠ 143 by omega)]; exact hT.2.1) dX5_take_164 ?_
          refine f_iadd X (z := nI (cst I st i j + T.2.1)) (nI_add (cst I st i j) T.2.1) dX5_take_165 ?_
          refine lv_aload_n X.x X.b dX5_take_166 rfl (lv_at hl 3 rfl) ?_
          refine f_get X hh (v := .ref (gad G 144)) (sh_134 G _) (by decide) rfl in_X5 12 (by decide) kf_X5_38 rfl dX5_take_167 ?_
          refine lv_iload X.x X.b dX5_take_170 (lv_at hl 2 rfl) ?_
          refine f_ialdx X hh (j := 12 * i + j) (y := nI A.2.1) (sh_144 G _) (by decide) rfl (by omega) (by decide) (by rw [mset_n (show 144 ≠ 146 by omega), mset_n (show 144 ≠ 146 by omega), mset_n (show 144 ≠ 143 by omega)]; exact hA.2.1) dX5_take_172 ?_
          refine lv_icmp_le (tgt := 189) X.x X.b dX5_take_173 (by decide) (fun c_7 => ?_) (fun c_7 => ?_)
          · have c_7 : (cst I st i j + T.2.1) ≤ A.2.1 := (nI_leI (a := (cst I st i j + T.2.1)) (b := A.2.1) (by omega) (by omega)).mp c_7
            refine lv_aload_n X.x X.b dX5_take_189 rfl (lv_at hl 3 rfl) ?_
            refine f_get X hh (v := .ref (gad G 144)) (sh_134 G _) (by decide) rfl in_X5 12 (by decide) kf_X5_38 rfl dX5_take_190 ?_
            refine lv_iload X.x X.b dX5_take_193 (lv_at hl 2 rfl) ?_
            refine f_ialdx X hh (j := 12 * i + j) (y := nI A.2.1) (sh_144 G _) (by decide) rfl (by omega) (by decide) (by rw [mset_n (show 144 ≠ 146 by omega), mset_n (show 144 ≠ 146 by omega), mset_n (show 144 ≠ 143 by omega)]; exact hA.2.1) dX5_take_195 ?_
            refine f_iast X hh (j := 12 * i + j) (sh_144 G) (by decide) rfl (by omega) (by decide) dX5_take_196 (fun H locs hh => ?_)
            refine lv_aload_n X.x X.b dX5_take_197 rfl (lv_at hl 3 rfl) ?_
            refine f_get X hh (v := .ref (gad G 145)) (sh_134 G _) (by decide) rfl in_X5 13 (by decide) kf_X5_41 rfl dX5_take_198 ?_
            refine lv_iload X.x X.b dX5_take_201 (lv_at hl 2 rfl) ?_
            refine lv_dup2_11 X.x X.b dX5_take_203 rfl rfl ?_
            refine f_ialdx X hh (j := 12 * i + j) (y := nI A.2.2.1) (sh_145 G _) (by decide) rfl (by omega) (by decide) (by rw [mset_n (show 145 ≠ 144 by omega), mset_n (show 145 ≠ 146 by omega), mset_n (show 145 ≠ 146 by omega), mset_n (show 145 ≠ 143 by omega)]; exact hA.2.2.1) dX5_take_204 ?_
            refine lv_aload_n X.x X.b dX5_take_205 rfl (lv_at hl 3 rfl) ?_
            refine f_get X hh (v := .ref (gad G 145)) (sh_134 G _) (by decide) rfl in_X5 13 (by decide) kf_X5_41 rfl dX5_take_206 ?_
            refine lv_iload X.x X.b dX5_take_209 (lv_at hl 1 rfl) ?_
            refine f_ialdx X hh (j := 12 * (i + di st) + (j + dj st)) (y := nI T.2.2.1) (sh_145 G _) (by decide) rfl (by omega) (by decide) (by rw [mset_n (show 145 ≠ 144 by omega), mset_n (show 145 ≠ 146 by omega), mset_n (show 145 ≠ 146 by omega), mset_n (show 145 ≠ 143 by omega)]; exact hT.2.2.1) dX5_take_211 ?_
            refine f_iadd X (z := nI (A.2.2.1 + T.2.2.1)) (nI_add A.2.2.1 T.2.2.1) dX5_take_212 ?_
            refine f_iast X hh (j := 12 * i + j) (sh_145 G) (by decide) rfl (by omega) (by decide) dX5_take_213 (fun H locs hh => ?_)
            refine f_vret X hh ?_ dX5_take_214
            have hc1 : (A.2.2.1 = 0 ∨ cst I st i j + T.1 < A.1) := by omega
            have hc2 : cst I st i j + T.1 = cst I st i j + T.1 := by omega
            have hc3 : ¬ (A.2.2.1 = 0 ∨ A.2.1 < cst I st i j + T.2.1) := by omega
            have e9 : tk A (cst I st i j) T = (cst I st i j + T.1, A.2.1, A.2.2.1 + T.2.2.1, 0 + T.2.2.2) := by unfold tk; rw [if_neg c_1]; simp only [if_pos hc1, if_pos hc2, if_neg hc3, if_true]
            rw [e9]
            exact ⟨⟨(by rw [mset_n (show 143 ≠ 145 by omega), mset_n (show 143 ≠ 144 by omega), mset_n (show 143 ≠ 146 by omega), mset_n (show 143 ≠ 146 by omega), mset_ss]), (by rw [mset_n (show 144 ≠ 145 by omega), mset_ss]), (by rw [mset_ss]), (by rw [mset_n (show 146 ≠ 145 by omega), mset_n (show 146 ≠ 144 by omega), mset_ss])⟩, fun c x hx => by rw [mset_nn (by omega), mset_nn (by omega), mset_nn (by omega), mset_nn (by omega), mset_nn (by omega)]⟩
          · have c_7 : ¬ (cst I st i j + T.2.1) ≤ A.2.1 := fun q9 => c_7 ((nI_leI (a := (cst I st i j + T.2.1)) (b := A.2.1) (by omega) (by omega)).mpr q9)
            refine lv_iload X.x X.b dX5_take_176 (lv_at hl 0 rfl) ?_
            refine lv_aload_n X.x X.b dX5_take_178 rfl (lv_at hl 3 rfl) ?_
            refine f_get X hh (v := .ref (gad G 144)) (sh_134 G _) (by decide) rfl in_X5 12 (by decide) kf_X5_38 rfl dX5_take_179 ?_
            refine lv_iload X.x X.b dX5_take_182 (lv_at hl 1 rfl) ?_
            refine f_ialdx X hh (j := 12 * (i + di st) + (j + dj st)) (y := nI T.2.1) (sh_144 G _) (by decide) rfl (by omega) (by decide) (by rw [mset_n (show 144 ≠ 146 by omega), mset_n (show 144 ≠ 146 by omega), mset_n (show 144 ≠ 143 by omega)]; exact hT.2.1) dX5_take_184 ?_
            refine f_iadd X (z := nI (cst I st i j + T.2.1)) (nI_add (cst I st i j) T.2.1) dX5_take_185 ?_
            refine lv_goto (tgt := 196) X.x X.b dX5_take_186 (by decide) ?_
            refine f_iast X hh (j := 12 * i + j) (sh_144 G) (by decide) rfl (by omega) (by decide) dX5_take_196 (fun H locs hh => ?_)
            refine lv_aload_n X.x X.b dX5_take_197 rfl (lv_at hl 3 rfl) ?_
            refine f_get X hh (v := .ref (gad G 145)) (sh_134 G _) (by decide) rfl in_X5 13 (by decide) kf_X5_41 rfl dX5_take_198 ?_
            refine lv_iload X.x X.b dX5_take_201 (lv_at hl 2 rfl) ?_
            refine lv_dup2_11 X.x X.b dX5_take_203 rfl rfl ?_
            refine f_ialdx X hh (j := 12 * i + j) (y := nI A.2.2.1) (sh_145 G _) (by decide) rfl (by omega) (by decide) (by rw [mset_n (show 145 ≠ 144 by omega), mset_n (show 145 ≠ 146 by omega), mset_n (show 145 ≠ 146 by omega), mset_n (show 145 ≠ 143 by omega)]; exact hA.2.2.1) dX5_take_204 ?_
            refine lv_aload_n X.x X.b dX5_take_205 rfl (lv_at hl 3 rfl) ?_
            refine f_get X hh (v := .ref (gad G 145)) (sh_134 G _) (by decide) rfl in_X5 13 (by decide) kf_X5_41 rfl dX5_take_206 ?_
            refine lv_iload X.x X.b dX5_take_209 (lv_at hl 1 rfl) ?_
            refine f_ialdx X hh (j := 12 * (i + di st) + (j + dj st)) (y := nI T.2.2.1) (sh_145 G _) (by decide) rfl (by omega) (by decide) (by rw [mset_n (show 145 ≠ 144 by omega), mset_n (show 145 ≠ 146 by omega), mset_n (show 145 ≠ 146 by omega), mset_n (show 145 ≠ 143 by omega)]; exact hT.2.2.1) dX5_take_211 ?_
            refine f_iadd X (z := nI (A.2.2.1 + T.2.2.1)) (nI_add A.2.2.1 T.2.2.1) dX5_take_212 ?_
            refine f_iast X hh (j := 12 * i + j) (sh_145 G) (by decide) rfl (by omega) (by decide) dX5_take_213 (fun H locs hh => ?_)
            refine f_vret X hh ?_ dX5_take_214
            have hc1 : (A.2.2.1 = 0 ∨ cst I st i j + T.1 < A.1) := by omega
            have hc2 : cst I st i j + T.1 = cst I st i j + T.1 := by omega
            have hc3 : (A.2.2.1 = 0 ∨ A.2.1 < cst I st i j + T.2.1) := by omega
            have e9 : tk A (cst I st i j) T = (cst I st i j + T.1, cst I st i j + T.2.1, A.2.2.1 + T.2.2.1, 0 + T.2.2.2) := by unfold tk; rw [if_neg c_1]; simp only [if_pos hc1, if_pos hc2, if_pos hc3, if_true]
            rw [e9]
            exact ⟨⟨(by rw [mset_n (show 143 ≠ 145 by omega), mset_n (show 143 ≠ 144 by omega), mset_n (show 143 ≠ 146 by omega), mset_n (show 143 ≠ 146 by omega), mset_ss]), (by rw [mset_n (show 144 ≠ 145 by omega), mset_ss]), (by rw [mset_ss]), (by rw [mset_n (show 146 ≠ 145 by omega), mset_n (show 146 ≠ 144 by omega), mset_ss])⟩, fun c x hx => by rw [mset_nn (by omega), mset_nn (by omega), mset_nn (by omega), mset_nn (by omega), mset_nn (by omega)]⟩
    · have c_2 : ¬ A.2.2.1 = 0 := fun q9 => c_2 ((nI_eq (a := A.2.2.1) (b := 0) (by omega) (by omega)).mpr q9)
      refine lv_iload X.x X.b dX5_take_54 (lv_at hl 0 rfl) ?_
      refine lv_aload_n X.x X.b dX5_take_56 rfl (lv_at hl 3 rfl) ?_
      refine f_get X hh (v := .ref (gad G 143)) (sh_134 G _) (by decide) rfl in_X5 11 (by decide) kf_X5_35 rfl dX5_take_57 ?_
      refine lv_iload X.x X.b dX5_take_60 (lv_at hl 1 rfl) ?_
      refine f_ialdx X hh (j := 12 * (i + di st) + (j + dj st)) (y := nI T.1) (sh_143 G _) (by decide) rfl (by omega) (by decide) hT.1 dX5_take_62 ?_
      refine f_iadd X (z := nI (cst I st i j + T.1)) (nI_add (cst I st i j) T.1) dX5_take_63 ?_
      refine lv_aload_n X.x X.b dX5_take_64 rfl (lv_at hl 3 rfl) ?_
      refine f_get X hh (v := .ref (gad G 143)) (sh_134 G _) (by decide) rfl in_X5 11 (by decide) kf_X5_35 rfl dX5_take_65 ?_
      refine lv_iload X.x X.b dX5_take_68 (lv_at hl 2 rfl) ?_
      refine f_ialdx X hh (j := 12 * i + j) (y := nI A.1) (sh_143 G _) (by decide) rfl (by omega) (by decide) hA.1 dX5_take_70 ?_
      refine lv_icmp_ge (tgt := 99) X.x X.b dX5_take_71 (by decide) (fun c_8 => ?_) (fun c_8 => ?_)
      · have c_8 : A.1 ≤ (cst I st i j + T.1) := (nI_leI (a := A.1) (b := (cst I st i j + T.1)) (by omega) (by omega)).mp c_8
        refine lv_aload_n X.x X.b dX5_take_99 rfl (lv_at hl 3 rfl) ?_
        refine f_get X hh (v := .ref (gad G 146)) (sh_134 G _) (by decide) rfl in_X5 14 (by decide) kf_X5_44 rfl dX5_take_100 ?_
        refine lv_iload X.x X.b dX5_take_103 (lv_at hl 2 rfl) ?_
        refine lv_dup2_11 X.x X.b dX5_take_105 rfl rfl ?_
        refine f_ialdx X hh (j := 12 * i + j) (y := nI A.2.2.2) (sh_146 G _) (by decide) rfl (by omega) (by decide) hA.2.2.2 dX5_take_106 ?_
        refine lv_iload X.x X.b dX5_take_107 (lv_at hl 0 rfl) ?_
        refine lv_aload_n X.x X.b dX5_take_109 rfl (lv_at hl 3 rfl) ?_
        refine f_get X hh (v := .ref (gad G 143)) (sh_134 G _) (by decide) rfl in_X5 11 (by decide) kf_X5_35 rfl dX5_take_110 ?_
        refine lv_iload X.x X.b dX5_take_113 (lv_at hl 1 rfl) ?_
        refine f_ialdx X hh (j := 12 * (i + di st) + (j + dj st)) (y := nI T.1) (sh_143 G _) (by decide) rfl (by omega) (by decide) hT.1 dX5_take_115 ?_
        refine f_iadd X (z := nI (cst I st i j + T.1)) (nI_add (cst I st i j) T.1) dX5_take_116 ?_
        refine lv_aload_n X.x X.b dX5_take_117 rfl (lv_at hl 3 rfl) ?_
        refine f_get X hh (v := .ref (gad G 143)) (sh_134 G _) (by decide) rfl in_X5 11 (by decide) kf_X5_35 rfl dX5_take_118 ?_
        refine lv_iload X.x X.b dX5_take_121 (lv_at hl 2 rfl) ?_
        refine f_ialdx X hh (j := 12 * i + j) (y := nI A.1) (sh_143 G _) (by decide) rfl (by omega) (by decide) hA.1 dX5_take_123 ?_
        refine lv_icmp_ne (tgt := 137) X.x X.b dX5_take_124 (by decide) (fun c_9 => ?_) (fun c_9 => ?_)
        · have c_9 : ¬ (cst I st i j + T.1) = A.1 := fun q9 => c_9 ((nI_eq (a := (cst I st i j + T.1)) (b := A.1) (by omega) (by omega)).mpr q9)
          refine lv_iconst (v := nI 0) X.x X.b dX5_take_137 (by decide) ?_
          refine f_iadd X (z := nI (A.2.2.2 + 0)) (nI_add A.2.2.2 0) dX5_take_138 ?_
          refine f_iast X hh (j := 12 * i + j) (sh_146 G) (by decide) rfl (by omega) (by decide) dX5_take_139 (fun H locs hh => ?_)
          refine lv_aload_n X.x X.b dX5_take_140 rfl (lv_at hl 3 rfl) ?_
          refine f_get X hh (v := .ref (gad G 144)) (sh_134 G _) (by decide) rfl in_X5 12 (by decide) kf_X5_38 rfl dX5_take_141 ?_
          refine lv_iload X.x X.b dX5_take_144 (lv_at hl 2 rfl) ?_
          refine lv_aload_n X.x X.b dX5_take_146 rfl (lv_at hl 3 rfl) ?_
          refine f_get X hh (v := .ref (gad G 145)) (sh_134 G _) (by decide) rfl in_X5 13 (by decide) kf_X5_41 rfl dX5_take_147 ?_
          refine lv_iload X.x X.b dX5_take_150 (lv_at hl 2 rfl) ?_
          refine f_ialdx X hh (j := 12 * i + j) (y := nI A.2.2.1) (sh_145 G _) (by decide) rfl (by omega) (by decide) (by rw [mset_n (show 145 ≠ 146 by omega)]; exact hA.2.2.1) dX5_take_152 ?_
          refine lv_if_eq (tgt := 176) X.x X.b dX5_take_153 (by decide) (fun c_10 => ?_) (fun c_10 => ?_)
          · have c_10 : A.2.2.1 = 0 := (nI_eq (a := A.2.2.1) (b := 0) (by omega) (by omega)).mp c_10
            refine lv_iload X.x X.b dX5_take_176 (lv_at hl 0 rfl) ?_
            refine lv_aload_n X.x X.b dX5_take_178 rfl (lv_at hl 3 rfl) ?_
            refine f_get X hh (v := .ref (gad G 144)) (sh_134 G _) (by decide) rfl in_X5 12 (by decide) kf_X5_38 rfl dX5_take_179 ?_
            refine lv_iload X.x X.b dX5_take_182 (lv_at hl 1 rfl) ?_
            refine f_ialdx X hh (j := 12 * (i + di st) + (j + dj st)) (y := nI T.2.1) (sh_144 G _) (by decide) rfl (by omega) (by decide) (by rw [mset_n (show 144 ≠ 146 by omega)]; exact hT.2.1) dX5_take_184 ?_
            refine f_iadd X (z := nI (cst I st i j + T.2.1)) (nI_add (cst I st i j) T.2.1) dX5_take_185 ?_
            refine lv_goto (tgt := 196) X.x X.b dX5_take_186 (by decide) ?_
            refine f_iast X hh (j := 12 * i + j) (sh_144 G) (by decide) rfl (by omega) (by decide) dX5_take_196 (fun H locs hh => ?_)
            refine lv_aload_n X.x X.b dX5_take_197 rfl (lv_at hl 3 rfl) ?_
            refine f_get X hh (v := .ref (gad G 145)) (sh_134 G _) (by decide) rfl in_X5 13 (by decide) kf_X5_41 rfl dX5_take_198 ?_
            refine lv_iload X.x X.b dX5_take_201 (lv_at hl 2 rfl) ?_
            refine lv_dup2_11 X.x X.b dX5_take_203 rfl rfl ?_
            refine f_ialdx X hh (j := 12 * i + j) (y := nI A.2.2.1) (sh_145 G _) (by decide) rfl (by omega) (by decide) (by rw [mset_n (show 145 ≠ 144 by omega), mset_n (show 145 ≠ 146 by omega)]; exact hA.2.2.1) dX5_take_204 ?_
            refine lv_aload_n X.x X.b dX5_take_205 rfl (lv_at hl 3 rfl) ?_
            refine f_get X hh (v := .ref (gad G 145)) (sh_134 G _) (by decide) rfl in_X5 13 (by decide) kf_X5_41 rfl dX5_take_206 ?_
            refine lv_iload X.x X.b dX5_take_209 (lv_at hl 1 rfl) ?_
            refine f_ialdx X hh (j := 12 * (i + di st) + (j + dj st)) (y := nI T.2.2.1) (sh_145 G _) (by decide) rfl (by omega) (by decide) (by rw [mset_n (show 145 ≠ 144 by omega), mset_n (show 145 ≠ 146 by omega)]; exact hT.2.2.1) dX5_take_211 ?_
            refine f_iadd X (z := nI (A.2.2.1 + T.2.2.1)) (nI_add A.2.2.1 T.2.2.1) dX5_take_212 ?_
            refine f_iast X hh (j := 12 * i + j) (sh_145 G) (by decide) rfl (by omega) (by decide) dX5_take_213 (fun H locs hh => ?_)
            refine f_vret X hh ?_ dX5_take_214
            have hc1 : ¬ (A.2.2.1 = 0 ∨ cst I st i j + T.1 < A.1) := by omega
            have hc2 : ¬ cst I st i j + T.1 = A.1 := by omega
            have hc3 : (A.2.2.1 = 0 ∨ A.2.1 < cst I st i j + T.2.1) := by omega
            have e9 : tk A (cst I st i j) T = (A.1, cst I st i j + T.2.1, A.2.2.1 + T.2.2.1, A.2.2.2 + 0) := by unfold tk; rw [if_neg c_1]; simp only [if_neg hc1, if_neg hc2, if_pos hc3, if_true]
            rw [e9]
            exact ⟨⟨(by rw [mset_n (show 143 ≠ 145 by omega), mset_n (show 143 ≠ 144 by omega), mset_n (show 143 ≠ 146 by omega)]; exact hA.1), (by rw [mset_n (show 144 ≠ 145 by omega), mset_ss]), (by rw [mset_ss]), (by rw [mset_n (show 146 ≠ 145 by omega), mset_n (show 146 ≠ 144 by omega), mset_ss])⟩, fun c x hx => by rw [mset_nn (by omega), mset_nn (by omega), mset_nn (by omega)]⟩
          · have c_10 : ¬ A.2.2.1 = 0 := fun q9 => c_10 ((nI_eq (a := A.2.2.1) (b := 0) (by omega) (by omega)).mpr q9)
            refine lv_iload X.x X.b dX5_take_156 (lv_at hl 0 rfl) ?_
            refine lv_aload_n X.x X.b dX5_take_158 rfl (lv_at hl 3 rfl) ?_
            refine f_get X hh (v := .ref (gad G 144)) (sh_134 G _) (by decide) rfl in_X5 12 (by decide) kf_X5_38 rfl dX5_take_159 ?_
            refine lv_iload X.x X.b dX5_take_162 (lv_at hl 1 rfl) ?_
            refine f_ialdx X hh (j := 12 * (i + di st) + (j + dj st)) (y := nI T.2.1) (sh_144 G _) (by decide) rfl (by omega) (by decide) (by rw [mset_n (show 144 ≠ 146 by omega)]; exact hT.2.1) dX5_take_164 ?_
            refine f_iadd X (z := nI (cst I st i j + T.2.1)) (nI_add (cst I st i j) T.2.1) dX5_take_165 ?_
            refine lv_aload_n X.x X.b dX5_take_166 rfl (lv_at hl 3 rfl) ?_
            refine f_get X hh (v := .ref (gad G 144)) (sh_134 G _) (by decide) rfl in_X5 12 (by decide) kf_X5_38 rfl dX5_take_167 ?_
            refine lv_iload X.x X.b dX5_take_170 (lv_at hl 2 rfl) ?_
            refine f_ialdx X hh (j := 12 * i + j) (y := nI A.2.1) (sh_144 G _) (by decide) rfl (by omega) (by decide) (by rw [mset_n (show 144 ≠ 146 by omega)]; exact hA.2.1) dX5_take_172 ?_
            refine lv_icmp_le (tgt := 189) X.x X.b dX5_take_173 (by decide) (fun c_11 => ?_) (fun c_11 => ?_)
            · have c_11 : (cst I st i j + T.2.1) ≤ A.2.1 := (nI_leI (a := (cst I st i j + T.2.1)) (b := A.2.1) (by omega) (by omega)).mp c_11
              refine lv_aload_n X.x X.b dX5_take_189 rfl (lv_at hl 3 rfl) ?_
              refine f_get X hh (v := .ref (gad G 144)) (sh_134 G _) (by decide) rfl in_X5 12 (by decide) kf_X5_38 rfl dX5_take_190 ?_
              refine lv_iload X.x X.b dX5_take_193 (lv_at hl 2 rfl) ?_
              refine f_ialdx X hh (j := 12 * i + j) (y := nI A.2.1) (sh_144 G _) (by decide) rfl (by omega) (by decide) (by rw [mset_n (show 144 ≠ 146 by omega)]; exact hA.2.1) dX5_take_195 ?_
              refine f_iast X hh (j := 12 * i + j) (sh_144 G) (by decide) rfl (by omega) (by decide) dX5_take_196 (fun H locs hh => ?_)
              refine lv_aload_n X.x X.b dX5_take_197 rfl (lv_at hl 3 rfl) ?_
              refine f_get X hh (v := .ref (gad G 145)) (sh_134 G _) (by decide) rfl in_X5 13 (by decide) kf_X5_41 rfl dX5_take_198 ?_
              refine lv_iload X.x X.b dX5_take_201 (lv_at hl 2 rfl) ?_
              refine lv_dup2_11 X.x X.b dX5_take_203 rfl rfl ?_
              refine f_ialdx X hh (j := 12 * i + j) (y := nI A.2.2.1) (sh_145 G _) (by decide) rfl (by omega) (by decide) (by rw [mset_n (show 145 ≠ 144 by omega), mset_n (show 145 ≠ 146 by omega)]; exact hA.2.2.1) dX5_take_204 ?_
              refine lv_aload_n X.x X.b dX5_take_205 rfl (lv_at hl 3 rfl) ?_
              refine f_get X hh (v := .ref (gad G 145)) (sh_134 G _) (by decide) rfl in_X5 13 (by decide) kf_X5_41 rfl dX5_take_206 ?_
              refine lv_iload X.x X.b dX5_take_209 (lv_at hl 1 rfl) ?_
              refine f_ialdx X hh (j := 12 * (i + di st) + (j + dj st)) (y := nI T.2.2.1) (sh_145 G _) (by decide) rfl (by omega) (by decide) (by rw [mset_n (show 145 ≠ 144 by omega), mset_n (show 145 ≠ 146 by omega)]; exact hT.2.2.1) dX5_take_211 ?_
              refine f_iadd X (z := nI (A.2.2.1 + T.2.2.1)) (nI_add A.2.2.1 T.2.2.1) dX5_take_212 ?_
              refine f_iast X hh (j := 12 * i + j) (sh_145 G) (by decide) rfl (by omega) (by decide) dX5_take_213 (fun H locs hh => ?_)
              refine f_vret X hh ?_ dX5_take_214
              have hc1 : ¬ (A.2.2.1 = 0 ∨ cst I st i j + T.1 < A.1) := by omega
              have hc2 : ¬ cst I st i j + T.1 = A.1 := by omega
              have hc3 : ¬ (A.2.2.1 = 0 ∨ A.2.1 < cst I st i j + T.2.1) := by omega
              have e9 : tk A (cst I st i j) T = (A.1, A.2.1, A.2.2.1 + T.2.2.1, A.2.2.2 + 0) := by unfold tk; rw [if_neg c_1]; simp only [if_neg hc1, if_neg hc2, if_neg hc3, if_true]
              rw [e9]
              exact ⟨⟨(by rw [mset_n (show 143 ≠ 145 by omega), mset_n (show 143 ≠ 144 by omega), mset_n (show 143 ≠ 146 by omega)]; exact hA.1), (by rw [mset_n (show 144 ≠ 145 by omega), mset_ss]), (by rw [mset_ss]), (by rw [mset_n (show 146 ≠ 145 by omega), mset_n (show 146 ≠ 144 by omega), mset_ss])⟩, fun c x hx => by rw [mset_nn (by omega), mset_nn (by omega), mset_nn (by omega)]⟩
            · have c_11 : ¬ (cst I st i j + T.2.1) ≤ A.2.1 := fun q9 => c_11 ((nI_leI (a := (cst I st i j + T.2.1)) (b := A.2.1) (by omega) (by omega)).mpr q9)
              refine lv_iload X.x X.b dX5_take_176 (lv_at hl 0 rfl) ?_
              refine lv_aload_n X.x X.b dX5_take_178 rfl (lv_at hl 3 rfl) ?_
              refine f_get X hh (v := .ref (gad G 144)) (sh_134 G _) (by decide) rfl in_X5 12 (by decide) kf_X5_38 rfl dX5_take_179 ?_
              refine lv_iload X.x X.b dX5_take_182 (lv_at hl 1 rfl) ?_
              refine f_ialdx X hh (j := 12 * (i + di st) + (j + dj st)) (y := nI T.2.1) (sh_144 G _) (by decide) rfl (by omega) (by decide) (by rw [mset_n (show 144 ≠ 146 by omega)]; exact hT.2.1) dX5_take_184 ?_
              refine f_iadd X (z := nI (cst I st i j + T.2.1)) (nI_add (cst I st i j) T.2.1) dX5_take_185 ?_
              refine lv_goto (tgt := 196) X.x X.b dX5_take_186 (by decide) ?_
              refine f_iast X hh (j := 12 * i + j) (sh_144 G) (by decide) rfl (by omega) (by decide) dX5_take_196 (fun H locs hh => ?_)
              refine lv_aload_n X.x X.b dX5_take_197 rfl (lv_at hl 3 rfl) ?_
              refine f_get X hh (v := .ref (gad G 145)) (sh_134 G _) (by decide) rfl in_X5 13 (by decide) kf_X5_41 rfl dX5_take_198 ?_
              refine lv_iload X.x X.b dX5_take_201 (lv_at hl 2 rfl) ?_
              refine lv_dup2_11 X.x X.b dX5_take_203 rfl rfl ?_
              refine f_ialdx X hh (j := 12 * i + j) (y := nI A.2.2.1) (sh_145 G _) (by decide) rfl (by omega) (by decide) (by rw [mset_n (show 145 ≠ 144 by omega), mset_n (show 145 ≠ 146 by omega)]; exact hA.2.2.1) dX5_take_204 ?_
              refine lv_aload_n X.x X.b dX5_take_205 rfl (lv_at hl 3 rfl) ?_
              refine f_get X hh (v := .ref (gad G 145)) (sh_134 G _) (by decide) rfl in_X5 13 (by decide) kf_X5_41 rfl dX5_take_206 ?_
              refine lv_iload X.x X.b dX5_take_209 (lv_at hl 1 rfl) ?_
              refine f_ialdx X hh (j := 12 * (i + di st) + (j + dj st)) (y := nI T.2.2.1) (sh_145 G _) (by decide) rfl (by omega) (by decide) (by rw [mset_n (show 145 ≠ 144 by omega), mset_n (show 145 ≠ 146 by omega)]; exact hT.2.2.1) dX5_take_211 ?_
              refine f_iadd X (z := nI (A.2.2.1 + T.2.2.1)) (nI_add A.2.2.1 T.2.2.1) dX5_take_212 ?_
              refine f_iast X hh (j := 12 * i + j) (sh_145 G) (by decide) rfl (by omega) (by decide) dX5_take_213 (fun H locs hh => ?_)
              refine f_vret X hh ?_ dX5_take_214
              have hc1 : ¬ (A.2.2.1 = 0 ∨ cst I st i j + T.1 < A.1) := by omega
              have hc2 : ¬ cst I st i j + T.1 = A.1 := by omega
              have hc3 : (A.2.2.1 = 0 ∨ A.2.1 < cst I st i j + T.2.1) := by omega
              have e9 : tk A (cst I st i j) T = (A.1, cst I st i j + T.2.1, A.2.2.1 + T.2.2.1, A.2.2.2 + 0) := by unfold tk; rw [if_neg c_1]; simp only [if_neg hc1, if_neg hc2, if_pos hc3, if_true]
              rw [e9]
              exact ⟨⟨(by rw [mset_n (show 143 ≠ 145 by omega), mset_n (show 143 ≠ 144 by omega), mset_n (show 143 ≠ 146 by omega)]; exact hA.1), (by rw [mset_n (show 144 ≠ 145 by omega), mset_ss]), (by rw [mset_ss]), (by rw [mset_n (show 146 ≠ 145 by omega), mset_n (show 146 ≠ 144 by omega), mset_ss])⟩, fun c x hx => by rw [mset_nn (by omega), mset_nn (by omega), mset_nn (by omega)]⟩
        · have c_9 : (cst I st i j + T.1) = A.1 := (nI_eq (a := (cst I st i j + T.1)) (b := A.1) (by omega) (by omega)).mp c_9
          refine lv_aload_n X.x X.b dX5_take_127 rfl (lv_at hl 3 rfl) ?_
          refine f_get X hh (v := .ref (gad G 146)) (sh_134 G _) (by decide) rfl in_X5 14 (by decide) kf_X5_44 rfl dX5_take_128 ?_
          refine lv_iload X.x X.b dX5_take_131 (lv_at hl 1 rfl) ?_
          refine f_ialdx X hh (j := 12 * (i + di st) + (j + dj st)) (y := nI T.2.2.2) (sh_146 G _) (by decide) rfl (by omega) (by decide) hT.2.2.2 dX5_take_133 ?_
          refine lv_goto (tgt := 138) X.x X.b dX5_take_134 (by decide) ?_
          refine f_iadd X (z := nI (A.2.2.2 + T.2.2.2)) (nI_add A.2.2.2 T.2.2.2) dX5_take_138 ?_
          refine f_iast X hh (j := 12 * i + j) (sh_146 G) (by decide) rfl (by omega) (by decide) dX5_take_139 (fun H locs hh => ?_)
          refine lv_aload_n X.x X.b dX5_take_140 rfl (lv_at hl 3 rfl) ?_
          refine f_get X hh (v := .ref (gad G 144)) (sh_134 G _) (by decide) rfl in_X5 12 (by decide) kf_X5_38 rfl dX5_take_141 ?_
          refine lv_iload X.x X.b dX5_take_144 (lv_at hl 2 rfl) ?_
          refine lv_aload_n X.x X.b dX5_take_146 rfl (lv_at hl 3 rfl) ?_
          refine f_get X hh (v := .ref (gad G 145)) (sh_134 G _) (by decide) rfl in_X5 13 (by decide) kf_X5_41 rfl dX5_take_147 ?_
          refine lv_iload X.x X.b dX5_take_150 (lv_at hl 2 rfl) ?_
          refine f_ialdx X hh (j := 12 * i + j) (y := nI A.2.2.1) (sh_145 G _) (by decide) rfl (by omega) (by decide) (by rw [mset_n (show 145 ≠ 146 by omega)]; exact hA.2.2.1) dX5_take_152 ?_
          refine lv_if_eq (tgt := 176) X.x X.b dX5_take_153 (by decide) (fun c_12 => ?_) (fun c_12 => ?_)
          · have c_12 : A.2.2.1 = 0 := (nI_eq (a := A.2.2.1) (b := 0) (by omega) (by omega)).mp c_12
            refine lv_iload X.x X.b dX5_take_176 (lv_at hl 0 rfl) ?_
            refine lv_aload_n X.x X.b dX5_take_178 rfl (lv_at hl 3 rfl) ?_
            refine f_get X hh (v := .ref (gad G 144)) (sh_134 G _) (by decide) rfl in_X5 12 (by decide) kf_X5_38 rfl dX5_take_179 ?_
            refine lv_iload X.x X.b dX5_take_182 (lv_at hl 1 rfl) ?_
            refine f_ialdx X hh (j := 12 * (i + di st) + (j + dj st)) (y := nI T.2.1) (sh_144 G _) (by decide) rfl (by omega) (by decide) (by rw [mset_n (show 144 ≠ 146 by omega)]; exact hT.2.1) dX5_take_184 ?_
            refine f_iadd X (z := nI (cst I st i j + T.2.1)) (nI_add (cst I st i j) T.2.1) dX5_take_185 ?_
            refine lv_goto (tgt := 196) X.x X.b dX5_take_186 (by decide) ?_
            refine f_iast X hh (j := 12 * i + j) (sh_144 G) (by decide) rfl (by omega) (by decide) dX5_take_196 (fun H locs hh => ?_)
            refine lv_aload_n X.x X.b dX5_take_197 rfl (lv_at hl 3 rfl) ?_
            refine f_get X hh (v := .ref (gad G 145)) (sh_134 G _) (by decide) rfl in_X5 13 (by decide) kf_X5_41 rfl dX5_take_198 ?_
            refine lv_iload X.x X.b dX5_take_201 (lv_at hl 2 rfl) ?_
            refine lv_dup2_11 X.x X.b dX5_take_203 rfl rfl ?_
            refine f_ialdx X hh (j := 12 * i + j) (y := nI A.2.2.1) (sh_145 G _) (by decide) rfl (by omega) (by decide) (by rw [mset_n (show 145 ≠ 144 by omega), mset_n (show 145 ≠ 146 by omega)]; exact hA.2.2.1) dX5_take_204 ?_
            refine lv_aload_n X.x X.b dX5_take_205 rfl (lv_at hl 3 rfl) ?_
            refine f_get X hh (v := .ref (gad G 145)) (sh_134 G _) (by decide) rfl in_X5 13 (by decide) kf_X5_41 rfl dX5_take_206 ?_
            refine lv_iload X.x X.b dX5_take_209 (lv_at hl 1 rfl) ?_
            refine f_ialdx X hh (j := 12 * (i + di st) + (j + dj st)) (y := nI T.2.2.1) (sh_145 G _) (by decide) rfl (by omega) (by decide) (by rw [mset_n (show 145 ≠ 144 by omega), mset_n (show 145 ≠ 146 by omega)]; exact hT.2.2.1) dX5_take_211 ?_
            refine f_iadd X (z := nI (A.2.2.1 + T.2.2.1)) (nI_add A.2.2.1 T.2.2.1) dX5_take_212 ?_
            refine f_iast X hh (j := 12 * i + j) (sh_145 G) (by decide) rfl (by omega) (by decide) dX5_take_213 (fun H locs hh => ?_)
            refine f_vret X hh ?_ dX5_take_214
            have hc1 : ¬ (A.2.2.1 = 0 ∨ cst I st i j + T.1 < A.1) := by omega
            have hc2 : cst I st i j + T.1 = A.1 := by omega
            have hc3 : (A.2.2.1 = 0 ∨ A.2.1 < cst I st i j + T.2.1) := by omega
            have e9 : tk A (cst I st i j) T = (A.1, cst I st i j + T.2.1, A.2.2.1 + T.2.2.1, A.2.2.2 + T.2.2.2) := by unfold tk; rw [if_neg c_1]; simp only [if_neg hc1, if_pos hc2, if_pos hc3, if_true]
            rw [e9]
            exact ⟨⟨(by rw [mset_n (show 143 ≠ 145 by omega), mset_n (show 143 ≠ 144 by omega), mset_n (show 143 ≠ 146 by omega)]; exact hA.1), (by rw [mset_n (show 144 ≠ 145 by omega), mset_ss]), (by rw [mset_ss]), (by rw [mset_n (show 146 ≠ 145 by omega), mset_n (show 146 ≠ 144 by omega), mset_ss])⟩, fun c x hx => by rw [mset_nn (by omega), mset_nn (by omega), mset_nn (by omega)]⟩
          · have c_12 : ¬ A.2.2.1 = 0 := fun q9 => c_12 ((nI_eq (a := A.2.2.1) (b := 0) (by omega) (by omega)).mpr q9)
            refine lv_iload X.x X.b dX5_take_156 (lv_at hl 0 rfl) ?_
            refine lv_aload_n X.x X.b dX5_take_158 rfl (lv_at hl 3 rfl) ?_
            refine f_get X hh (v := .ref (gad G 144)) (sh_134 G _) (by decide) rfl in_X5 12 (by decide) kf_X5_38 rfl dX5_take_159 ?_
            refine lv_iload X.x X.b dX5_take_162 (lv_at hl 1 rfl) ?_
            refine f_ialdx X hh (j := 12 * (i + di st) + (j + dj st)) (y := nI T.2.1) (sh_144 G _) (by decide) rfl (by omega) (by decide) (by rw [mset_n (show 144 ≠ 146 by omega)]; exact hT.2.1) dX5_take_164 ?_
            refine f_iadd X (z := nI (cst I st i j + T.2.1)) (nI_add (cst I st i j) T.2.1) dX5_take_165 ?_
            refine lv_aload_n X.x X.b dX5_take_166 rfl (lv_at hl 3 rfl) ?_
            refine f_get X hh (v := .ref (gad G 144)) (sh_134 G _) (by decide) rfl in_X5 12 (by decide) kf_X5_38 rfl dX5_take_167 ?_
            refine lv_iload X.x X.b dX5_take_170 (lv_at hl 2 rfl) ?_
            refine f_ialdx X hh (j := 12 * i + j) (y := nI A.2.1) (sh_144 G _) (by decide) rfl (by omega) (by decide) (by rw [mset_n (show 144 ≠ 146 by omega)]; exact hA.2.1) dX5_take_172 ?_
            refine lv_icmp_le (tgt := 189) X.x X.b dX5_take_173 (by decide) (fun c_13 => ?_) (fun c_13 => ?_)
            · have c_13 : (cst I st i j + T.2.1) ≤ A.2.1 := (nI_leI (a := (cst I st i j + T.2.1)) (b := A.2.1) (by omega) (by omega)).mp c_13
              refine lv_aload_n X.x X.b dX5_take_189 rfl (lv_at hl 3 rfl) ?_
              refine f_get X hh (v := .ref (gad G 144)) (sh_134 G _) (by decide) rfl in_X5 12 (by decide) kf_X5_38 rfl dX5_take_190 ?_
              refine lv_iload X.x X.b dX5_take_193 (lv_at hl 2 rfl) ?_
              refine f_ialdx X hh (j := 12 * i + j) (y := nI A.2.1) (sh_144 G _) (by decide) rfl (by omega) (by decide) (by rw [mset_n (show 144 ≠ 146 by omega)]; exact hA.2.1) dX5_take_195 ?_
              refine f_iast X hh (j := 12 * i + j) (sh_144 G) (by decide) rfl (by omega) (by decide) dX5_take_196 (fun H locs hh => ?_)
              refine lv_aload_n X.x X.b dX5_take_197 rfl (lv_at hl 3 rfl) ?_
              refine f_get X hh (v := .ref (gad G 145)) (sh_134 G _) (by decide) rfl in_X5 13 (by decide) kf_X5_41 rfl dX5_take_198 ?_
              refine lv_iload X.x X.b dX5_take_201 (lv_at hl 2 rfl) ?_
              refine lv_dup2_11 X.x X.b dX5_take_203 rfl rfl ?_
              refine f_ialdx X hh (j := 12 * i + j) (y := nI A.2.2.1) (sh_145 G _) (by decide) rfl (by omega) (by decide) (by rw [mset_n (show 145 ≠ 144 by omega), mset_n (show 145 ≠ 146 by omega)]; exact hA.2.2.1) dX5_take_204 ?_
              refine lv_aload_n X.x X.b dX5_take_205 rfl (lv_at hl 3 rfl) ?_
              refine f_get X hh (v := .ref (gad G 145)) (sh_134 G _) (by decide) rfl in_X5 13 (by decide) kf_X5_41 rfl dX5_take_206 ?_
              refine lv_iload X.x X.b dX5_take_209 (lv_at hl 1 rfl) ?_
              refine f_ialdx X hh (j := 12 * (i + di st) + (j + dj st)) (y := nI T.2.2.1) (sh_145 G _) (by decide) rfl (by omega) (by decide) (by rw [mset_n (show 145 ≠ 144 by omega), mset_n (show 145 ≠ 146 by omega)]; exact hT.2.2.1) dX5_take_211 ?_
              refine f_iadd X (z := nI (A.2.2.1 + T.2.2.1)) (nI_add A.2.2.1 T.2.2.1) dX5_take_212 ?_
              refine f_iast X hh (j := 12 * i + j) (sh_145 G) (by decide) rfl (by omega) (by decide) dX5_take_213 (fun H locs hh => ?_)
              refine f_vret X hh ?_ dX5_take_214
              have hc1 : ¬ (A.2.2.1 = 0 ∨ cst I st i j + T.1 < A.1) := by omega
              have hc2 : cst I st i j + T.1 = A.1 := by omega
              have hc3 : ¬ (A.2.2.1 = 0 ∨ A.2.1 < cst I st i j + T.2.1) := by omega
              have e9 : tk A (cst I st i j) T = (A.1, A.2.1, A.2.2.1 + T.2.2.1, A.2.2.2 + T.2.2.2) := by unfold tk; rw [if_neg c_1]; simp only [if_neg hc1, if_pos hc2, if_neg hc3, if_true]
              rw [e9]
              exact ⟨⟨(by rw [mset_n (show 143 ≠ 145 by omega), mset_n (show 143 ≠ 144 by omega), mset_n (show 143 ≠ 146 by omega)]; exact hA.1), (by rw [mset_n (show 144 ≠ 145 by omega), mset_ss]), (by rw [mset_ss]), (by rw [mset_n (show 146 ≠ 145 by omega), mset_n (show 146 ≠ 144 by omega), mset_ss])⟩, fun c x hx => by rw [mset_nn (by omega), mset_nn (by omega), mset_nn (by omega)]⟩
            · have c_13 : ¬ (cst I st i j + T.2.1) ≤ A.2.1 := fun q9 => c_13 ((nI_leI (a := (cst I st i j + T.2.1)) (b := A.2.1) (by omega) (by omega)).mpr q9)
              refine lv_iload X.x X.b dX5_take_176 (lv_at hl 0 rfl) ?_
              refine lv_aload_n X.x X.b dX5_take_178 rfl (lv_at hl 3 rfl) ?_
              refine f_get X hh (v := .ref (gad G 144)) (sh_134 G _) (by decide) rfl in_X5 12 (by decide) kf_X5_38 rfl dX5_take_179 ?_
              refine lv_iload X.x X.b dX5_take_182 (lv_at hl 1 rfl) ?_
              refine f_ialdx X hh (j := 12 * (i + di st) + (j + dj st)) (y := nI T.2.1) (sh_144 G _) (by decide) rfl (by omega) (by decide) (by rw [mset_n (show 144 ≠ 146 by omega)]; exact hT.2.1) dX5_take_184 ?_
              refine f_iadd X (z := nI (cst I st i j + T.2.1)) (nI_add (cst I st i j) T.2.1) dX5_take_185 ?_
              refine lv_goto (tgt := 196) X.x X.b dX5_take_186 (by decide) ?_
              refine f_iast X hh (j := 12 * i + j) (sh_144 G) (by decide) rfl (by omega) (by decide) dX5_take_196 (fun H locs hh => ?_)
              refine lv_aload_n X.x X.b dX5_take_197 rfl (lv_at hl 3 rfl) ?_
              refine f_get X hh (v := .ref (gad G 145)) (sh_134 G _) (by decide) rfl in_X5 13 (by decide) kf_X5_41 rfl dX5_take_198 ?_
              refine lv_iload X.x X.b dX5_take_201 (lv_at hl 2 rfl) ?_
              refine lv_dup2_11 X.x X.b dX5_take_203 rfl rfl ?_
              refine f_ialdx X hh (j := 12 * i + j) (y := nI A.2.2.1) (sh_145 G _) (by decide) rfl (by omega) (by decide) (by rw [mset_n (show 145 ≠ 144 by omega), mset_n (show 145 ≠ 146 by omega)]; exact hA.2.2.1) dX5_take_204 ?_
              refine lv_aload_n X.x X.b dX5_take_205 rfl (lv_at hl 3 rfl) ?_
              refine f_get X hh (v := .ref (gad G 145)) (sh_134 G _) (by decide) rfl in_X5 13 (by decide) kf_X5_41 rfl dX5_take_206 ?_
              refine lv_iload X.x X.b dX5_take_209 (lv_at hl 1 rfl) ?_
              refine f_ialdx X hh (j := 12 * (i + di st) + (j + dj st)) (y := nI T.2.2.1) (sh_145 G _) (by decide) rfl (by omega) (by decide) (by rw [mset_n (show 145 ≠ 144 by omega), mset_n (show 145 ≠ 146 by omega)]; exact hT.2.2.1) dX5_take_211 ?_
              refine f_iadd X (z := nI (A.2.2.1 + T.2.2.1)) (nI_add A.2.2.1 T.2.2.1) dX5_take_212 ?_
              refine f_iast X hh (j := 12 * i + j) (sh_145 G) (by decide) rfl (by omega) (by decide) dX5_take_213 (fun H locs hh => ?_)
              refine f_vret X hh ?_ dX5_take_214
              have hc1 : ¬ (A.2.2.1 = 0 ∨ cst I st i j + T.1 < A.1) := by omega
              have hc2 : cst I st i j + T.1 = A.1 := by omega
              have hc3 : (A.2.2.1 = 0 ∨ A.2.1 < cst I st i j + T.2.1) := by omega
              have e9 : tk A (cst I st i j) T = (A.1, cst I st i j + T.2.1, A.2.2.1 + T.2.2.1, A.2.2.2 + T.2.2.2) := by unfold tk; rw [if_neg c_1]; simp only [if_neg hc1, if_pos hc2, if_pos hc3, if_true]
              rw [e9]
              exact ⟨⟨(by rw [mset_n (show 143 ≠ 145 by omega), mset_n (show 143 ≠ 144 by omega), mset_n (show 143 ≠ 146 by omega)]; exact hA.1), (by rw [mset_n (show 144 ≠ 145 by omega), mset_ss]), (by rw [mset_ss]), (by rw [mset_n (show 146 ≠ 145 by omega), mset_n (show 146 ≠ 144 by omega), mset_ss])⟩, fun c x hx => by rw [mset_nn (by omega), mset_nn (by omega), mset_nn (by omega)]⟩
      · have c_8 : ¬ A.1 ≤ (cst I st i j + T.1) := fun q9 => c_8 ((nI_leI (a := A.1) (b := (cst I st i j + T.1)) (by omega) (by omega)).mpr q9)
        refine lv_aload_n X.x X.b dX5_take_74 rfl (lv_at hl 3 rfl) ?_
        refine f_get X hh (v := .ref (gad G 143)) (sh_134 G _) (by decide) rfl in_X5 11 (by decide) kf_X5_35 rfl dX5_take_75 ?_
        refine lv_iload X.x X.b dX5_take_78 (lv_at hl 2 rfl) ?_
        refine lv_iload X.x X.b dX5_take_80 (lv_at hl 0 rfl) ?_
        refine lv_aload_n X.x X.b dX5_take_82 rfl (lv_at hl 3 rfl) ?_
        refine f_get X hh (v := .ref (gad G 143)) (sh_134 G _) (by decide) rfl in_X5 11 (by decide) kf_X5_35 rfl dX5_take_83 ?_
        refine lv_iload X.x X.b dX5_take_86 (lv_at hl 1 rfl) ?_
        refine f_ialdx X hh (j := 12 * (i + di st) + (j + dj st)) (y := nI T.1) (sh_143 G _) (by decide) rfl (by omega) (by decide) hT.1 dX5_take_88 ?_
        refine f_iadd X (z := nI (cst I st i j + T.1)) (nI_add (cst I st i j) T.1) dX5_take_89 ?_
        refine f_iast X hh (j := 12 * i + j) (sh_143 G) (by decide) rfl (by omega) (by decide) dX5_take_90 (fun H locs hh => ?_)
        refine lv_aload_n X.x X.b dX5_take_91 rfl (lv_at hl 3 rfl) ?_
        refine f_get X hh (v := .ref (gad G 146)) (sh_134 G _) (by decide) rfl in_X5 14 (by decide) kf_X5_44 rfl dX5_take_92 ?_
        refine lv_iload X.x X.b dX5_take_95 (lv_at hl 2 rfl) ?_
        refine lv_iconst (v := nI 0) X.x X.b dX5_take_97 (by decide) ?_
        refine f_iast X hh (j := 12 * i + j) (sh_146 G) (by decide) rfl (by omega) (by decide) dX5_take_98 (fun H locs hh => ?_)
        refine lv_aload_n X.x X.b dX5_take_99 rfl (lv_at hl 3 rfl) ?_
        refine f_get X hh (v := .ref (gad G 146)) (sh_134 G _) (by decide) rfl in_X5 14 (by decide) kf_X5_44 rfl dX5_take_100 ?_
        refine lv_iload X.x X.b dX5_take_103 (lv_at hl 2 rfl) ?_
        refine lv_dup2_11 X.x X.b dX5_take_105 rfl rfl ?_
        refine f_ialdx X hh (j := 12 * i + j) (y := nI 0) (sh_146 G _) (by decide) rfl (by omega) (by decide) (by rw [mset_ss]) dX5_take_106 ?_
        refine lv_iload X.x X.b dX5_take_107 (lv_at hl 0 rfl) ?_
        refine lv_aload_n X.x X.b dX5_take_109 rfl (lv_at hl 3 rfl) ?_
        refine f_get X hh (v := .ref (gad G 143)) (sh_134 G _) (by decide) rfl in_X5 11 (by decide) kf_X5_35 rfl dX5_take_110 ?_
        refine lv_iload X.x X.b dX5_take_113 (lv_at hl 1 rfl) ?_
        refine f_ialdx X hh (j := 12 * (i + di st) + (j + dj st)) (y := nI T.1) (sh_143 G _) (by decide) rfl (by omega) (by decide) (by rw [mset_n (show 143 ≠ 146 by omega), mset_sn (show 12 * (i + di st) + (j + dj st) ≠ 12 * i + j by omega)]; exact hT.1) dX5_take_115 ?_
        refine f_iadd X (z := nI (cst I st i j + T.1)) (nI_add (cst I st i j) T.1) dX5_take_116 ?_
        refine lv_aload_n X.x X.b dX5_take_117 rfl (lv_at hl 3 rfl) ?_
        refine f_get X hh (v := .ref (gad G 143)) (sh_134 G _) (by decide) rfl in_X5 11 (by decide) kf_X5_35 rfl dX5_take_118 ?_
        refine lv_iload X.x X.b dX5_take_121 (lv_at hl 2 rfl) ?_
        refine f_ialdx X hh (j := 12 * i + j) (y := nI (cst I st i j + T.1)) (sh_143 G _) (by decide) rfl (by omega) (by decide) (by rw [mset_n (show 143 ≠ 146 by omega), mset_ss]) dX5_take_123 ?_
        refine lv_icmp_ne (tgt := 137) X.x X.b dX5_take_124 (by decide) (fun c_14 => ?_) (fun c_14 => ?_)
        · have c_14 : ¬ (cst I st i j + T.1) = (cst I st i j + T.1) := fun q9 => c_14 ((nI_eq (a := (cst I st i j + T.1)) (b := (cst I st i j + T.1)) (by omega) (by omega)).mpr q9)
          refine lv_iconst (v := nI 0) X.x X.b dX5_take_137 (by decide) ?_
          refine f_iadd X (z := nI (0 + 0)) (nI_add 0 0) dX5_take_138 ?_
          refine f_iast X hh (j := 12 * i + j) (sh_146 G) (by decide) rfl (by omega) (by decide) dX5_take_139 (fun H locs hh => ?_)
          refine lv_aload_n X.x X.b dX5_take_140 rfl (lv_at hl 3 rfl) ?_
          refine f_get X hh (v := .ref (gad G 144)) (sh_134 G _) (by decide) rfl in_X5 12 (by decide) kf_X5_38 rfl dX5_take_141 ?_
          refine lv_iload X.x X.b dX5_take_144 (lv_at hl 2 rfl) ?_
          refine lv_aload_n X.x X.b dX5_take_146 rfl (lv_at hl 3 rfl) ?_
          refine f_get X hh (v := .ref (gad G 145)) (sh_134 G _) (by decide) rfl in_X5 13 (by decide) kf_X5_41 rfl dX5_take_147 ?_
          refine lv_iload X.x X.b dX5_take_150 (lv_at hl 2 rfl) ?_
          refine f_ialdx X hh (j := 12 * i + j) (y := nI A.2.2.1) (sh_145 G _) (by decide) rfl (by omega) (by decide) (by rw [mset_n (show 145 ≠ 146 by omega), mset_n (show 145 ≠ 146 by omega), mset_n (show 145 ≠ 143 by omega)]; exact hA.2.2.1) dX5_take_152 ?_
          refine lv_if_eq (tgt := 176) X.x X.b dX5_take_153 (by decide) (fun c_15 => ?_) (fun c_15 => ?_)
          · have c_15 : A.2.2.1 = 0 := (nI_eq (a := A.2.2.1) (b := 0) (by omega) (by omega)).mp c_15
            refine lv_iload X.x X.b dX5_take_176 (lv_at hl 0 rfl) ?_
            refine lv_aload_n X.x X.b dX5_take_178 rfl (lv_at hl 3 rfl) ?_
            refine f_get X hh (v := .ref (gad G 144)) (sh_134 G _) (by decide) rfl in_X5 12 (by decide) kf_X5_38 rfl dX5_take_179 ?_
            refine lv_iload X.x X.b dX5_take_182 (lv_at hl 1 rfl) ?_
            refine f_ialdx X hh (j := 12 * (i + di st) + (j + dj st)) (y := nI T.2.1) (sh_144 G _) (by decide) rfl (by omega) (by decide) (by rw [mset_n (show 144 ≠ 146 by omega), mset_n (show 144 ≠ 146 by omega), mset_n (show 144 ≠ 143 by omega)]; exact hT.2.1) dX5_take_184 ?_
            refine f_iadd X (z := nI (cst I st i j + T.2.1)) (nI_add (cst I st i j) T.2.1) dX5_take_185 ?_
            refine lv_goto (tgt := 196) X.x X.b dX5_take_186 (by decide) ?_
            refine f_iast X hh (j := 12 * i + j) (sh_144 G) (by decide) rfl (by omega) (by decide) dX5_take_196 (fun H locs hh => ?_)
            refine lv_aload_n X.x X.b dX5_take_197 rfl (lv_at hl 3 rfl) ?_
            refine f_get X hh (v := .ref (gad G 145)) (sh_134 G _) (by decide) rfl in_X5 13 (by decide) kf_X5_41 rfl dX5_take_198 ?_
            refine lv_iload X.x X.b dX5_take_201 (lv_at hl 2 rfl) ?_
            refine lv_dup2_11 X.x X.b dX5_take_203 rfl rfl ?_
            refine f_ialdx X hh (j := 12 * i + j) (y := nI A.2.2.1) (sh_145 G _) (by decide) rfl (by omega) (by decide) (by rw [mset_n (show 145 ≠ 144 by omega), mset_n (show 145 ≠ 146 by omega), mset_n (show 145 ≠ 146 by omega), mset_n (show 145 ≠ 143 by omega)]; exact hA.2.2.1) dX5_take_204 ?_
            refine lv_aload_n X.x X.b dX5_take_205 rfl (lv_at hl 3 rfl) ?_
            refine f_get X hh (v := .ref (gad G 145)) (sh_134 G _) (by decide) rfl in_X5 13 (by decide) kf_X5_41 rfl dX5_take_206 ?_
            refine lv_iload X.x X.b dX5_take_209 (lv_at hl 1 rfl) ?_
            refine f_ialdx X hh (j := 12 * (i + di st) + (j + dj st)) (y := nI T.2.2.1) (sh_145 G _) (by decide) rfl (by omega) (by decide) (by rw [mset_n (show 145 ≠ 144 by omega), mset_n (show 145 ≠ 146 by omega), mset_n (show 145 ≠ 146 by omega), mset_n (show 145 ≠ 143 by omega)]; exact hT.2.2.1) dX5_take_211 ?_
            refine f_iadd X (z := nI (A.2.2.1 + T.2.2.1)) (nI_add A.2.2.1 T.2.2.1) dX5_take_212 ?_
            refine f_iast X hh (j := 12 * i + j) (sh_145 G) (by decide) rfl (by omega) (by decide) dX5_take_213 (fun H locs hh => ?_)
            refine f_vret X hh ?_ dX5_take_214
            exact absurd rfl c_14
          · have c_15 : ¬ A.2.2.1 = 0 := fun q9 => c_15 ((nI_eq (a := A.2.2.1) (b := 0) (by omega) (by omega)).mpr q9)
            refine lv_iload X.x X.b dX5_take_156 (lv_at hl 0 rfl) ?_
            refine lv_aload_n X.x X.b dX5_take_158 rfl (lv_at hl 3 rfl) ?_
            refine f_get X hh (v := .ref (gad G 144)) (sh_134 G _) (by decide) rfl in_X5 12 (by decide) kf_X5_38 rfl dX5_take_159 ?_
            refine lv_iload X.x X.b dX5_take_162 (lv_at hl 1 rfl) ?_
            refine f_ialdx X hh (j := 12 * (i + di st) + (j + dj st)) (y := nI T.2.1) (sh_144 G _) (by decide) rfl (by omega) (by decide) (by rw [mset_n (show 144 ≠ 146 by omega), mset_n (show 144 ≠ 146 by omega), mset_n (show 144 ≠ 143 by omega)]; exact hT.2.1) dX5_take_164 ?_
            refine f_iadd X (z := nI (cst I st i j + T.2.1)) (nI_add (cst I st i j) T.2.1) dX5_take_165 ?_
            refine lv_aload_n X.x X.b dX5_take_166 rfl (lv_at hl 3 rfl) ?_
            refine f_get X hh (v := .ref (gad G 144)) (sh_134 G _) (by decide) rfl in_X5 12 (by decide) kf_X5_38 rfl dX5_take_167 ?_
            refine lv_iload X.x X.b dX5_take_170 (lv_at hl 2 rfl) ?_
            refine f_ialdx X hh (j := 12 * i + j) (y := nI A.2.1) (sh_144 G _) (by decide) rfl (by omega) (by decide) (by rw [mset_n (show 144 ≠ 146 by omega), mset_n (show 144 ≠ 146 by omega), mset_n (show 144 ≠ 143 by omega)]; exact hA.2.1) dX5_take_172 ?_
            refine lv_icmp_le (tgt := 189) X.x X.b dX5_take_173 (by decide) (fun c_16 => ?_) (fun c_16 => ?_)
            · have c_16 : (cst I st i j + T.2.1) ≤ A.2.1 := (nI_leI (a := (cst I st i j + T.2.1)) (b := A.2.1) (by omega) (by omega)).mp c_16
              refine lv_aload_n X.x X.b dX5_take_189 rfl (lv_at hl 3 rfl) ?_
              refine f_get X hh (v := .ref (gad G 144)) (sh_134 G _) (by decide) rfl in_X5 12 (by decide) kf_X5_38 rfl dX5_take_190 ?_
              refine lv_iload X.x X.b dX5_take_193 (lv_at hl 2 rfl) ?_
              refine f_ialdx X hh (j := 12 * i + j) (y := nI A.2.1) (sh_144 G _) (by decide) rfl (by omega) (by decide) (by rw [mset_n (show 144 ≠ 146 by omega), mset_n (show 144 ≠ 146 by omega), mset_n (show 144 ≠ 143 by omega)]; exact hA.2.1) dX5_take_195 ?_
              refine f_iast X hh (j := 12 * i + j) (sh_144 G) (by decide) rfl (by omega) (by decide) dX5_take_196 (fun H locs hh => ?_)
              refine lv_aload_n X.x X.b dX5_take_197 rfl (lv_at hl 3 rfl) ?_
              refine f_get X hh (v := .ref (gad G 145)) (sh_134 G _) (by decide) rfl in_X5 13 (by decide) kf_X5_41 rfl dX5_take_198 ?_
              refine lv_iload X.x X.b dX5_take_201 (lv_at hl 2 rfl) ?_
              refine lv_dup2_11 X.x X.b dX5_take_203 rfl rfl ?_
              refine f_ialdx X hh (j := 12 * i + j) (y := nI A.2.2.1) (sh_145 G _) (by decide) rfl (by omega) (by decide) (by rw [mset_n (show 145 ≠ 144 by omega), mset_n (show 145 ≠ 146 by omega), mset_n (show 145 ≠ 146 by omega), mset_n (show 145 ≠ 143 by omega)]; exact hA.2.2.1) dX5_take_204 ?_
              refine lv_aload_n X.x X.b dX5_take_205 rfl (lv_at hl 3 rfl) ?_
              refine f_get X hh (v := .ref (gad G 145)) (sh_134 G _) (by decide) rfl in_X5 13 (by decide) kf_X5_41 rfl dX5_take_206 ?_
              refine lv_iload X.x X.b dX5_take_209 (lv_at hl 1 rfl) ?_
              refine f_ialdx X hh (j := 12 * (i + di st) + (j + dj st)) (y := nI T.2.2.1) (sh_145 G _) (by decide) rfl (by omega) (by decide) (by rw [mset_n (show 145 ≠ 144 by omega), mset_n (show 145 ≠ 146 by omega), mset_n (show 145 ≠ 146 by omega), mset_n (show 145 ≠ 143 by omega)]; exact hT.2.2.1) dX5_take_211 ?_
              refine f_iadd X (z := nI (A.2.2.1 + T.2.2.1)) (nI_add A.2.2.1 T.2.2.1) dX5_take_212 ?_
              refine f_iast X hh (j := 12 * i + j) (sh_145 G) (by decide) rfl (by omega) (by decide) dX5_take_213 (fun H locs hh => ?_)
              refine f_vret X hh ?_ dX5_take_214
              exact absurd rfl c_14
            · have c_16 : ¬ (cst I st i j + T.2.1) ≤ A.2.1 := fun q9 => c_16 ((nI_leI (a := (cst I st i j + T.2.1)) (b := A.2.1) (by omega) (by omega)).mpr q9)
              refine lv_iload X.x X.b dX5_take_176 (lv_at hl 0 rfl) ?_
              refine lv_aload_n X.x X.b dX5_take_178 rfl (lv_at hl 3 rfl) ?_
              refine f_get X hh (v := .ref (gad G 144)) (sh_134 G _) (by decide) rfl in_X5 12 (by decide) kf_X5_38 rfl dX5_take_179 ?_
              refine lv_iload X.x X.b dX5_take_182 (lv_at hl 1 rfl) ?_
              refine f_ialdx X hh (j := 12 * (i + di st) + (j + dj st)) (y := nI T.2.1) (sh_144 G _) (by decide) rfl (by omega) (by decide) (by rw [mset_n (show 144 ≠ 146 by omega), mset_n (show 144 ≠ 146 by omega), mset_n (show 144 ≠ 143 by omega)]; exact hT.2.1) dX5_take_184 ?_
              refine f_iadd X (z := nI (cst I st i j + T.2.1)) (nI_add (cst I st i j) T.2.1) dX5_take_185 ?_
              refine lv_goto (tgt := 196) X.x X.b dX5_take_186 (by decide) ?_
              refine f_iast X hh (j := 12 * i + j) (sh_144 G) (by decide) rfl (by omega) (by decide) dX5_take_196 (fun H locs hh => ?_)
              refine lv_aload_n X.x X.b dX5_take_197 rfl (lv_at hl 3 rfl) ?_
              refine f_get X hh (v := .ref (gad G 145)) (sh_134 G _) (by decide) rfl in_X5 13 (by decide) kf_X5_41 rfl dX5_take_198 ?_
              refine lv_iload X.x X.b dX5_take_201 (lv_at hl 2 rfl) ?_
              refine lv_dup2_11 X.x X.b dX5_take_203 rfl rfl ?_
              refine f_ialdx X hh (j := 12 * i + j) (y := nI A.2.2.1) (sh_145 G _) (by decide) rfl (by omega) (by decide) (by rw [mset_n (show 145 ≠ 144 by omega), mset_n (show 145 ≠ 146 by omega), mset_n (show 145 ≠ 146 by omega), mset_n (show 145 ≠ 143 by omega)]; exact hA.2.2.1) dX5_take_204 ?_
              refine lv_aload_n X.x X.b dX5_take_205 rfl (lv_at hl 3 rfl) ?_
              refine f_get X hh (v := .ref (gad G 145)) (sh_134 G _) (by decide) rfl in_X5 13 (by decide) kf_X5_41 rfl dX5_take_206 ?_
              refine lv_iload X.x X.b dX5_take_209 (lv_at hl 1 rfl) ?_
              refine f_ialdx X hh (j := 12 * (i + di st) + (j + dj st)) (y := nI T.2.2.1) (sh_145 G _) (by decide) rfl (by omega) (by decide) (by rw [mset_n (show 145 ≠ 144 by omega), mset_n (show 145 ≠ 146 by omega), mset_n (show 145 ≠ 146 by omega), mset_n (show 145 ≠ 143 by omega)]; exact hT.2.2.1) dX5_take_211 ?_
              refine f_iadd X (z := nI (A.2.2.1 + T.2.2.1)) (nI_add A.2.2.1 T.2.2.1) dX5_take_212 ?_
              refine f_iast X hh (j := 12 * i + j) (sh_145 G) (by decide) rfl (by omega) (by decide) dX5_take_213 (fun H locs hh => ?_)
              refine f_vret X hh ?_ dX5_take_214
              exact absurd rfl c_14
        · have c_14 : (cst I st i j + T.1) = (cst I st i j + T.1) := (nI_eq (a := (cst I st i j + T.1)) (b := (cst I st i j + T.1)) (by omega) (by omega)).mp c_14
          refine lv_aload_n X.x X.b dX5_take_127 rfl (lv_at hl 3 rfl) ?_
          refine f_get X hh (v := .ref (gad G 146)) (sh_134 G _) (by decide) rfl in_X5 14 (by decide) kf_X5_44 rfl dX5_take_128 ?_
          refine lv_iload X.x X.b dX5_take_131 (lv_at hl 1 rfl) ?_
          refine f_ialdx X hh (j := 12 * (i + di st) + (j + dj st)) (y := nI T.2.2.2) (sh_146 G _) (by decide) rfl (by omega) (by decide) (by rw [mset_sn (show 12 * (i + di st) + (j + dj st) ≠ 12 * i + j by omega), mset_n (show 146 ≠ 143 by omega)]; exact hT.2.2.2) dX5_take_133 ?_
          refine lv_goto (tgt := 138) X.x X.b dX5_take_134 (by decide) ?_
          refine f_iadd X (z := nI (0 + T.2.2.2)) (nI_add 0 T.2.2.2) dX5_take_138 ?_
          refine f_iast X hh (j := 12 * i + j) (sh_146 G) (by decide) rfl (by omega) (by decide) dX5_take_139 (fun H locs hh => ?_)
          refine lv_aload_n X.x X.b dX5_take_140 rfl (lv_at hl 3 rfl) ?_
          refine f_get X hh (v := .ref (gad G 144)) (sh_134 G _) (by decide) rfl in_X5 12 (by decide) kf_X5_38 rfl dX5_take_141 ?_
          refine lv_iload X.x X.b dX5_take_144 (lv_at hl 2 rfl) ?_
          refine lv_aload_n X.x X.b dX5_take_146 rfl (lv_at hl 3 rfl) ?_
          refine f_get X hh (v := .ref (gad G 145)) (sh_134 G _) (by decide) rfl in_X5 13 (by decide) kf_X5_41 rfl dX5_take_147 ?_
          refine lv_iload X.x X.b dX5_take_150 (lv_at hl 2 rfl) ?_
          refine f_ialdx X hh (j := 12 * i + j) (y := nI A.2.2.1) (sh_145 G _) (by decide) rfl (by omega) (by decide) (by rw [mset_n (show 145 ≠ 146 by omega), mset_n (show 145 ≠ 146 by omega), mset_n (show 145 ≠ 143 by omega)]; exact hA.2.2.1) dX5_take_152 ?_
          refine lv_if_eq (tgt := 176) X.x X.b dX5_take_153 (by decide) (fun c_17 => ?_) (fun c_17 => ?_)
          · have c_17 : A.2.2.1 = 0 := (nI_eq (a := A.2.2.1) (b := 0) (by omega) (by omega)).mp c_17
            refine lv_iload X.x X.b dX5_take_176 (lv_at hl 0 rfl) ?_
            refine lv_aload_n X.x X.b dX5_take_178 rfl (lv_at hl 3 rfl) ?_
            refine f_get X hh (v := .ref (gad G 144)) (sh_134 G _) (by decide) rfl in_X5 12 (by decide) kf_X5_38 rfl dX5_take_179 ?_
            refine lv_iload X.x X.b dX5_take_182 (lv_at hl 1 rfl) ?_
            refine f_ialdx X hh (j := 12 * (i + di st) + (j + dj st)) (y := nI T.2.1) (sh_144 G _) (by decide) rfl (by omega) (by decide) (by rw [mset_n (show 144 ≠ 146 by omega), mset_n (show 144 ≠ 146 by omega), mset_n (show 144 ≠ 143 by omega)]; exact hT.2.1) dX5_take_184 ?_
            refine f_iadd X (z := nI (cst I st i j + T.2.1)) (nI_add (cst I st i j) T.2.1) dX5_take_185 ?_
            refine lv_goto (tgt := 196) X.x X.b dX5_take_186 (by decide) ?_
            refine f_iast X hh (j := 12 * i + j) (sh_144 G) (by decide) rfl (by omega) (by decide) dX5_take_196 (fun H locs hh => ?_)
            refine lv_aload_n X.x X.b dX5_take_197 rfl (lv_at hl 3 rfl) ?_
            refine f_get X hh (v := .ref (gad G 145)) (sh_134 G _) (by decide) rfl in_X5 13 (by decide) kf_X5_41 rfl dX5_take_198 ?_
            refine lv_iload X.x X.b dX5_take_201 (lv_at hl 2 rfl) ?_
            refine lv_dup2_11 X.x X.b dX5_take_203 rfl rfl ?_
            refine f_ialdx X hh (j := 12 * i + j) (y := nI A.2.2.1) (sh_145 G _) (by decide) rfl (by omega) (by decide) (by rw [mset_n (show 145 ≠ 144 by omega), mset_n (show 145 ≠ 146 by omega), mset_n (show 145 ≠ 146 by omega), mset_n (show 145 ≠ 143 by omega)]; exact hA.2.2.1) dX5_take_204 ?_
            refine lv_aload_n X.x X.b dX5_take_205 rfl (lv_at hl 3 rfl) ?_
            refine f_get X hh (v := .ref (gad G 145)) (sh_134 G _) (by decide) rfl in_X5 13 (by decide) kf_X5_41 rfl dX5_take_206 ?_
            refine lv_iload X.x X.b dX5_take_209 (lv_at hl 1 rfl) ?_
            refine f_ialdx X hh (j := 12 * (i + di st) + (j + dj st)) (y := nI T.2.2.1) (sh_145 G _) (by decide) rfl (by omega) (by decide) (by rw [mset_n (show 145 ≠ 144 by omega), mset_n (show 145 ≠ 146 by omega), mset_n (show 145 ≠ 146 by omega), mset_n (show 145 ≠ 143 by omega)]; exact hT.2.2.1) dX5_take_211 ?_
            refine f_iadd X (z := nI (A.2.2.1 + T.2.2.1)) (nI_add A.2.2.1 T.2.2.1) dX5_take_212 ?_
            refine f_iast X hh (j := 12 * i + j) (sh_145 G) (by decide) rfl (by omega) (by decide) dX5_take_213 (fun H locs hh => ?_)
            refine f_vret X hh ?_ dX5_take_214
            have hc1 : (A.2.2.1 = 0 ∨ cst I st i j + T.1 < A.1) := by omega
            have hc2 : cst I st i j + T.1 = cst I st i j + T.1 := by omega
            have hc3 : (A.2.2.1 = 0 ∨ A.2.1 < cst I st i j + T.2.1) := by omega
            have e9 : tk A (cst I st i j) T = (cst I st i j + T.1, cst I st i j + T.2.1, A.2.2.1 + T.2.2.1, 0 + T.2.2.2) := by unfold tk; rw [if_neg c_1]; simp only [if_pos hc1, if_pos hc2, if_pos hc3, if_true]
            rw [e9]
            exact ⟨⟨(by rw [mset_n (show 143 ≠ 145 by omega), mset_n (show 143 ≠ 144 by omega), mset_n (show 143 ≠ 146 by omega), mset_n (show 143 ≠ 146 by omega), mset_ss]), (by rw [mset_n (show 144 ≠ 145 by omega), mset_ss]), (by rw [mset_ss]), (by rw [mset_n (show 146 ≠ 145 by omega), mset_n (show 146 ≠ 144 by omega), mset_ss])⟩, fun c x hx => by rw [mset_nn (by omega), mset_nn (by omega), mset_nn (by omega), mset_nn (by omega), mset_nn (by omega)]⟩
          · have c_17 : ¬ A.2.2.1 = 0 := fun q9 => c_17 ((nI_eq (a := A.2.2.1) (b := 0) (by omega) (by omega)).mpr q9)
            refine lv_iload X.x X.b dX5_take_156 (lv_at hl 0 rfl) ?_
            refine lv_aload_n X.x X.b dX5_take_158 rfl (lv_at hl 3 rfl) ?_
            refine f_get X hh (v := .ref (gad G 144)) (sh_134 G _) (by decide) rfl in_X5 12 (by decide) kf_X5_38 rfl dX5_take_159 ?_
            refine lv_iload X.x X.b dX5_take_162 (lv_at hl 1 rfl) ?_
            refine f_ialdx X hh (j := 12 * (i + di st) + (j + dj st)) (y := nI T.2.1) (sh_144 G _) (by decide) rfl (by omega) (by decide) (by rw [mset_n (show 144 ≠ 146 by omega), mset_n (show 144 ≠ 146 by omega), mset_n (show 144 ≠ 143 by omega)]; exact hT.2.1) dX5_take_164 ?_
            refine f_iadd X (z := nI (cst I st i j + T.2.1)) (nI_add (cst I st i j) T.2.1) dX5_take_165 ?_
            refine lv_aload_n X.x X.b dX5_take_166 rfl (lv_at hl 3 rfl) ?_
            refine f_get X hh (v := .ref (gad G 144)) (sh_134 G _) (by decide) rfl in_X5 12 (by decide) kf_X5_38 rfl dX5_take_167 ?_
            refine lv_iload X.x X.b dX5_take_170 (lv_at hl 2 rfl) ?_
            refine f_ialdx X hh (j := 12 * i + j) (y := nI A.2.1) (sh_144 G _) (by decide) rfl (by omega) (by decide) (by rw [mset_n (show 144 ≠ 146 by omega), mset_n (show 144 ≠ 146 by omega), mset_n (show 144 ≠ 143 by omega)]; exact hA.2.1) dX5_take_172 ?_
            refine lv_icmp_le (tgt := 189) X.x X.b dX5_take_173 (by decide) (fun c_18 => ?_) (fun c_18 => ?_)
            · have c_18 : (cst I st i j + T.2.1) ≤ A.2.1 := (nI_leI (a := (cst I st i j + T.2.1)) (b := A.2.1) (by omega) (by omega)).mp c_18
              refine lv_aload_n X.x X.b dX5_take_189 rfl (lv_at hl 3 rfl) ?_
              refine f_get X hh (v := .ref (gad G 144)) (sh_134 G _) (by decide) rfl in_X5 12 (by decide) kf_X5_38 rfl dX5_take_190 ?_
              refine lv_iload X.x X.b dX5_take_193 (lv_at hl 2 rfl) ?_
              refine f_ialdx X hh (j := 12 * i + j) (y := nI A.2.1) (sh_144 G _) (by decide) rfl (by omega) (by decide) (by rw [mset_n (show 144 ≠ 146 by omega), mset_n (show 144 ≠ 146 by omega), mset_n (show 144 ≠ 143 by omega)]; exact hA.2.1) dX5_take_195 ?_
              refine f_iast X hh (j := 12 * i + j) (sh_144 G) (by decide) rfl (by omega) (by decide) dX5_take_196 (fun H locs hh => ?_)
              refine lv_aload_n X.x X.b dX5_take_197 rfl (lv_at hl 3 rfl) ?_
              refine f_get X hh (v := .ref (gad G 145)) (sh_134 G _) (by decide) rfl in_X5 13 (by decide) kf_X5_41 rfl dX5_take_198 ?_
              refine lv_iload X.x X.b dX5_take_201 (lv_at hl 2 rfl) ?_
              refine lv_dup2_11 X.x X.b dX5_take_203 rfl rfl ?_
              refine f_ialdx X hh (j := 12 * i + j) (y := nI A.2.2.1) (sh_145 G _) (by decide) rfl (by omega) (by decide) (by rw [mset_n (show 145 ≠ 144 by omega), mset_n (show 145 ≠ 146 by omega), mset_n (show 145 ≠ 146 by omega), mset_n (show 145 ≠ 143 by omega)]; exact hA.2.2.1) dX5_take_204 ?_
              refine lv_aload_n X.x X.b dX5_take_205 rfl (lv_at hl 3 rfl) ?_
              refine f_get X hh (v := .ref (gad G 145)) (sh_134 G _) (by decide) rfl in_X5 13 (by decide) kf_X5_41 rfl dX5_take_206 ?_
              refine lv_iload X.x X.b dX5_take_209 (lv_at hl 1 rfl) ?_
              refine f_ialdx X hh (j := 12 * (i + di st) + (j + dj st)) (y := nI T.2.2.1) (sh_145 G _) (by decide) rfl (by omega) (by decide) (by rw [mset_n (show 145 ≠ 144 by omega), mset_n (show 145 ≠ 146 by omega), mset_n (show 145 ≠ 146 by omega), mset_n (show 145 ≠ 143 by omega)]; exact hT.2.2.1) dX5_take_211 ?_
              refine f_iadd X (z := nI (A.2.2.1 + T.2.2.1)) (nI_add A.2.2.1 T.2.2.1) dX5_take_212 ?_
              refine f_iast X hh (j := 12 * i + j) (sh_145 G) (by decide) rfl (by omega) (by decide) dX5_take_213 (fun H locs hh => ?_)
              refine f_vret X hh ?_ dX5_take_214
              have hc1 : (A.2.2.1 = 0 ∨ cst I st i j + T.1 < A.1) := by omega
              have hc2 : cst I st i j + T.1 = cst I st i j + T.1 := by omega
              have hc3 : ¬ (A.2.2.1 = 0 ∨ A.2.1 < cst I st i j + T.2.1) := by omega
              have e9 : tk A (cst I st i j) T = (cst I st i j + T.1, A.2.1, A.2.2.1 + T.2.2.1, 0 + T.2.2.2) := by unfold tk; rw [if_neg c_1]; simp only [if_pos hc1, if_pos hc2, if_neg hc3, if_true]
              rw [e9]
              exact ⟨⟨(by rw [mset_n (show 143 ≠ 145 by omega), mset_n (show 143 ≠ 144 by omega), mset_n (show 143 ≠ 146 by omega), mset_n (show 143 ≠ 146 by omega), mset_ss]), (by rw [mset_n (show 144 ≠ 145 by omega), mset_ss]), (by rw [mset_ss]), (by rw [mset_n (show 146 ≠ 145 by omega), mset_n (show 146 ≠ 144 by omega), mset_ss])⟩, fun c x hx => by rw [mset_nn (by omega), mset_nn (by omega), mset_nn (by omega), mset_nn (by omega), mset_nn (by omega)]⟩
            · have c_18 : ¬ (cst I st i j + T.2.1) ≤ A.2.1 := fun q9 => c_18 ((nI_leI (a := (cst I st i j + T.2.1)) (b := A.2.1) (by omega) (by omega)).mpr q9)
              refine lv_iload X.x X.b dX5_take_176 (lv_at hl 0 rfl) ?_
              refine lv_aload_n X.x X.b dX5_take_178 rfl (lv_at hl 3 rfl) ?_
              refine f_get X hh (v := .ref (gad G 144)) (sh_134 G _) (by decide) rfl in_X5 12 (by decide) kf_X5_38 rfl dX5_take_179 ?_
              refine lv_iload X.x X.b dX5_take_182 (lv_at hl 1 rfl) ?_
              refine f_ialdx X hh (j := 12 * (i + di st) + (j + dj st)) (y := nI T.2.1) (sh_144 G _) (by decide) rfl (by omega) (by decide) (by rw [mset_n (show 144 ≠ 146 by omega), mset_n (show 144 ≠ 146 by omega), mset_n (show 144 ≠ 143 by omega)]; exact hT.2.1) dX5_take_184 ?_
              refine f_iadd X (z := nI (cst I st i j + T.2.1)) (nI_add (cst I st i j) T.2.1) dX5_take_185 ?_
              refine lv_goto (tgt := 196) X.x X.b dX5_take_186 (by decide) ?_
              refine f_iast X hh (j := 12 * i + j) (sh_144 G) (by decide) rfl (by omega) (by decide) dX5_take_196 (fun H locs hh => ?_)
              refine lv_aload_n X.x X.b dX5_take_197 rfl (lv_at hl 3 rfl) ?_
              refine f_get X hh (v := .ref (gad G 145)) (sh_134 G _) (by decide) rfl in_X5 13 (by decide) kf_X5_41 rfl dX5_take_198 ?_
              refine lv_iload X.x X.b dX5_take_201 (lv_at hl 2 rfl) ?_
              refine lv_dup2_11 X.x X.b dX5_take_203 rfl rfl ?_
              refine f_ialdx X hh (j := 12 * i + j) (y := nI A.2.2.1) (sh_145 G _) (by decide) rfl (by omega) (by decide) (by rw [mset_n (show 145 ≠ 144 by omega), mset_n (show 145 ≠ 146 by omega), mset_n (show 145 ≠ 146 by omega), mset_n (show 145 ≠ 143 by omega)]; exact hA.2.2.1) dX5_take_204 ?_
              refine lv_aload_n X.x X.b dX5_take_205 rfl (lv_at hl 3 rfl) ?_
              refine f_get X hh (v := .ref (gad G 145)) (sh_134 G _) (by decide) rfl in_X5 13 (by decide) kf_X5_41 rfl dX5_take_206 ?_
              refine lv_iload X.x X.b dX5_take_209 (lv_at hl 1 rfl) ?_
              refine f_ialdx X hh (j := 12 * (i + di st) + (j + dj st)) (y := nI T.2.2.1) (sh_145 G _) (by decide) rfl (by omega) (by decide) (by rw [mset_n (show 145 ≠ 144 by omega), mset_n (show 145 ≠ 146 by omega), mset_n (show 145 ≠ 146 by omega), mset_n (show 145 ≠ 143 by omega)]; exact hT.2.2.1) dX5_take_211 ?_
              refine f_iadd X (z := nI (A.2.2.1 + T.2.2.1)) (nI_add A.2.2.1 T.2.2.1) dX5_take_212 ?_
              refine f_iast X hh (j := 12 * i + j) (sh_145 G) (by decide) rfl (by omega) (by decide) dX5_take_213 (fun H locs hh => ?_)
              refine f_vret X hh ?_ dX5_take_214
              have hc1 : (A.2.2.1 = 0 ∨ cst I st i j + T.1 < A.1) := by omega
              have hc2 : cst I st i j + T.1 = cst I st i j + T.1 := by omega
              have hc3 : (A.2.2.1 = 0 ∨ A.2.1 < cst I st i j + T.2.1) := by omega
              have e9 : tk A (cst I st i j) T = (cst I st i j + T.1, cst I st i j + T.2.1, A.2.2.1 + T.2.2.1, 0 + T.2.2.2) := by unfold tk; rw [if_neg c_1]; simp only [if_pos hc1, if_pos hc2, if_pos hc3, if_true]
              rw [e9]
              exact ⟨⟨(by rw [mset_n (show 143 ≠ 145 by omega), mset_n (show 143 ≠ 144 by omega), mset_n (show 143 ≠ 146 by omega), mset_n (show 143 ≠ 146 by omega), mset_ss]), (by rw [mset_n (show 144 ≠ 145 by omega), mset_ss]), (by rw [mset_ss]), (by rw [mset_n (show 146 ≠ 145 by omega), mset_n (show 146 ≠ 144 by omega), mset_ss])⟩, fun c x hx => by rw [mset_nn (by omega), mset_nn (by omega), mset_nn (by omega), mset_nn (by omega), mset_nn (by omega)]⟩
  · have c_1 : T.2.2.1 = 0 := (nI_eq (a := T.2.2.1) (b := 0) (by omega) (by omega)).mp c_1
    refine f_vret X hh ?_ dX5_take_34
    rw [show tk A (cst I st i j) T = A by unfold tk; rw [if_pos c_1]]
    exact ⟨hA, fun _ _ _ => rfl⟩
