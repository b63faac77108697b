/-! the model: its cells that hold a state -/
def MBk (f : Nat → Int32) (B : BKs) : Prop := (∀ i, i < 3 → f (0 + i) = nI (bN B i)) ∧ (∀ i, i < 3 → ∀ j, j < bN B i → f (3 + 9 * i + j) = nI (bW B i j)) ∧ (∀ i, i < 3 → ∀ j, j < bN B i → f (30 + 9 * i + j) = nI (bZ B i j)) ∧ (∀ i, i < 4 → f (57 + i) = nI (bN B (3 + i))) ∧ (∀ i, i < 4 → ∀ j, j < bN B (3 + i) → f (61 + 11 * i + j) = nI (bW B (3 + i) j)) ∧ (∀ i, i < 4 → ∀ j, j < bN B (3 + i) → f (105 + 11 * i + j) = nI (bZ B (3 + i) j)) ∧ ∀ k, k < 4 → f (149 + k) = nI (bU B k)
def RM (σ : Mem) (a : AS) : Prop := (σ 134 4 = nI (apn a) ∧ ∀ i, i < apn a → σ 138 i = nI (apg a i)) ∧ MBk (σ 135) (aB a) ∧ (∀ k, k < 2 → aK a k = true → MBk (fun x => σ 136 (153 * k + x)) (aI a k)) ∧ ∀ k, k < 2 → σ 137 k = nI (if aK a k = true then 1 else 0)
/-- what the model's methods leave: the class's cells -/
def FrM (σ τ : Mem) : Prop := ∀ k, k < 134 → τ k = σ k
def FrN (σ τ : Mem) : Prop := (∀ k, (k < 134 ∨ (135 ≤ k ∧ k < 139)) → τ k = σ k) ∧ τ 134 4 = σ 134 4
theorem FrM.rf {σ : Mem} : FrM σ σ := fun _ _ => rfl
theorem FrN.rf {σ : Mem} : FrN σ σ := ⟨fun _ _ => rfl, rfl⟩
theorem FrN.tr {σ τ υ : Mem} (h : FrN σ τ) (g : FrN τ υ) : FrN σ υ := ⟨fun k a => (g.1 k a).trans (h.1 k a), g.2.trans h.2⟩
theorem FrN.m {σ τ : Mem} (h : FrN σ τ) : FrM σ τ := fun k hk => h.1 k (by omega)
theorem RM.kn {σ τ : Mem} {a : AS} (h : RM σ a) (f : FrN σ τ) : RM τ a := by
  obtain ⟨⟨h1, h2⟩, h3, h4, h5⟩ := h
  refine ⟨⟨by rw [f.2]; exact h1, fun i hi => by rw [f.1 _ (by omega)]; exact h2 i hi⟩, by rw [f.1 _ (by omega)]; exact h3, fun k hk h9 => by rw [f.1 136 (by omega)]; exact h4 k hk h9, fun k hk => by rw [f.1 137 (by omega)]; exact h5 k hk⟩
theorem MBk.cg {f g : Nat → Int32} {B : BKs} (h : MBk f B) (hB : BBd B) (e : ∀ x, x < 153 → g x = f x) : MBk g B := by
  obtain ⟨h1, h2, h3, h4, h5, h6, h7⟩ := h
  refine ⟨fun i hi => ?_, fun i hi j hj => ?_, fun i hi j hj => ?_, fun i hi => ?_, fun i hi j hj => ?_, fun i hi j hj => ?_, fun k hk => ?_⟩
  · rw [e _ (by omega)]; exact h1 i hi
  · have := (hB.1 i hi).1; rw [e _ (by omega)]; exact h2 i hi j hj
  · have := (hB.1 i hi).1; rw [e _ (by omega)]; exact h3 i hi j hj
  · rw [e _ (by omega)]; exact h4 i hi
  · have := (hB.2.1 (3 + i) (by omega) (by omega)).1; rw [e _ (by omega)]; exact h5 i hi j hj
  · have := (hB.2.1 (3 + i) (by omega) (by omega)).1; rw [e _ (by omega)]; exact h6 i hi j hj
  · rw [e _ (by omega)]; exact h7 k hk
theorem lans_lt {g : Nat → Nat} {n : Nat} (hn : n ≤ 22) : lans g n < 0 ↔ lans g n = -6 := by
  unfold lans
  cases hf : ffst (okL g) n with
  | none => exact ⟨fun _ => rfl, fun _ => by decide⟩
  | some k => have := ffst_lt hf; exact ⟨fun h => absurd h (nI_pos (by omega)), fun h => absurd h (nI_m6 (by omega))⟩
theorem tans_lt {g : Nat → Nat} {n : Nat} (hn : n ≤ 22) : tans g n < 0 ↔ tans g n = -6 := by
  unfold tans
  cases hf : ffst (okT g) n with
  | none =>
    dsimp only
    split
    · exact ⟨fun _ => rfl, fun _ => by decide⟩
    · exact ⟨fun h => absurd h (nI_pos (by omega)), fun h => absurd h (nI_m6 (by omega))⟩
  | some k => have := ffst_lt hf; exact ⟨fun h => absurd h (nI_pos (by omega)), fun h => absurd h (nI_m6 (by omega))⟩
set_option maxHeartbeats 4000000 in
set_option maxRecDepth 100000 in
theorem c5_in (l : Launch) (G : GG) {σ : Mem}  (x a b : Int32) : Ci l G yX5_in cX5_in 3 (some .boolean) 0 0 [.int x, .int a, .int b] σ (fun r τ => r = (if a ≤ x ∧ x ≤ b then 1 else 0) ∧ τ = σ) := by
  refine Ci.of (own := RX5) (by decide) rfl (Nat.le_of_ble_eq_true rfl) (fun p e s m args below meth c ls H locs X hl hh => ?_)
  have hl : lv_has ls 3 [(0, .int x), (1, .int a), (2, .int b)] := hl
  refine lv_iload_n X.x X.b dX5_in_0 rfl (lv_at hl 0 rfl) ?_
  refine lv_iload_n X.x X.b dX5_in_1 rfl (lv_at hl 1 rfl) ?_
  refine lv_icmp_lt (tgt := 14) X.x X.b dX5_in_2 (by decide) (fun c_1 => ?_) (fun c_1 => ?_)
  · refine lv_iconst (v := nI 0) X.x X.b dX5_in_14 (by decide) ?_
    exact f_zret X hh rfl ⟨by first | (rw [if_pos ⟨Int32.not_lt.mp ‹_›, Int32.not_lt.mp ‹_›⟩]; rfl) | (rw [if_neg (fun q9 => absurd q9.1 (Int32.not_le.mpr ‹_›))]; rfl) | (rw [if_neg (fun q9 => absurd q9.2 (Int32.not_le.mpr ‹_›))]; rfl), rfl⟩ dX5_in_15
  · refine lv_iload_n X.x X.b dX5_in_5 rfl (lv_at hl 0 rfl) ?_
    refine lv_iload_n X.x X.b dX5_in_6 rfl (lv_at hl 2 rfl) ?_
    refine lv_icmp_gt (tgt := 14) X.x X.b dX5_in_7 (by decide) (fun c_2 => ?_) (fun c_2 => ?_)
    · refine lv_iconst (v := nI 0) X.x X.b dX5_in_14 (by decide) ?_
      exact f_zret X hh rfl ⟨by first | (rw [if_pos ⟨Int32.not_lt.mp ‹_›, Int32.not_lt.mp ‹_›⟩]; rfl) | (rw [if_neg (fun q9 => absurd q9.1 (Int32.not_le.mpr ‹_›))]; rfl) | (rw [if_neg (fun q9 => absurd q9.2 (Int32.not_le.mpr ‹_›))]; rfl), rfl⟩ dX5_in_15
    · refine lv_iconst (v := nI 1) X.x X.b dX5_in_10 (by decide) ?_
      refine lv_goto (tgt := 15) X.x X.b dX5_in_11 (by decide) ?_
      exact f_zret X hh rfl ⟨by first | (rw [if_pos ⟨Int32.not_lt.mp ‹_›, Int32.not_lt.mp ‹_›⟩]; rfl) | (rw [if_neg (fun q9 => absurd q9.1 (Int32.not_le.mpr ‹_›))]; rfl) | (rw [if_neg (fun q9 => absurd q9.2 (Int32.not_le.mpr ‹_›))]; rfl), rfl⟩ dX5_in_15
theorem c5_inN (l : Launch) (G : GG) {σ : Mem} (x a b : Nat) (hx : x < 2 ^ 31) (ha : a < 2 ^ 31) (hb : b < 2 ^ 31) : Ci l G yX5_in cX5_in 3 (some .boolean) 0 0 [.int (nI x), .int (nI a), .int (nI b)] σ (fun r τ => r = (if a ≤ x ∧ x ≤ b then 1 else 0) ∧ τ = σ) := by
  have h := c5_in l G (σ := σ) (nI x) (nI a) (nI b)
  simp only [iz_le ha hx, iz_le hx hb] at h
  exact h
theorem c5_inB (l : Launch) (G : GG) {σ : Mem} (x : Int32) (a b : Nat) (ha : a < 2 ^ 31) (hb : b < 2 ^ 31) : Ci l G yX5_in cX5_in 3 (some .boolean) 0 0 [.int x, .int (nI a), .int (nI b)] σ (fun r τ => r = (if inB x a b then 1 else 0) ∧ τ = σ) := by
  have h := c5_in l G (σ := σ) x (nI a) (nI b)
  simp only [inB_w x ha hb] at h
  exact h
theorem c5_inR (l : Launch) (G : GG) {σ : Mem} (x : Int32) {n : Nat} (hn : n < 2 ^ 30) : Ci l G yX5_in cX5_in 3 (some .boolean) 0 0 [.int x, .int (nI 0), .int (nI n - nI 1)] σ (fun r τ => r = (if inR x n then 1 else 0) ∧ τ = σ) := by
  have h := c5_in l G (σ := σ) x (nI 0) (nI n - nI 1)
  simp only [inR_w x hn] at h
  exact h
set_option maxHeartbeats 4000000 in
set_option maxRecDepth 100000 in
theorem c5_isLine (l : Launch) (G : GG) {σ : Mem}  (x : Int32) : Ci l G yX5_isLine cX5_isLine 1 (some .boolean) 1 22 [.int x] σ (fun r τ => r = (if inB x 0 2 then 1 else 0) ∧ τ = σ) := by
  refine Ci.of (own := RX5) (by decide) rfl (Nat.le_of_ble_eq_true rfl) (fun p e s m args below meth c ls H locs X hl hh => ?_)
  have hl : lv_has ls 1 [(0, .int x)] := hl
  refine lv_iload_n X.x X.b dX5_isLine_0 rfl (lv_at hl 0 rfl) ?_
  refine lv_iconst (v := nI 0) X.x X.b dX5_isLine_1 (by decide) ?_
  refine lv_iconst (v := nI 2) X.x X.b dX5_isLine_2 (by decide) ?_
  refine f_scalli X hh (c5_inB l G x 0 2 (by decide) (by decide)) mf_yX5_in ks_yX5_in km_X5_50 rfl hl.1 [] rfl (Nat.le_of_ble_eq_true rfl) ⟨by decide, by decide⟩ ⟨Nat.zero_le _, Nat.zero_le _⟩ dX5_isLine_3 (fun r τ H locs hq hh => ?_)
  obtain ⟨rfl, hτ⟩ := hq
  rw [hτ] at hh
  clear hτ
  exact f_zret X hh (by split <;> rfl) ⟨rfl, rfl⟩ dX5_isLine_6
set_option maxHeartbeats 4000000 in
set_option maxRecDepth 100000 in
theorem c5_isTune (l : Launch) (G : GG) {σ : Mem}  (x : Int32) : Ci l G yX5_isTune cX5_isTune 1 (some .boolean) 1 22 [.int x] σ (fun r τ => r = (if inB x 0 3 then 1 else 0) ∧ τ = σ) := by
  refine Ci.of (own := RX5) (by decide) rfl (Nat.le_of_ble_eq_true rfl) (fun p e s m args below meth c ls H locs X hl hh => ?_)
  have hl : lv_has ls 1 [(0, .int x)] := hl
  refine lv_iload_n X.x X.b dX5_isTune_0 rfl (lv_at hl 0 rfl) ?_
  refine lv_iconst (v := nI 0) X.x X.b dX5_isTune_1 (by decide) ?_
  refine lv_iconst (v := nI 3) X.x X.b dX5_isTune_2 (by decide) ?_
  refine f_scalli X hh (c5_inB l G x 0 3 (by decide) (by decide)) mf_yX5_in ks_yX5_in km_X5_50 rfl hl.1 [] rfl (Nat.le_of_ble_eq_true rfl) ⟨by decide, by decide⟩ ⟨Nat.zero_le _, Nat.zero_le _⟩ dX5_isTune_3 (fun r τ H locs hq hh => ?_)
  obtain ⟨rfl, hτ⟩ := hq
  rw [hτ] at hh
  clear hτ
  exact f_zret X hh (by split <;> rfl) ⟨rfl, rfl⟩ dX5_isTune_6
theorem RM.sayn {σ : Mem} {a : AS} {k : Nat} (h : RM σ a) : RM (mset (mset σ 138 (apn a) (nI k)) 134 4 (nI (apn a + 1))) ((apn a + 1, fun i => if i = apn a then k else apg a i), a.2) := by
  obtain ⟨⟨h1, h2⟩, h3, h4, h5⟩ := h
  refine ⟨⟨mset_ss, fun i hi => ?_⟩, by rw [mset_n (by decide), mset_n (by decide)]; exact h3, fun q hq h9 => by rw [mset_n (by decide), mset_n (by decide)]; exact h4 q hq h9, fun q hq => by rw [mset_n (by decide), mset_n (by decide)]; exact h5 q hq⟩
  rw [mset_n (by decide)]
  show _ = nI (if i = apn a then k else apg a i)
  have hi : i < apn a + 1 := hi
  by_cases e : i = apn a
  · subst e; rw [mset_ss, if_pos rfl]
  · rw [mset_sn e, if_neg e]; exact h2 i (by omega)
theorem RM.wip {σ : Mem} {a : AS} (h : RM σ a) : RM (mset σ 134 4 (nI 0)) ((0, apg a), a.2) := by
  obtain ⟨⟨h1, h2⟩, h3, h4, h5⟩ := h
  exact ⟨⟨mset_ss, fun i hi => absurd hi (Nat.not_lt_zero _)⟩, by rw [mset_n (by decide)]; exact h3, fun q hq h9 => by rw [mset_n (by decide)]; exact h4 q hq h9, fun q hq => by rw [mset_n (by decide)]; exact h5 q hq⟩
set_option maxHeartbeats 4000000 in
set_option maxRecDepth 100000 in
theorem c5_say (l : Launch) (G : GG) {σ : Mem} {a : AS} (x : Int32) (hA : AOK a) (hR : RM σ a) : Ci l G yX5_say cX5_say 2 (some .int) 1 22 [.ref (gad G 134), .int x] σ (fun r τ => r = sp_say x a ∧ RM τ (ns_say x a) ∧ FrM σ τ) := by
  refine Ci.of (own := RX5) (by decide) rfl (Nat.le_of_ble_eq_true rfl) (fun p e s m args below meth c ls H locs X hl hh => ?_)
  have hn := hA.1
  have hl : lv_has ls 2 [(0, .ref (gad G 134)), (1, .int x)] := hl
  refine lv_iload_n X.x X.b dX5_say_0 rfl (lv_at hl 1 rfl) ?_
  refine lv_bipush (v := nI 33) X.x X.b dX5_say_1 (by decide) ?_
  refine lv_bipush (v := nI 126) X.x X.b dX5_say_3 (by decide) ?_
  refine f_scalli X hh (c5_inB l G x 33 126 (by decide) (by decide)) mf_yX5_in ks_yX5_in km_X5_50 rfl hl.1 [] rfl (Nat.le_of_ble_eq_true rfl) ⟨by decide, by decide⟩ ⟨Nat.zero_le _, Nat.zero_le _⟩ dX5_say_5 (fun r τ H locs hq hh => ?_)
  obtain ⟨rfl, hτ⟩ := hq
  rw [hτ] at hh
  clear hτ
  by_cases c_1 : inB x 33 126
  · rw [show (if inB x 33 126 then (1 : Int32) else 0) = 1 from if_pos c_1]
    obtain ⟨k, ha_k, hb_k, rfl⟩ := inB_of c_1 (by decide)
    refine lv_if_ne (tgt := 14) X.x X.b dX5_say_8 (by decide) (fun _ => ?_) (fun h9 => absurd h9 (by decide))
    refine lv_aload_n X.x X.b dX5_say_14 rfl (lv_at hl 0 rfl) ?_
    refine f_geti X hh (x := nI (apn a)) (sh_134 G _) (by decide) rfl in_X5 4 (by decide) kf_X5_54 rfl hR.1.1 dX5_say_15 ?_
    refine lv_bipush (v := nI 22) X.x X.b dX5_say_18 (by decide) ?_
    refine lv_icmp_ne (tgt := 26) X.x X.b dX5_say_20 (by decide) (fun c_3 => ?_) (fun c_3 => ?_)
    · have c_3 : ¬ (apn a) = 22 := fun q9 => c_3 ((nI_eq (a := (apn a)) (b := 22) (by omega) (by omega)).mpr q9)
      refine lv_aload_n X.x X.b dX5_say_26 rfl (lv_at hl 0 rfl) ?_
      refine f_get X hh (v := .ref (gad G 138)) (sh_134 G _) (by decide) rfl in_X5 3 (by decide) kf_X5_20 rfl dX5_say_27 ?_
      refine lv_aload_n X.x X.b dX5_say_30 rfl (lv_at hl 0 rfl) ?_
      refine f_geti X hh (x := nI (apn a)) (sh_134 G _) (by decide) rfl in_X5 4 (by decide) kf_X5_54 rfl hR.1.1 dX5_say_31 ?_
      refine lv_iload_n X.x X.b dX5_say_34 rfl (lv_at hl 1 rfl) ?_
      refine f_iast X hh (j := apn a) (sh_138 G) (by decide) rfl (by omega) (by decide) dX5_say_35 (fun H locs hh => ?_)
      refine lv_aload_n X.x X.b dX5_say_36 rfl (lv_at hl 0 rfl) ?_
      refine lv_dup X.x X.b dX5_say_37 rfl ?_
      refine f_geti X hh (x := nI (apn a)) (sh_134 G _) (by decide) rfl in_X5 4 (by decide) kf_X5_54 rfl (by rw [mset_n (show 134 ≠ 138 by omega)]; exact hR.1.1) dX5_say_38 ?_
      refine lv_iconst (v := nI 1) X.x X.b dX5_say_41 (by decide) ?_
      refine f_iadd X (z := nI (apn a + 1)) (nI_add (apn a) 1) dX5_say_42 ?_
      refine f_put X hh (x := nI (apn a + 1)) (sh_134 G _) (by decide) rfl in_X5 4 (sh_134 G _) tyX5 tyX5_ok nmX5 (by decide) kf_X5_54 rfl (by decide +kernel) (Nat.le_of_ble_eq_true rfl) dX5_say_43 (fun H locs hh => ?_)
      refine lv_aload_n X.x X.b dX5_say_46 rfl (lv_at hl 0 rfl) ?_
      refine f_geti X hh (x := nI (apn a + 1)) (sh_134 G _) (by decide) rfl in_X5 4 (by decide) kf_X5_54 rfl (by rw [mset_ss]) dX5_say_47 ?_
      exact f_iret X hh ⟨by unfold sp_say; rw [if_pos c_1, if_neg (by omega)], by unfold ns_say; rw [if_pos c_1, if_neg (by omega), ix_nI (by omega)]; exact hR.sayn, fun k9 h9 => by rw [mset_n (by omega), mset_n (by omega)]⟩ dX5_say_50
    · have c_3 : (apn a) = 22 := (nI_eq (a := (apn a)) (b := 22) (by omega) (by omega)).mp c_3
      refine lv_bipush (v := (-4)) X.x X.b dX5_say_23 (by decide) ?_
      exact f_iret X hh ⟨by unfold sp_say; rw [if_pos c_1, if_pos (by omega)], by unfold ns_say; rw [if_pos c_1, if_pos (by omega)]; exact hR, FrM.rf⟩ dX5_say_25
  · rw [show (if inB x 33 126 then (1 : Int32) else 0) = 0 from if_neg c_1]
    refine lv_if_ne (tgt := 14) X.x X.b dX5_say_8 (by decide) (fun h9 => absurd (show _ by decide) h9) (fun _ => ?_)
    refine lv_bipush (v := (-2)) X.x X.b dX5_say_11 (by decide) ?_
    exact f_iret X hh ⟨(if_neg c_1).symm, by unfold ns_say; rw [if_neg c_1]; exact hR, FrM.rf⟩ dX5_say_13
set_option maxHeartbeats 4000000 in
set_option maxRecDepth 100000 in
theorem c5_wipe (l : Launch) (G : GG) {σ : Mem} {a : AS} (hA : AOK a) (hR : RM σ a) : Ci l G yX5_wipe cX5_wipe 2 (some .int) 0 0 [.ref (gad G 134)] σ (fun r τ => r = nI (apn a) ∧ RM τ (ns_wipe a) ∧ FrM σ τ) := by
  refine Ci.of (own := RX5) (by decide) rfl (Nat.le_of_ble_eq_true rfl) (fun p e s m args below meth c ls H locs X hl hh => ?_)
  have hl : lv_has ls 2 [(0, .ref (gad G 134))] := hl
  refine lv_aload_n X.x X.b dX5_wipe_0 rfl (lv_at hl 0 rfl) ?_
  refine f_geti X hh (x := nI (apn a)) (sh_134 G _) (by decide) rfl in_X5 4 (by decide) kf_X5_54 rfl hR.1.1 dX5_wipe_1 ?_
  refine lv_istore_n (lv' := [(1, .int (nI (apn a))), (0, .ref (gad G 134))]) X.x X.b dX5_wipe_4 rfl hl (by decide) rfl (fun ls hl => ?_)
  refine lv_aload_n X.x X.b dX5_wipe_5 rfl (lv_at hl 1 rfl) ?_
  refine lv_iconst (v := nI 0) X.x X.b dX5_wipe_6 (by decide) ?_
  refine f_put X hh (x := nI 0) (sh_134 G _) (by decide) rfl in_X5 4 (sh_134 G _) tyX5 tyX5_ok nmX5 (by decide) kf_X5_54 rfl (by decide +kernel) (Nat.le_of_ble_eq_true rfl) dX5_wipe_7 (fun H locs hh => ?_)
  refine lv_iload_n X.x X.b dX5_wipe_10 rfl (lv_at hl 0 rfl) ?_
  exact f_iret X hh ⟨rfl, hR.wip, fun k9 h9 => mset_n (by omega)⟩ dX5_wipe_11
set_option maxHeartbeats 4000000 in
set_option maxRecDepth 100000 in
theorem c5_isFigure (l : Launch) (G : GG) {σ : Mem} {a : AS} {i u v : Nat} (hA : AOK a) (hR : RM σ a) (hi : i < apn a) (hu : u ≤ 9) (hv : v ≤ 9) : Ci l G yX5_isFigure cX5_isFigure 4 (some .boolean) 1 22 [.ref (gad G 134), .int (nI i), .int (nI u), .int (nI v)] σ (fun r τ => r = (if 48 + u ≤ apg a i ∧ apg a i ≤ 48 + v then 1 else 0) ∧ τ = σ) := by
  refine Ci.of (own := RX5) (by decide) rfl (Nat.le_of_ble_eq_true rfl) (fun p e s m args below meth c ls H locs X hl hh => ?_)
  have hn := hA.1
  have hg := hA.2.1 i hi
  have hl : lv_has ls 4 [(0, .ref (gad G 134)), (1, .int (nI i)), (2, .int (nI u)), (3, .int (nI v))] := hl
  refine lv_aload_n X.x X.b dX5_isFigure_0 rfl (lv_at hl 0 rfl) ?_
  refine f_get X hh (v := .ref (gad G 138)) (sh_134 G _) (by decide) rfl in_X5 3 (by decide) kf_X5_20 rfl dX5_isFigure_1 ?_
  refine lv_iload_n X.x X.b dX5_isFigure_4 rfl (lv_at hl 1 rfl) ?_
  refine f_ialdx X hh (j := i) (y := nI (apg a i)) (sh_138 G _) (by decide) rfl (by omega) (by decide) (hR.1.2 _ (by omega)) dX5_isFigure_5 ?_
  refine lv_bipush (v := nI 48) X.x X.b dX5_isFigure_6 (by decide) ?_
  refine lv_iload_n X.x X.b dX5_isFigure_8 rfl (lv_at hl 2 rfl) ?_
  refine f_iadd X (z := nI (48 + u)) (nI_add 48 u) dX5_isFigure_9 ?_
  refine lv_bipush (v := nI 48) X.x X.b dX5_isFigure_10 (by decide) ?_
  refine lv_iload_n X.x X.b dX5_isFigure_12 rfl (lv_at hl 3 rfl) ?_
  refine f_iadd X (z := nI (48 + v)) (nI_add 48 v) dX5_isFigure_13 ?_
  refine f_scalli X hh (c5_inN l G (apg a i) (48 + u) (48 + v) (by omega) (by omega) (by omega)) mf_yX5_in ks_yX5_in km_X5_50 rfl hl.1 [] rfl (Nat.le_of_ble_eq_true rfl) ⟨by decide, by decide⟩ ⟨Nat.zero_le _, Nat.zero_le _⟩ dX5_isFigure_14 (fun r τ H locs hq hh => ?_)
  obtain ⟨rfl, hτ⟩ := hq
  rw [hτ] at hh
  clear hτ
  exact f_zret X hh (by split <;> rfl) ⟨rfl, rfl⟩ dX5_isFigure_17
set_option maxHeartbeats 4000000 in
set_option maxRecDepth 100000 in
theorem c5_lineFault (l : Launch) (G : GG) {σ : Mem} {a : AS} (hA : AOK a) (hR : RM σ a) : Ci l G yX5_lineFault cX5_lineFault 5 (some .int) 2 45 [.ref (gad G 134)] σ (fun r τ => r = lans (apg a) (apn a) ∧ τ = σ) := by
  refine Ci.of (own := RX5) (by decide) rfl (Nat.le_of_ble_eq_true rfl) (fun p e s m args below meth c ls H locs X hl hh => ?_)
  have hn := hA.1
  have hg := hA.2.1
  have lp : ∀ (k i : Nat), (∀ j, j < i → okL (apg a) j = true) → apn a - i = k → i ≤ apn a → ∀ (ls : Array Slot) (H : Heap) (locs : List Loc), lv_has ls 5 [(2, .int (nI i)), (1, .int (nI (rdn (apg a) i))), (0, .ref (gad G 134))] → HH G s σ H locs → WI l G p e s m args below meth c 2 45 (fun r τ => r = lans (apg a) (apn a) ∧ τ = σ) H locs (F0 m 4 ls []) := by
    intro km
    induction km using Nat.strongRecOn with
    | ind km ih =>
      intro i ho hk hi ls H locs hl hh
      have hc := rdn_le (apg a) i
      have hg2 := hg i
      have hg3 := hg (i - 1)
      refine lv_iload_n X.x X.b dX5_lineFault_4 rfl (lv_at hl 0 rfl) ?_
      refine lv_aload_n X.x X.b dX5_lineFault_5 rfl (lv_at hl 2 rfl) ?_
      refine f_geti X hh (x := nI (apn a)) (sh_134 G _) (by decide) rfl in_X5 4 (by decide) kf_X5_54 rfl hR.1.1 dX5_lineFault_6 ?_
      refine lv_icmp_ge (tgt := 99) X.x X.b dX5_lineFault_9 (by decide) (fun c_1 => ?_) (fun c_1 => ?_)
      · have c_1 : (apn a) ≤ i := (nI_leI (a := (apn a)) (b := i) (by omega) (by omega)).mp c_1
        refine lv_bipush (v := (-6)) X.x X.b dX5_lineFault_99 (by decide) ?_
        exact f_iret X hh ⟨by unfold lans; rw [ffst_n (fun j hj => ho j (by omega))], rfl⟩ dX5_lineFault_101
      · have c_1 : ¬ (apn a) ≤ i := fun q9 => c_1 ((nI_leI (a := (apn a)) (b := i) (by omega) (by omega)).mpr q9)
        refine lv_aload_n X.x X.b dX5_lineFault_12 rfl (lv_at hl 2 rfl) ?_
        refine f_get X hh (v := .ref (gad G 138)) (sh_134 G _) (by decide) rfl in_X5 3 (by decide) kf_X5_20 rfl dX5_lineFault_13 ?_
        refine lv_iload_n X.x X.b dX5_lineFault_16 rfl (lv_at hl 0 rfl) ?_
        refine f_ialdx X hh (j := i) (y := nI (apg a i)) (sh_138 G _) (by decide) rfl (by omega) (by decide) (hR.1.2 _ (by omega)) dX5_lineFault_17 ?_
        refine lv_bipush (v := nI 45) X.x X.b dX5_lineFault_18 (by decide) ?_
        refine lv_icmp_ne (tgt := 44) X.x X.b dX5_lineFault_20 (by decide) (fun c_2 => ?_) (fun c_2 => ?_)
        · have c_2 : ¬ (apg a i) = 45 := fun q9 => c_2 ((nI_eq (a := (apg a i)) (b := 45) (by omega) (by omega)).mpr q9)
          refine lv_iconst (v := nI 0) X.x X.b dX5_lineFault_44 (by decide) ?_
          refine lv_istore_n (lv' := [(3, .int (nI 0)), (2, .int (nI i)), (1, .int (nI (rdn (apg a) i))), (0, .ref (gad G 134))]) X.x X.b dX5_lineFault_45 rfl hl (by decide) rfl (fun ls hl => ?_)
          refine lv_aload_n X.x X.b dX5_lineFault_46 rfl (lv_at hl 3 rfl) ?_
          refine lv_iload_n X.x X.b dX5_lineFault_47 rfl (lv_at hl 1 rfl) ?_
          refine lv_iconst (v := nI 0) X.x X.b dX5_lineFault_48 (by decide) ?_
          refine lv_iconst (v := nI 2) X.x X.b dX5_lineFault_49 (by decide) ?_
          refine f_calli X hh (c5_isFigure l G (i := i) (u := 0) (v := 2) hA hR (by omega) (by decide) (by decide)) mf_yX5_isFigure ki_yX5_isFigure kl_yX5_isFigure km_X5_58 (sh_134 G _) (by decide) rfl rfl hl.1 [] rfl (Nat.le_of_ble_eq_true rfl) ⟨by decide, by decide⟩ ⟨Nat.zero_le _, Nat.zero_le _⟩ dX5_lineFault_50 (fun r τ H locs hq hh => ?_)
          obtain ⟨rfl, hτ⟩ := hq
          rw [hτ] at hh
          clear hτ
          by_cases c_3 : 48 + 0 ≤ apg a i ∧ apg a i ≤ 48 + 2
          · rw [show (if 48 + 0 ≤ apg a i ∧ apg a i ≤ 48 + 2 then (1 : Int32) else 0) = 1 from if_pos c_3]
            refine lv_if_eq (tgt := 66) X.x X.b dX5_lineFault_53 (by decide) (fun h9 => absurd h9 (by decide)) (fun _ => ?_)
            refine lv_iload_n X.x X.b dX5_lineFault_56 rfl (lv_at hl 2 rfl) ?_
            refine lv_bipush (v := nI 9) X.x X.b dX5_lineFault_57 (by decide) ?_
            refine lv_icmp_ge (tgt := 66) X.x X.b dX5_lineFault_59 (by decide) (fun c_5 => ?_) (fun c_5 => ?_)
            · have c_5 : 9 ≤ (rdn (apg a) i) := (nI_leI (a := 9) (b := (rdn (apg a) i)) (by omega) (by omega)).mp c_5
              refine lv_iconst (v := nI 0) X.x X.b dX5_lineFault_66 (by decide) ?_
              refine lv_istore (lv' := [(4, .int (nI 0)), (3, .int (nI 0)), (2, .int (nI i)), (1, .int (nI (rdn (apg a) i))), (0, .ref (gad G 134))]) X.x X.b dX5_lineFault_67 hl (by decide) rfl (fun ls hl => ?_)
              refine lv_iload_n X.x X.b dX5_lineFault_69 rfl (lv_at hl 1 rfl) ?_
              refine lv_if_ne (tgt := 80) X.x X.b dX5_lineFault_70 (by decide) (fun h9 => absurd (show _ by decide) h9) (fun _ => ?_)
              refine lv_iload X.x X.b dX5_lineFault_73 (lv_at hl 0 rfl) ?_
              refine lv_if_ne (tgt := 80) X.x X.b dX5_lineFault_75 (by decide) (fun h9 => absurd (show _ by decide) h9) (fun _ => ?_)
              refine lv_iload_n X.x X.b dX5_lineFault_78 rfl (lv_at hl 2 rfl) ?_
              exact f_iret X hh ⟨by unfold lans; rw [ffst_s (j := i) (by simp [okL, figL, may]; omega) ho (by omega)], rfl⟩ dX5_lineFault_79
            · have c_5 : ¬ 9 ≤ (rdn (apg a) i) := fun q9 => c_5 ((nI_leI (a := 9) (b := (rdn (apg a) i)) (by omega) (by omega)).mpr q9)
              refine lv_iconst (v := nI 1) X.x X.b dX5_lineFault_62 (by decide) ?_
              refine lv_goto (tgt := 67) X.x X.b dX5_lineFault_63 (by decide) ?_
              refine lv_istore (lv' := [(4, .int (nI 1)), (3, .int (nI 0)), (2, .int (nI i)), (1, .int (nI (rdn (apg a) i))), (0, .ref (gad G 134))]) X.x X.b dX5_lineFault_67 hl (by decide) rfl (fun ls hl => ?_)
              refine lv_iload_n X.x X.b dX5_lineFault_69 rfl (lv_at hl 1 rfl) ?_
              refine lv_if_ne (tgt := 80) X.x X.b dX5_lineFault_70 (by decide) (fun h9 => absurd (show _ by decide) h9) (fun _ => ?_)
              refine lv_iload X.x X.b dX5_lineFault_73 (lv_at hl 0 rfl) ?_
              refine lv_if_ne (tgt := 80) X.x X.b dX5_lineFault_75 (by decide) (fun _ => ?_) (fun h9 => absurd h9 (by decide))
              refine lv_iload_n X.x X.b dX5_lineFault_80 rfl (lv_at hl 3 rfl) ?_
              refine lv_iload X.x X.b dX5_lineFault_81 (lv_at hl 0 rfl) ?_
              refine lv_if_eq (tgt := 90) X.x X.b dX5_lineFault_83 (by decide) (fun h9 => absurd h9 (by decide)) (fun _ => ?_)
              refine lv_iconst (v := nI 1) X.x X.b dX5_lineFault_86 (by decide) ?_
              refine lv_goto (tgt := 91) X.x X.b dX5_lineFault_87 (by decide) ?_
              refine f_iadd X (z := nI (rdn (apg a) i + 1)) (nI_add (rdn (apg a) i) 1) dX5_lineFault_91 ?_
              refine lv_istore_n (lv' := [(1, .int (nI (rdn (apg a) i + 1))), (4, .int (nI 1)), (3, .int (nI 0)), (2, .int (nI i)), (0, .ref (gad G 134))]) X.x X.b dX5_lineFault_92 rfl hl (by decide) rfl (fun ls hl => ?_)
              refine lv_iinc (v := nI (i + 1)) (lv' := [(2, .int (nI (i + 1))), (1, .int (nI (rdn (apg a) i + 1))), (4, .int (nI 1)), (3, .int (nI 0)), (0, .ref (gad G 134))]) X.x X.b dX5_lineFault_93 hl (k := 3) rfl (nI_1 i) (by decide) rfl (fun ls hl => ?_)
              refine lv_goto (tgt := 4) X.x X.b dX5_lineFault_96 (by decide) ?_
              refine ih (apn a - (i + 1)) (by omega) (i + 1) (fun j hj => ?_) rfl (by omega) ls H locs ?_ hh
              · by_cases e9 : j = i
                · subst e9; simp [okL, figL, may]; omega
                · exact ho j (by omega)
              · have e8 : rdn (apg a) (i + 1) = rdn (apg a) i + 1 := by show (if apg a i = 45 then rdn (apg a) i else rdn (apg a) i + 1) = _; split <;> omega
                rw [e8]; exact lv_sub hl [0, 1, 4] rfl
          · rw [show (if 48 + 0 ≤ apg a i ∧ apg a i ≤ 48 + 2 then (1 : Int32) else 0) = 0 from if_neg c_3]
            refine lv_if_eq (tgt := 66) X.x X.b dX5_lineFault_53 (by decide) (fun _ => ?_) (fun h9 => absurd (show _ by decide) h9)
            refine lv_iconst (v := nI 0) X.x X.b dX5_lineFault_66 (by decide) ?_
            refine lv_istore (lv' := [(4, .int (nI 0)), (3, .int (nI 0)), (2, .int (nI i)), (1, .int (nI (rdn (apg a) i))), (0, .ref (gad G 134))]) X.x X.b dX5_lineFault_67 hl (by decide) rfl (fun ls hl => ?_)
            refine lv_iload_n X.x X.b dX5_lineFault_69 rfl (lv_at hl 1 rfl) ?_
            refine lv_if_ne (tgt := 80) X.x X.b dX5_lineFault_70 (by decide) (fun h9 => absurd (show _ by decide) h9) (fun _ => ?_)
            refine lv_iload X.x X.b dX5_lineFault_73 (lv_at hl 0 rfl) ?_
            refine lv_if_ne (tgt := 80) X.x X.b dX5_lineFault_75 (by decide) (fun h9 => absurd (show _ by decide) h9) (fun _ => ?_)
            refine lv_iload_n X.x X.b dX5_lineFault_78 rfl (lv_at hl 2 rfl) ?_
            exact f_iret X hh ⟨by unfold lans; rw [ffst_s (j := i) (by simp [okL, figL, may]; omega) ho (by omega)], rfl⟩ dX5_lineFault_79
        · have c_2 : (apg a i) = 45 := (nI_eq (a := (apg a i)) (b := 45) (by omega) (by omega)).mp c_2
          refine lv_iload_n X.x X.b dX5_lineFault_23 rfl (lv_at hl 0 rfl) ?_
          refine lv_if_le (tgt := 44) X.x X.b dX5_lineFault_24 (by decide) (fun c_14 => ?_) (fun c_14 => ?_)
          · have c_14 : i ≤ 0 := (nI_leI (a := i) (b := 0) (by omega) (by omega)).mp c_14
            refine lv_iconst (v := nI 0) X.x X.b dX5_lineFault_44 (by decide) ?_
            refine lv_istore_n (lv' := [(3, .int (nI 0)), (2, .int (nI i)), (1, .int (nI (rdn (apg a) i))), (0, .ref (gad G 134))]) X.x X.b dX5_lineFault_45 rfl hl (by decide) rfl (fun ls hl => ?_)
            refine lv_aload_n X.x X.b dX5_lineFault_46 rfl (lv_at hl 3 rfl) ?_
            refine lv_iload_n X.x X.b dX5_lineFault_47 rfl (lv_at hl 1 rfl) ?_
            refine lv_iconst (v := nI 0) X.x X.b dX5_lineFault_48 (by decide) ?_
            refine lv_iconst (v := nI 2) X.x X.b dX5_lineFault_49 (by decide) ?_
            refine f_calli X hh (c5_isFigure l G (i := i) (u := 0) (v := 2) hA hR (by omega) (by decide) (by decide)) mf_yX5_isFigure ki_yX5_isFigure kl_yX5_isFigure km_X5_58 (sh_134 G _) (by decide) rfl rfl hl.1 [] rfl (Nat.le_of_ble_eq_true rfl) ⟨by decide, by decide⟩ ⟨Nat.zero_le _, Nat.zero_le _⟩ dX5_lineFault_50 (fun r τ H locs hq hh => ?_)
            obtain ⟨rfl, hτ⟩ := hq
            rw [hτ] at hh
            clear hτ
            by_cases c_15 : 48 + 0 ≤ apg a i ∧ apg a i ≤ 48 + 2
            · rw [show (if 48 + 0 ≤ apg a i ∧ apg a i ≤ 48 + 2 then (1 : Int32) else 0) = 1 from if_pos c_15]
              refine lv_if_eq (tgt := 66) X.x X.b dX5_lineFault_53 (by decide) (fun h9 => absurd h9 (by decide)) (fun _ => ?_)
              refine lv_iload_n X.x X.b dX5_lineFault_56 rfl (lv_at hl 2 rfl) ?_
              refine lv_bipush (v := nI 9) X.x X.b dX5_lineFault_57 (by decide) ?_
              refine lv_icmp_ge (tgt := 66) X.x X.b dX5_lineFault_59 (by decide) (fun c_17 => ?_) (fun c_17 => ?_)
              · have c_17 : 9 ≤ (rdn (apg a) i) := (nI_leI (a := 9) (b := (rdn (apg a) i)) (by omega) (by omega)).mp c_17
                refine lv_iconst (v := nI 0) X.x X.b dX5_lineFault_66 (by decide) ?_
                refine lv_istore (lv' := [(4, .int (nI 0)), (3, .int (nI 0)), (2, .int (nI i)), (1, .int (nI (rdn (apg a) i))), (0, .ref (gad G 134))]) X.x X.b dX5_lineFault_67 hl (by decide) rfl (fun ls hl => ?_)
                refine lv_iload_n X.x X.b dX5_lineFault_69 rfl (lv_at hl 1 rfl) ?_
                refine lv_if_ne (tgt := 80) X.x X.b dX5_lineFault_70 (by decide) (fun h9 => absurd (show _ by decide) h9) (fun _ => ?_)
                refine lv_iload X.x X.b dX5_lineFault_73 (lv_at hl 0 rfl) ?_
                refine lv_if_ne (tgt := 80) X.x X.b dX5_lineFault_75 (by decide) (fun h9 => absurd (show _ by decide) h9) (fun _ => ?_)
                refine lv_iload_n X.x X.b dX5_lineFault_78 rfl (lv_at hl 2 rfl) ?_
                exact f_iret X hh ⟨by unfold lans; rw [ffst_s (j := i) (by simp [okL, figL, may]; omega) ho (by omega)], rfl⟩ dX5_lineFault_79
              · have c_17 : ¬ 9 ≤ (rdn (apg a) i) := fun q9 => c_17 ((nI_leI (a := 9) (b := (rdn (apg a) i)) (by omega) (by omega)).mpr q9)
                refine lv_iconst (v := nI 1) X.x X.b dX5_lineFault_62 (by decide) ?_
                refine lv_goto (tgt := 67) X.x X.b dX5_lineFault_63 (by decide) ?_
                refine lv_istore (lv' := [(4, .int (nI 1)), (3, .int (nI 0)), (2, .int (nI i)), (1, .int (nI (rdn (apg a) i))), (0, .ref (gad G 134))]) X.x X.b dX5_lineFault_67 hl (by decide) rfl (fun ls hl => ?_)
                refine lv_iload_n X.x X.b dX5_lineFault_69 rfl (lv_at hl 1 rfl) ?_
                refine lv_if_ne (tgt := 80) X.x X.b dX5_lineFault_70 (by decide) (fun h9 => absurd (show _ by decide) h9) (fun _ => ?_)
                refine lv_iload X.x X.b dX5_lineFault_73 (lv_at hl 0 rfl) ?_
                refine lv_if_ne (tgt := 80) X.x X.b dX5_lineFault_75 (by decide) (fun _ => ?_) (fun h9 => absurd h9 (by decide))
                refine lv_iload_n X.x X.b dX5_lineFault_80 rfl (lv_at hl 3 rfl) ?_
                refine lv_iload X.x X.b dX5_lineFault_81 (lv_at hl 0 rfl) ?_
                refine lv_if_eq (tgt := 90) X.x X.b dX5_lineFault_83 (by decide) (fun h9 => absurd h9 (by decide)) (fun _ => ?_)
                refine lv_iconst (v := nI 1) X.x X.b dX5_lineFault_86 (by decide) ?_
                refine lv_goto (tgt := 91) X.x X.b dX5_lineFault_87 (by decide) ?_
                refine f_iadd X (z := nI (rdn (apg a) i + 1)) (nI_add (rdn (apg a) i) 1) dX5_lineFault_91 ?_
                refine lv_istore_n (lv' := [(1, .int (nI (rdn (apg a) i + 1))), (4, .int (nI 1)), (3, .int (nI 0)), (2, .int (nI i)), (0, .ref (gad G 134))]) X.x X.b dX5_lineFault_92 rfl hl (by decide) rfl (fun ls hl => ?_)
                refine lv_iinc (v := nI (i + 1)) (lv' := [(2, .int (nI (i + 1))), (1, .int (nI (rdn (apg a) i + 1))), (4, .int (nI 1)), (3, .int (nI 0)), (0, .ref (gad G 134))]) X.x X.b dX5_lineFault_93 hl (k := 3) rfl (nI_1 i) (by decide) rfl (fun ls hl => ?_)
                refine lv_goto (tgt := 4) X.x X.b dX5_lineFault_96 (by decide) ?_
                refine ih (apn a - (i + 1)) (by omega) (i + 1) (fun j hj => ?_) rfl (by omega) ls H locs ?_ hh
                · by_cases e9 : j = i
                  · subst e9; simp [okL, figL, may]; omega
                  · exact ho j (by omega)
                · have e8 : rdn (apg a) (i + 1) = rdn (apg a) i + 1 := by show (if apg a i = 45 then rdn (apg a) i else rdn (apg a) i + 1) = _; split <;> omega
                  rw [e8]; exact lv_sub hl [0, 1, 4] rfl
            · rw [show (if 48 + 0 ≤ apg a i ∧ apg a i ≤ 48 + 2 then (1 : Int32) else 0) = 0 from if_neg c_15]
              refine lv_if_eq (tgt := 66) X.x X.b dX5_lineFault_53 (by decide) (fun _ => ?_) (fun h9 => absurd (show _ by decide) h9)
              refine lv_iconst (v := nI 0) X.x X.b dX5_lineFault_66 (by decide) ?_
              refine lv_istore (lv' := [(4, .int (nI 0)), (3, .int (nI 0)), (2, .int (nI i)), (1, .int (nI (rdn (apg a) i))), (0, .ref (gad G 134))]) X.x X.b dX5_lineFault_67 hl (by decide) rfl (fun ls hl => ?_)
              refine lv_iload_n X.x X.b dX5_lineFault_69 rfl (lv_at hl 1 rfl) ?_
              refine lv_if_ne (tgt := 80) X.x X.b dX5_lineFault_70 (by decide) (fun h9 => absurd (show _ by decide) h9) (fun _ => ?_)
              refine lv_iload X.x X.b dX5_lineFault_73 (lv_at hl 0 rfl) ?_
              refine lv_if_ne (tgt := 80) X.x X.b dX5_lineFault_75 (by decide) (fun h9 => absurd (show _ by decide) h9) (fun _ => ?_)
              refine lv_iload_n X.x X.b dX5_lineFault_78 rfl (lv_at hl 2 rfl) ?_
              exact f_iret X hh ⟨by unfold lans; rw [ffst_s (j := i) (by simp [okL, figL, may]; omega) ho (by omega)], rfl⟩ dX5_lineFault_79
          · have c_14 : ¬ i ≤ 0 := fun q9 => c_14 ((nI_leI (a := i) (b := 0) (by omega) (by omega)).mpr q9)
            refine lv_aload_n X.x X.b dX5_lineFault_27 rfl (lv_at hl 2 rfl) ?_
            refine f_get X hh (v := .ref (gad G 138)) (sh_134 G _) (by decide) rfl in_X5 3 (by decide) kf_X5_20 rfl dX5_lineFault_28 ?_
            refine lv_iload_n X.x X.b dX5_lineFault_31 rfl (lv_at hl 0 rfl) ?_
            refine lv_iconst (v := nI 1) X.x X.b dX5_lineFault_32 (by decide) ?_
            refine f_isub X (z := nI (i - 1)) (pk_sub (a := i) (b := 1) (by omega)) dX5_lineFault_33 ?_
            refine f_ialdx X hh (j := i - 1) (y := nI (apg a (i - 1))) (sh_138 G _) (by decide) rfl (by omega) (by decide) (hR.1.2 _ (by omega)) dX5_lineFault_34 ?_
            refine lv_bipush (v := nI 45) X.x X.b dX5_lineFault_35 (by decide) ?_
            refine lv_icmp_eq (tgt := 44) X.x X.b dX5_lineFault_37 (by decide) (fun c_26 => ?_) (fun c_26 => ?_)
            · have c_26 : (apg a (i - 1)) = 45 := (nI_eq (a := (apg a (i - 1))) (b := 45) (by omega) (by omega)).mp c_26
              refine lv_iconst (v := nI 0) X.x X.b dX5_lineFault_44 (by decide) ?_
              refine lv_istore_n (lv' := [(3, .int (nI 0)), (2, .int (nI i)), (1, .int (nI (rdn (apg a) i))), (0, .ref (gad G 134))]) X.x X.b dX5_lineFault_45 rfl hl (by decide) rfl (fun ls hl => ?_)
              refine lv_aload_n X.x X.b dX5_lineFault_46 rfl (lv_at hl 3 rfl) ?_
              refine lv_iload_n X.x X.b dX5_lineFault_47 rfl (lv_at hl 1 rfl) ?_
              refine lv_iconst (v := nI 0) X.x X.b dX5_lineFault_48 (by decide) ?_
              refine lv_iconst (v := nI 2) X.x X.b dX5_lineFault_49 (by decide) ?_
              refine f_calli X hh (c5_isFigure l G (i := i) (u := 0) (v := 2) hA hR (by omega) (by decide) (by decide)) mf_yX5_isFigure ki_yX5_isFigure kl_yX5_isFigure km_X5_58 (sh_134 G _) (by decide) rfl rfl hl.1 [] rfl (Nat.le_of_ble_eq_true rfl) ⟨by decide, by decide⟩ ⟨Nat.zero_le _, Nat.zero_le _⟩ dX5_lineFault_50 (fun r τ H locs hq hh => ?_)
              obtain ⟨rfl, hτ⟩ := hq
              rw [hτ] at hh
              clear hτ
              by_cases c_27 : 48 + 0 ≤ apg a i ∧ apg a i ≤ 48 + 2
              · rw [show (if 48 + 0 ≤ apg a i ∧ apg a i ≤ 48 + 2 then (1 : Int32) else 0) = 1 from if_pos c_27]
                refine lv_if_eq (tgt := 66) X.x X.b dX5_lineFault_53 (by decide) (fun h9 => absurd h9 (by decide)) (fun _ => ?_)
                refine lv_iload_n X.x X.b dX5_lineFault_56 rfl (lv_at hl 2 rfl) ?_
                refine lv_bipush (v := nI 9) X.x X.b dX5_lineFault_57 (by decide) ?_
                refine lv_icmp_ge (tgt := 66) X.x X.b dX5_lineFault_59 (by decide) (fun c_29 => ?_) (fun c_29 => ?_)
                · have c_29 : 9 ≤ (rdn (apg a) i) := (nI_leI (a := 9) (b := (rdn (apg a) i)) (by omega) (by omega)).mp c_29
                  refine lv_iconst (v := nI 0) X.x X.b dX5_lineFault_66 (by decide) ?_
                  refine lv_istore (lv' := [(4, .int (nI 0)), (3, .int (nI 0)), (2, .int (nI i)), (1, .int (nI (rdn (apg a) i))), (0, .ref (gad G 134))]) X.x X.b dX5_lineFault_67 hl (by decide) rfl (fun ls hl => ?_)
                  refine lv_iload_n X.x X.b dX5_lineFault_69 rfl (lv_at hl 1 rfl) ?_
                  refine lv_if_ne (tgt := 80) X.x X.b dX5_lineFault_70 (by decide) (fun h9 => absurd (show _ by decide) h9) (fun _ => ?_)
                  refine lv_iload X.x X.b dX5_lineFault_73 (lv_at hl 0 rfl) ?_
                  refine lv_if_ne (tgt := 80) X.x X.b dX5_lineFault_75 (by decide) (fun h9 => absurd (show _ by decide) h9) (fun _ => ?_)
                  refine lv_iload_n X.x X.b dX5_lineFault_78 rfl (lv_at hl 2 rfl) ?_
                  exact f_iret X hh ⟨by unfold lans; rw [ffst_s (j := i) (by simp [okL, figL, may]; omega) ho (by omega)], rfl⟩ dX5_lineFault_79
                · have c_29 : ¬ 9 ≤ (rdn (apg a) i) := fun q9 => c_29 ((nI_leI (a := 9) (b := (rdn (apg a) i)) (by omega) (by omega)).mpr q9)
                  refine lv_iconst (v := nI 1) X.x X.b dX5_lineFault_62 (by decide) ?_
                  refine lv_goto (tgt := 67) X.x X.b dX5_lineFault_63 (by decide) ?_
                  refine lv_istore (lv' := [(4, .int (nI 1)), (3, .int (nI 0)), (2, .int (nI i)), (1, .int (nI (rdn (apg a) i))), (0, .ref (gad G 134))]) X.x X.b dX5_lineFault_67 hl (by decide) rfl (fun ls hl => ?_)
                  refine lv_iload_n X.x X.b dX5_lineFault_69 rfl (lv_at hl 1 rfl) ?_
                  refine lv_if_ne (tgt := 80) X.x X.b dX5_lineFault_70 (by decide) (fun h9 => absurd (show _ by decide) h9) (fun _ => ?_)
                  refine lv_iload X.x X.b dX5_lineFault_73 (lv_at hl 0 rfl) ?_
                  refine lv_if_ne (tgt := 80) X.x X.b dX5_lineFault_75 (by decide) (fun _ => ?_) (fun h9 => absurd h9 (by decide))
                  refine lv_iload_n X.x X.b dX5_lineFault_80 rfl (lv_at hl 3 rfl) ?_
                  refine lv_iload X.x X.b dX5_lineFault_81 (lv_at hl 0 rfl) ?_
                  refine lv_if_eq (tgt := 90) X.x X.b dX5_lineFault_83 (by decide) (fun h9 => absurd h9 (by decide)) (fun _ => ?_)
                  refine lv_iconst (v := nI 1) X.x X.b dX5_lineFault_86 (by decide) ?_
                  refine lv_goto (tgt := 91) X.x X.b dX5_lineFault_87 (by decide) ?_
                  refine f_iadd X (z := nI (rdn (apg a) i + 1)) (nI_add (rdn (apg a) i) 1) dX5_lineFault_91 ?_
                  refine lv_istore_n (lv' := [(1, .int (nI (rdn (apg a) i + 1))), (4, .int (nI 1)), (3, .int (nI 0)), (2, .int (nI i)), (0, .ref (gad G 134))]) X.x X.b dX5_lineFault_92 rfl hl (by decide) rfl (fun ls hl => ?_)
                  refine lv_iinc (v := nI (i + 1)) (lv' := [(2, .int (nI (i + 1))), (1, .int (nI (rdn (apg a) i + 1))), (4, .int (nI 1)), (3, .int (nI 0)), (0, .ref (gad G 134))]) X.x X.b dX5_lineFault_93 hl (k := 3) rfl (nI_1 i) (by decide) rfl (fun ls hl => ?_)
                  refine lv_goto (tgt := 4) X.x X.b dX5_lineFault_96 (by decide) ?_
                  refine ih (apn a - (i + 1)) (by omega) (i + 1) (fun j hj => ?_) rfl (by omega) ls H locs ?_ hh
                  · by_cases e9 : j = i
                    · subst e9; simp [okL, figL, may]; omega
                    · exact ho j (by omega)
                  · have e8 : rdn (apg a) (i + 1) = rdn (apg a) i + 1 := by show (if apg a i = 45 then rdn (apg a) i else rdn (apg a) i + 1) = _; split <;> omega
                    rw [e8]; exact lv_sub hl [0, 1, 4] rfl
              · rw [show (if 48 + 0 ≤ apg a i ∧ apg a i ≤ 48 + 2 then (1 : Int32) else 0) = 0 from if_neg c_27]
                refine lv_if_eq (tgt := 66) X.x X.b dX5_lineFault_53 (by decide) (fun _ => ?_) (fun h9 => absurd (show _ by decide) h9)
                refine lv_iconst (v := nI 0) X.x X.b dX5_lineFault_66 (by decide) ?_
                refine lv_istore (lv' := [(4, .int (nI 0)), (3, .int (nI 0)), (2, .int (nI i)), (1, .int (nI (rdn (apg a) i))), (0, .ref (gad G 134))]) X.x X.b dX5_lineFault_67 hl (by decide) rfl (fun ls hl => ?_)
                refine lv_iload_n X.x X.b dX5_lineFault_69 rfl (lv_at hl 1 rfl) ?_
                refine lv_if_ne (tgt := 80) X.x X.b dX5_lineFault_70 (by decide) (fun h9 => absurd (show _ by decide) h9) (fun _ => ?_)
                refine lv_iload X.x X.b dX5_lineFault_73 (lv_at hl 0 rfl) ?_
                refine lv_if_ne (tgt := 80) X.x X.b dX5_lineFault_75 (by decide) (fun h9 => absurd (show _ by decide) h9) (fun _ => ?_)
                refine lv_iload_n X.x X.b dX5_lineFault_78 rfl (lv_at hl 2 rfl) ?_
                exact f_iret X hh ⟨by unfold lans; rw [ffst_s (j := i) (by simp [okL, figL, may]; omega) ho (by omega)], rfl⟩ dX5_lineFault_79
            · have c_26 : ¬ (apg a (i - 1)) = 45 := fun q9 => c_26 ((nI_eq (a := (apg a (i - 1))) (b := 45) (by omega) (by omega)).mpr q9)
              refine lv_iconst (v := nI 1) X.x X.b dX5_lineFault_40 (by decide) ?_
              refine lv_goto (tgt := 45) X.x X.b dX5_lineFault_41 (by decide) ?_
              refine lv_istore_n (lv' := [(3, .int (nI 1)), (2, .int (nI i)), (1, .int (nI (rdn (apg a) i))), (0, .ref (gad G 134))]) X.x X.b dX5_lineFault_45 rfl hl (by decide) rfl (fun ls hl => ?_)
              refine lv_aload_n X.x X.b dX5_lineFault_46 rfl (lv_at hl 3 rfl) ?_
              refine lv_iload_n X.x X.b dX5_lineFault_47 rfl (lv_at hl 1 rfl) ?_
              refine lv_iconst (v := nI 0) X.x X.b dX5_lineFault_48 (by decide) ?_
              refine lv_iconst (v := nI 2) X.x X.b dX5_lineFault_49 (by decide) ?_
              refine f_calli X hh (c5_isFigure l G (i := i) (u := 0) (v := 2) hA hR (by omega) (by decide) (by decide)) mf_yX5_isFigure ki_yX5_isFigure kl_yX5_isFigure km_X5_58 (sh_134 G _) (by decide) rfl rfl hl.1 [] rfl (Nat.le_of_ble_eq_true rfl) ⟨by decide, by decide⟩ ⟨Nat.zero_le _, Nat.zero_le _⟩ dX5_lineFault_50 (fun r τ H locs hq hh => ?_)
              obtain ⟨rfl, hτ⟩ := hq
              rw [hτ] at hh
              clear hτ
              by_cases c_38 : 48 + 0 ≤ apg a i ∧ apg a i ≤ 48 + 2
              · rw [show (if 48 + 0 ≤ apg a i ∧ apg a i ≤ 48 + 2 then (1 : Int32) else 0) = 1 from if_pos c_38]
                refine lv_if_eq (tgt := 66) X.x X.b dX5_lineFault_53 (by decide) (fun h9 => absurd h9 (by decide)) (fun _ => ?_)
                refine lv_iload_n X.x X.b dX5_lineFault_56 rfl (lv_at hl 2 rfl) ?_
                refine lv_bipush (v := nI 9) X.x X.b dX5_lineFault_57 (by decide) ?_
                refine lv_icmp_ge (tgt := 66) X.x X.b dX5_lineFault_59 (by decide) (fun c_40 => ?_) (fun c_40 => ?_)
                · have c_40 : 9 ≤ (rdn (apg a) i) := (nI_leI (a := 9) (b := (rdn (apg a) i)) (by omega) (by omega)).mp c_40
                  refine lv_iconst (v := nI 0) X.x X.b dX5_lineFault_66 (by decide) ?_
                  refine lv_istore (lv' := [(4, .int (nI 0)), (3, .int (nI 1)), (2, .int (nI i)), (1, .int (nI (rdn (apg a) i))), (0, .ref (gad G 134))]) X.x X.b dX5_lineFault_67 hl (by decide) rfl (fun ls hl => ?_)
                  refine lv_iload_n X.x X.b dX5_lineFault_69 rfl (lv_at hl 1 rfl) ?_
                  refine lv_if_ne (tgt := 80) X.x X.b dX5_lineFault_70 (by decide) (fun _ => ?_) (fun h9 => absurd h9 (by decide))
                  refine lv_iload_n X.x X.b dX5_lineFault_80 rfl (lv_at hl 3 rfl) ?_
                  refine lv_iload X.x X.b dX5_lineFault_81 (lv_at hl 0 rfl) ?_
                  refine lv_if_eq (tgt := 90) X.x X.b dX5_lineFault_83 (by decide) (fun _ => ?_) (fun h9 => absurd (show _ by decide) h9)
                  refine lv_iconst (v := nI 0) X.x X.b dX5_lineFault_90 (by decide) ?_
                  refine f_iadd X (z := nI (rdn (apg a) i + 0)) (nI_add (rdn (apg a) i) 0) dX5_lineFault_91 ?_
                  refine lv_istore_n (lv' := [(1, .int (nI (rdn (apg a) i + 0))), (4, .int (nI 0)), (3, .int (nI 1)), (2, .int (nI i)), (0, .ref (gad G 134))]) X.x X.b dX5_lineFault_92 rfl hl (by decide) rfl (fun ls hl => ?_)
                  refine lv_iinc (v := nI (i + 1)) (lv' := [(2, .int (nI (i + 1))), (1, .int (nI (rdn (apg a) i + 0))), (4, .int (nI 0)), (3, .int (nI 1)), (0, .ref (gad G 134))]) X.x X.b dX5_lineFault_93 hl (k := 3) rfl (nI_1 i) (by decide) rfl (fun ls hl => ?_)
                  refine lv_goto (tgt := 4) X.x X.b dX5_lineFault_96 (by decide) ?_
                  refine ih (apn a - (i + 1)) (by omega) (i + 1) (fun j hj => ?_) rfl (by omega) ls H locs ?_ hh
                  · by_cases e9 : j = i
                    · subst e9; simp [okL, figL, may]; omega
                    · exact ho j (by omega)
                  · have e8 : rdn (apg a) (i + 1) = rdn (apg a) i + 0 := by show (if apg a i = 45 then rdn (apg a) i else rdn (apg a) i + 1) = _; split <;> omega
                    rw [e8]; exact lv_sub hl [0, 1, 4] rfl
                · have c_40 : ¬ 9 ≤ (rdn (apg a) i) := fun q9 => c_40 ((nI_leI (a := 9) (b := (rdn (apg a) i)) (by omega) (by omega)).mpr q9)
                  refine lv_iconst (v := nI 1) X.x X.b dX5_lineFault_62 (by decide) ?_
                  refine lv_goto (tgt := 67) X.x X.b dX5_lineFault_63 (by decide) ?_
                  refine lv_istore (lv' := [(4, .int (nI 1)), (3, .int (nI 1)), (2, .int (nI i)), (1, .int (nI (rdn (apg a) i))), (0, .ref (gad G 134))]) X.x X.b dX5_lineFault_67 hl (by decide) rfl (fun ls hl => ?_)
                  refine lv_iload_n X.x X.b dX5_lineFault_69 rfl (lv_at hl 1 rfl) ?_
                  refine lv_if_ne (tgt := 80) X.x X.b dX5_lineFault_70 (by decide) (fun _ => ?_) (fun h9 => absurd h9 (by decide))
                  refine lv_iload_n X.x X.b dX5_lineFault_80 rfl (lv_at hl 3 rfl) ?_
                  refine lv_iload X.x X.b dX5_lineFault_81 (lv_at hl 0 rfl) ?_
                  refine lv_if_eq (tgt := 90) X.x X.b dX5_lineFault_83 (by decide) (fun h9 => absurd h9 (by decide)) (fun _ => ?_)
                  refine lv_iconst (v := nI 1) X.x X.b dX5_lineFault_86 (by decide) ?_
                  refine lv_goto (tgt := 91) X.x X.b dX5_lineFault_87 (by decide) ?_
                  refine f_iadd X (z := nI (rdn (apg a) i + 1)) (nI_add (rdn (apg a) i) 1) dX5_lineFault_91 ?_
                  refine lv_istore_n (lv' := [(1, .int (nI (rdn (apg a) i + 1))), (4, .int (nI 1)), (3, .int (nI 1)), (2, .int (nI i)), (0, .ref (gad G 134))]) X.x X.b dX5_lineFault_92 rfl hl (by decide) rfl (fun ls hl => ?_)
                  refine lv_iinc (v := nI (i + 1)) (lv' := [(2, .int (nI (i + 1))), (1, .int (nI (rdn (apg a) i + 1))), (4, .int (nI 1)), (3, .int (nI 1)), (0, .ref (gad G 134))]) X.x X.b dX5_lineFault_93 hl (k := 3) rfl (nI_1 i) (by decide) rfl (fun ls hl => ?_)
                  refine lv_goto (tgt := 4) X.x X.b dX5_lineFault_96 (by decide) ?_
                  refine ih (apn a - (i + 1)) (by omega) (i + 1) (fun j hj => ?_) rfl (by omega) ls H locs ?_ hh
                  · by_cases e9 : j = i
                    · subst e9; simp [okL, figL, may]; omega
                    · exact ho j (by omega)
                  · have e8 : rdn (apg a) (i + 1) = rdn (apg a) i + 1 := by show (if apg a i = 45 then rdn (apg a) i else rdn (apg a) i + 1) = _; split <;> omega
                    rw [e8]; exact lv_sub hl [0, 1, 4] rfl
              · rw [show (if 48 + 0 ≤ apg a i ∧ apg a i ≤ 48 + 2 then (1 : Int32) else 0) = 0 from if_neg c_38]
                refine lv_if_eq (tgt := 66) X.x X.b dX5_lineFault_53 (by decide) (fun _ => ?_) (fun h9 => absurd (show _ by decide) h9)
                refine lv_iconst (v := nI 0) X.x X.b dX5_lineFault_66 (by decide) ?_
                refine lv_istore (lv' := [(4, .int (nI 0)), (3, .int (nI 1)), (2, .int (nI i)), (1, .int (nI (rdn (apg a) i))), (0, .ref (gad G 134))]) X.x X.b dX5_lineFault_67 hl (by decide) rfl (fun ls hl => ?_)
                refine lv_iload_n X.x X.b dX5_lineFault_69 rfl (lv_at hl 1 rfl) ?_
                refine lv_if_ne (tgt := 80) X.x X.b dX5_lineFault_70 (by decide) (fun _ => ?_) (fun h9 => absurd h9 (by decide))
                refine lv_iload_n X.x X.b dX5_lineFault_80 rfl (lv_at hl 3 rfl) ?_
                refine lv_iload X.x X.b dX5_lineFault_81 (lv_at hl 0 rfl) ?_
                refine lv_if_eq (tgt := 90) X.x X.b dX5_lineFault_83 (by decide) (fun _ => ?_) (fun h9 => absurd (show _ by decide) h9)
                refine lv_iconst (v := nI 0) X.x X.b dX5_lineFault_90 (by decide) ?_
                refine f_iadd X (z := nI (rdn (apg a) i + 0)) (nI_add (rdn (apg a) i) 0) dX5_lineFault_91 ?_
                refine lv_istore_n (lv' := [(1, .int (nI (rdn (apg a) i + 0))), (4, .int (nI 0)), (3, .int (nI 1)), (2, .int (nI i)), (0, .ref (gad G 134))]) X.x X.b dX5_lineFault_92 rfl hl (by decide) rfl (fun ls hl => ?_)
                refine lv_iinc (v := nI (i + 1)) (lv' := [(2, .int (nI (i + 1))), (1, .int (nI (rdn (apg a) i + 0))), (4, .int (nI 0)), (3, .int (nI 1)), (0, .ref (gad G 134))]) X.x X.b dX5_lineFault_93 hl (k := 3) rfl (nI_1 i) (by decide) rfl (fun ls hl => ?_)
                refine lv_goto (tgt := 4) X.x X.b dX5_lineFault_96 (by decide) ?_
                refine ih (apn a - (i + 1)) (by omega) (i + 1) (fun j hj => ?_) rfl (by omega) ls H locs ?_ hh
                · by_cases e9 : j = i
                  · subst e9; simp [okL, figL, may]; omega
                  · exact ho j (by omega)
                · have e8 : rdn (apg a) (i + 1) = rdn (apg a) i + 0 := by show (if apg a i = 45 then rdn (apg a) i else rdn (apg a) i + 1) = _; split <;> omega
                  rw [e8]; exact lv_sub hl [0, 1, 4] rfl
  have hl : lv_has ls 5 [(0, .ref (gad G 134))] := hl
  refine lv_iconst (v := nI 0) X.x X.b dX5_lineFault_0 (by decide) ?_
  refine lv_istore_n (lv' := [(1, .int (nI 0)), (0, .ref (gad G 134))]) X.x X.b dX5_lineFault_1 rfl hl (by decide) rfl (fun ls hl => ?_)
  refine lv_iconst (v := nI 0) X.x X.b dX5_lineFault_2 (by decide) ?_
  refine lv_istore_n (lv' := [(2, .int (nI 0)), (1, .int (nI 0)), (0, .ref (gad G 134))]) X.x X.b dX5_lineFault_3 rfl hl (by decide) rfl (fun ls hl => ?_)
  exact lp (apn a) 0 (fun j hj => absurd hj (Nat.not_lt_zero _)) rfl (by omega) ls H locs (lv_sub hl [0, 1, 2] rfl) hh
set_option maxHeartbeats 4000000 in
set_option maxRecDepth 100000 in
theorem c5_tuneFault (l : Launch) (G : GG) {σ : Mem} {a : AS} (hA : AOK a) (hR : RM σ a) : Ci l G yX5_tuneFault cX5_tuneFault 3 (some .int) 2 45 [.ref (gad G 134)] σ (fun r τ => r = tans (apg a) (apn a) ∧ τ = σ) := by
  refine Ci.of (own := RX5) (by decide) rfl (Nat.le_of_ble_eq_true rfl) (fun p e s m args below meth c ls H locs X hl hh => ?_)
  have hn := hA.1
  have hg := hA.2.1
  have lp : ∀ (k i : Nat), (∀ j, j < i → okT (apg a) j = true) → apn a - i = k → i ≤ apn a → ∀ (ls : Array Slot) (H : Heap) (locs : List Loc), lv_has ls 3 [(1, .int (nI i)), (0, .ref (gad G 134))] → HH G s σ H locs → WI l G p e s m args below meth c 2 45 (fun r τ => r = tans (apg a) (apn a) ∧ τ = σ) H locs (F0 m 2 ls []) := by
    intro km
    induction km using Nat.strongRecOn with
    | ind km ih =>
      intro i ho hk hi ls H locs hl hh
      have hg2 := hg i
      refine lv_iload_n X.x X.b dX5_tuneFault_2 rfl (lv_at hl 0 rfl) ?_
      refine lv_aload_n X.x X.b dX5_tuneFault_3 rfl (lv_at hl 1 rfl) ?_
      refine f_geti X hh (x := nI (apn a)) (sh_134 G _) (by decide) rfl in_X5 4 (by decide) kf_X5_54 rfl hR.1.1 dX5_tuneFault_4 ?_
      refine lv_icmp_ge (tgt := 60) X.x X.b dX5_tuneFault_7 (by decide) (fun c_1 => ?_) (fun c_1 => ?_)
      · have c_1 : (apn a) ≤ i := (nI_leI (a := (apn a)) (b := i) (by omega) (by omega)).mp c_1
        refine lv_aload_n X.x X.b dX5_tuneFault_60 rfl (lv_at hl 1 rfl) ?_
        refine f_geti X hh (x := nI (apn a)) (sh_134 G _) (by decide) rfl in_X5 4 (by decide) kf_X5_54 rfl hR.1.1 dX5_tuneFault_61 ?_
        refine lv_iconst (v := nI 2) X.x X.b dX5_tuneFault_64 (by decide) ?_
        refine f_irem X (z := nI ((apn a) % 2)) (by decide) (pk_rem (a := apn a) (d := 2) (by omega) (by decide) (by decide)) dX5_tuneFault_65 ?_
        refine lv_if_ne (tgt := 74) X.x X.b dX5_tuneFault_66 (by decide) (fun c_2 => ?_) (fun c_2 => ?_)
        · have c_2 : ¬ ((apn a) % 2) = 0 := fun q9 => c_2 ((nI_eq (a := ((apn a) % 2)) (b := 0) (by omega) (by omega)).mpr q9)
          refine lv_aload_n X.x X.b dX5_tuneFault_74 rfl (lv_at hl 1 rfl) ?_
          refine f_geti X hh (x := nI (apn a)) (sh_134 G _) (by decide) rfl in_X5 4 (by decide) kf_X5_54 rfl hR.1.1 dX5_tuneFault_75 ?_
          exact f_iret X hh ⟨by unfold tans; rw [ffst_n (fun j hj => ho j (by omega))]; exact (if_neg (by omega)).symm, rfl⟩ dX5_tuneFault_78
        · have c_2 : ((apn a) % 2) = 0 := (nI_eq (a := ((apn a) % 2)) (b := 0) (by omega) (by omega)).mp c_2
          refine lv_bipush (v := (-6)) X.x X.b dX5_tuneFault_69 (by decide) ?_
          refine lv_goto (tgt := 78) X.x X.b dX5_tuneFault_71 (by decide) ?_
          exact f_iret X hh ⟨by unfold tans; rw [ffst_n (fun j hj => ho j (by omega))]; exact (if_pos (by omega)).symm, rfl⟩ dX5_tuneFault_78
      · have c_1 : ¬ (apn a) ≤ i := fun q9 => c_1 ((nI_leI (a := (apn a)) (b := i) (by omega) (by omega)).mpr q9)
        refine lv_iload_n X.x X.b dX5_tuneFault_10 rfl (lv_at hl 0 rfl) ?_
        refine lv_iconst (v := nI 2) X.x X.b dX5_tuneFault_11 (by decide) ?_
        refine f_irem X (z := nI (i % 2)) (by decide) (pk_rem (a := i) (d := 2) (by omega) (by decide) (by decide)) dX5_tuneFault_12 ?_
        refine lv_if_ne (tgt := 40) X.x X.b dX5_tuneFault_13 (by decide) (fun c_3 => ?_) (fun c_3 => ?_)
        · have c_3 : ¬ (i % 2) = 0 := fun q9 => c_3 ((nI_eq (a := (i % 2)) (b := 0) (by omega) (by omega)).mpr q9)
          refine lv_aload_n X.x X.b dX5_tuneFault_40 rfl (lv_at hl 1 rfl) ?_
          refine lv_iload_n X.x X.b dX5_tuneFault_41 rfl (lv_at hl 0 rfl) ?_
          refine lv_iconst (v := nI 1) X.x X.b dX5_tuneFault_42 (by decide) ?_
          refine lv_iconst (v := nI 4) X.x X.b dX5_tuneFault_43 (by decide) ?_
          refine f_calli X hh (c5_isFigure l G (i := i) (u := 1) (v := 4) hA hR (by omega) (by decide) (by decide)) mf_yX5_isFigure ki_yX5_isFigure kl_yX5_isFigure km_X5_58 (sh_134 G _) (by decide) rfl rfl hl.1 [] rfl (Nat.le_of_ble_eq_true rfl) ⟨by decide, by decide⟩ ⟨Nat.zero_le _, Nat.zero_le _⟩ dX5_tuneFault_44 (fun r τ H locs hq hh => ?_)
          obtain ⟨rfl, hτ⟩ := hq
          rw [hτ] at hh
          clear hτ
          by_cases c_4 : 48 + 1 ≤ apg a i ∧ apg a i ≤ 48 + 4
          · rw [show (if 48 + 1 ≤ apg a i ∧ apg a i ≤ 48 + 4 then (1 : Int32) else 0) = 1 from if_pos c_4]
            refine lv_istore_n (lv' := [(2, .int 1), (1, .int (nI i)), (0, .ref (gad G 134))]) X.x X.b dX5_tuneFault_47 rfl hl (by decide) rfl (fun ls hl => ?_)
            refine lv_iload_n X.x X.b dX5_tuneFault_48 rfl (lv_at hl 0 rfl) ?_
            refine lv_if_ne (tgt := 54) X.x X.b dX5_tuneFault_49 (by decide) (fun _ => ?_) (fun h9 => absurd h9 (by decide))
            refine lv_iinc (v := nI (i + 1)) (lv' := [(1, .int (nI (i + 1))), (2, .int 1), (0, .ref (gad G 134))]) X.x X.b dX5_tuneFault_54 hl (k := 1) rfl (nI_1 i) (by decide) rfl (fun ls hl => ?_)
            refine lv_goto (tgt := 2) X.x X.b dX5_tuneFault_57 (by decide) ?_
            refine ih (apn a - (i + 1)) (by omega) (i + 1) (fun j hj => ?_) rfl (by omega) ls H locs (lv_sub hl [0, 2] rfl) hh
            by_cases e9 : j = i
            · subst e9; unfold okT; split <;> simp <;> omega
            · exact ho j (by omega)
          · rw [show (if 48 + 1 ≤ apg a i ∧ apg a i ≤ 48 + 4 then (1 : Int32) else 0) = 0 from if_neg c_4]
            refine lv_istore_n (lv' := [(2, .int 0), (1, .int (nI i)), (0, .ref (gad G 134))]) X.x X.b dX5_tuneFault_47 rfl hl (by decide) rfl (fun ls hl => ?_)
            refine lv_iload_n X.x X.b dX5_tuneFault_48 rfl (lv_at hl 0 rfl) ?_
            refine lv_if_ne (tgt := 54) X.x X.b dX5_tuneFault_49 (by decide) (fun h9 => absurd (show _ by decide) h9) (fun _ => ?_)
            refine lv_iload_n X.x X.b dX5_tuneFault_52 rfl (lv_at hl 1 rfl) ?_
            exact f_iret X hh ⟨by unfold tans; rw [ffst_s (j := i) (by unfold okT; split <;> simp <;> omega) ho (by omega)], rfl⟩ dX5_tuneFault_53
        · have c_3 : (i % 2) = 0 := (nI_eq (a := (i % 2)) (b := 0) (by omega) (by omega)).mp c_3
          refine lv_aload_n X.x X.b dX5_tuneFault_16 rfl (lv_at hl 1 rfl) ?_
          refine lv_iload_n X.x X.b dX5_tuneFault_17 rfl (lv_at hl 0 rfl) ?_
          refine lv_iconst (v := nI 0) X.x X.b dX5_tuneFault_18 (by decide) ?_
          refine lv_iconst (v := nI 2) X.x X.b dX5_tuneFault_19 (by decide) ?_
          refine f_calli X hh (c5_isFigure l G (i := i) (u := 0) (v := 2) hA hR (by omega) (by decide) (by decide)) mf_yX5_isFigure ki_yX5_isFigure kl_yX5_isFigure km_X5_58 (sh_134 G _) (by decide) rfl rfl hl.1 [] rfl (Nat.le_of_ble_eq_true rfl) ⟨by decide, by decide⟩ ⟨Nat.zero_le _, Nat.zero_le _⟩ dX5_tuneFault_20 (fun r τ H locs hq hh => ?_)
          obtain ⟨rfl, hτ⟩ := hq
          rw [hτ] at hh
          clear hτ
          by_cases c_7 : 48 + 0 ≤ apg a i ∧ apg a i ≤ 48 + 2
          · rw [show (if 48 + 0 ≤ apg a i ∧ apg a i ≤ 48 + 2 then (1 : Int32) else 0) = 1 from if_pos c_7]
            refine lv_if_eq (tgt := 36) X.x X.b dX5_tuneFault_23 (by decide) (fun h9 => absurd h9 (by decide)) (fun _ => ?_)
            refine lv_iload_n X.x X.b dX5_tuneFault_26 rfl (lv_at hl 0 rfl) ?_
            refine lv_bipush (v := nI 22) X.x X.b dX5_tuneFault_27 (by decide) ?_
            refine lv_icmp_ge (tgt := 36) X.x X.b dX5_tuneFault_29 (by decide) (fun c_9 => ?_) (fun c_9 => ?_)
            · have c_9 : 22 ≤ i := (nI_leI (a := 22) (b := i) (by omega) (by omega)).mp c_9
              refine lv_iconst (v := nI 0) X.x X.b dX5_tuneFault_36 (by decide) ?_
              refine lv_goto (tgt := 47) X.x X.b dX5_tuneFault_37 (by decide) ?_
              refine lv_istore_n (lv' := [(2, .int (nI 0)), (1, .int (nI i)), (0, .ref (gad G 134))]) X.x X.b dX5_tuneFault_47 rfl hl (by decide) rfl (fun ls hl => ?_)
              refine lv_iload_n X.x X.b dX5_tuneFault_48 rfl (lv_at hl 0 rfl) ?_
              refine lv_if_ne (tgt := 54) X.x X.b dX5_tuneFault_49 (by decide) (fun h9 => absurd (show _ by decide) h9) (fun _ => ?_)
              refine lv_iload_n X.x X.b dX5_tuneFault_52 rfl (lv_at hl 1 rfl) ?_
              exact f_iret X hh ⟨by unfold tans; rw [ffst_s (j := i) (by unfold okT; split <;> simp <;> omega) ho (by omega)], rfl⟩ dX5_tuneFault_53
            · have c_9 : ¬ 22 ≤ i := fun q9 => c_9 ((nI_leI (a := 22) (b := i) (by omega) (by omega)).mpr q9)
              refine lv_iconst (v := nI 1) X.x X.b dX5_tuneFault_32 (by decide) ?_
              refine lv_goto (tgt := 47) X.x X.b dX5_tuneFault_33 (by decide) ?_
              refine lv_istore_n (lv' := [(2, .int (nI 1)), (1, .int (nI i)), (0, .ref (gad G 134))]) X.x X.b dX5_tuneFault_47 rfl hl (by decide) rfl (fun ls hl => ?_)
              refine lv_iload_n X.x X.b dX5_tuneFault_48 rfl (lv_at hl 0 rfl) ?_
              refine lv_if_ne (tgt := 54) X.x X.b dX5_tuneFault_49 (by decide) (fun _ => ?_) (fun h9 => absurd h9 (by decide))
              refine lv_iinc (v := nI (i + 1)) (lv' := [(1, .int (nI (i + 1))), (2, .int (nI 1)), (0, .ref (gad G 134))]) X.x X.b dX5_tuneFault_54 hl (k := 1) rfl (nI_1 i) (by decide) rfl (fun ls hl => ?_)
              refine lv_goto (tgt := 2) X.x X.b dX5_tuneFault_57 (by decide) ?_
              refine ih (apn a - (i + 1)) (by omega) (i + 1) (fun j hj => ?_) rfl (by omega) ls H locs (lv_sub hl [0, 2] rfl) hh
              by_cases e9 : j = i
              · subst e9; unfold okT; split <;> simp <;> omega
              · exact ho j (by omega)
          · rw [show (if 48 + 0 ≤ apg a i ∧ apg a i ≤ 48 + 2 then (1 : Int32) else 0) = 0 from if_neg c_7]
            refine lv_if_eq (tgt := 36) X.x X.b dX5_tuneFault_23 (by decide) (fun _ => ?_) (fun h9 => absurd (show _ by decide) h9)
            refine lv_iconst (v := nI 0) X.x X.b dX5_tuneFault_36 (by decide) ?_
            refine lv_goto (tgt := 47) X.x X.b dX5_tuneFault_37 (by decide) ?_
            refine lv_istore_n (lv' := [(2, .int (nI 0)), (1, .int (nI i)), (0, .ref (gad G 134))]) X.x X.b dX5_tuneFault_47 rfl hl (by decide) rfl (fun ls hl => ?_)
            refine lv_iload_n X.x X.b dX5_tuneFault_48 rfl (lv_at hl 0 rfl) ?_
            refine lv_if_ne (tgt := 54) X.x X.b dX5_tuneFault_49 (by decide) (fun h9 => absurd (show _ by decide) h9) (fun _ => ?_)
            refine lv_iload_n X.x X.b dX5_tuneFault_52 rfl (lv_at hl 1 rfl) ?_
            exact f_iret X hh ⟨by unfold tans; rw [ffst_s (j := i) (by unfold okT; split <;> simp <;> omega) ho (by omega)], rfl⟩ dX5_tuneFault_53
  have hl : lv_has ls 3 [(0, .ref (gad G 134))] := hl
  refine lv_iconst (v := nI 0) X.x X.b dX5_tuneFault_0 (by decide) ?_
  refine lv_istore_n (lv' := [(1, .int (nI 0)), (0, .ref (gad G 134))]) X.x X.b dX5_tuneFault_1 rfl hl (by decide) rfl (fun ls hl => ?_)
  exact lp (apn a) 0 (fun j hj => absurd hj (Nat.not_lt_zero _)) rfl (by omega) ls H locs (lv_sub hl [0, 1] rfl) hh
set_option maxHeartbeats 4000000 in
set_option maxRecDepth 100000 in
theorem c5_fault (l : Launch) (G : GG) {σ : Mem} {a : AS} (x : Int32) (hA : AOK a) (hR : RM σ a) : Ci l G yX5_fault cX5_fault 2 (some .int) 3 69 [.ref (gad G 134), .int x] σ (fun r τ => r = sp_fault x a ∧ RM τ a ∧ FrM σ τ) := by
  refine Ci.of (own := RX5) (by decide) rfl (Nat.le_of_ble_eq_true rfl) (fun p e s m args below meth c ls H locs X hl hh => ?_)
  have hl : lv_has ls 2 [(0, .ref (gad G 134)), (1, .int x)] := hl
  refine lv_iload_n X.x X.b dX5_fault_0 rfl (lv_at hl 1 rfl) ?_
  refine lv_if_ne (tgt := 11) X.x X.b dX5_fault_1 (by decide) (fun c_1 => ?_) (fun c_1 => ?_)
  · refine lv_iload_n X.x X.b dX5_fault_11 rfl (lv_at hl 1 rfl) ?_
    refine lv_iconst (v := nI 1) X.x X.b dX5_fault_12 (by decide) ?_
    refine lv_icmp_ne (tgt := 23) X.x X.b dX5_fault_13 (by decide) (fun c_2 => ?_) (fun c_2 => ?_)
    · refine lv_bipush (v := (-2)) X.x X.b dX5_fault_23 (by decide) ?_
      exact f_iret X hh ⟨by unfold sp_fault; rw [if_neg (fun q9 => by obtain ⟨k, h1, h2, rfl⟩ := inB_of q9 (by decide); rcases (show k = 0 ∨ k = 1 by omega) with rfl | rfl; exact c_1 rfl; exact c_2 rfl)], hR, FrM.rf⟩ dX5_fault_25
    · refine lv_aload_n X.x X.b dX5_fault_16 rfl (lv_at hl 0 rfl) ?_
      refine f_calli X hh (c5_tuneFault l G hA hR) mf_yX5_tuneFault ki_yX5_tuneFault kl_yX5_tuneFault km_X5_65 (sh_134 G _) (by decide) rfl rfl hl.1 [] rfl (Nat.le_of_ble_eq_true rfl) ⟨by decide, by decide⟩ ⟨Nat.zero_le _, Nat.zero_le _⟩ dX5_fault_17 (fun r τ H locs hq hh => ?_)
      obtain ⟨rfl, hτ⟩ := hq
      rw [hτ] at hh
      clear hτ
      refine lv_goto (tgt := 25) X.x X.b dX5_fault_20 (by decide) ?_
      exact f_iret X hh ⟨by unfold sp_fault; subst c_2; rw [if_pos (by decide), if_neg c_1], hR, FrM.rf⟩ dX5_fault_25
  · refine lv_aload_n X.x X.b dX5_fault_4 rfl (lv_at hl 0 rfl) ?_
    refine f_calli X hh (c5_lineFault l G hA hR) mf_yX5_lineFault ki_yX5_lineFault kl_yX5_lineFault km_X5_61 (sh_134 G _) (by decide) rfl rfl hl.1 [] rfl (Nat.le_of_ble_eq_true rfl) ⟨by decide, by decide⟩ ⟨Nat.zero_le _, Nat.zero_le _⟩ dX5_fault_5 (fun r τ H locs hq hh => ?_)
    obtain ⟨rfl, hτ⟩ := hq
    rw [hτ] at hh
    clear hτ
    refine lv_goto (tgt := 25) X.x X.b dX5_fault_8 (by decide) ?_
    exact f_iret X hh ⟨by unfold sp_fault; subst c_1; rw [if_pos (by decide), if_pos rfl], hR, FrM.rf⟩ dX5_fault_25
theorem RM.rul {σ : Mem} {a : AS} {k q : Nat} (h : RM σ a) (hB : BBd (aB a)) (hk : k < 4) : RM (mset σ 135 (149 + k) (nI q)) (a.1, (bN (aB a), bW (aB a), bZ (aB a), fun x => if x = k then q else bU (aB a) x), a.2.2) := by
  obtain ⟨⟨h1, h2⟩, ⟨g1, g2, g3, g4, g5, g6, g7⟩, h4, h5⟩ := h
  refine ⟨⟨by rw [mset_n (by decide)]; exact h1, fun i hi => by rw [mset_n (by decide)]; exact h2 i hi⟩, ⟨fun i hi => ?_, fun i hi j hj => ?_, fun i hi j hj => ?_, fun i hi => ?_, fun i hi j hj => ?_, fun i hi j hj => ?_, fun x hx => ?_⟩, fun x hx h9 => by rw [mset_n (by decide)]; exact h4 x hx h9, fun x hx => by rw [mset_n (by decide)]; exact h5 x hx⟩
  · rw [mset_sn (by omega)]; exact g1 i hi
  · have hj : j < bN (aB a) i := hj; have := (hB.1 i hi).1; rw [mset_sn (by omega)]; exact g2 i hi j hj
  · have hj : j < bN (aB a) i := hj; have := (hB.1 i hi).1; rw [mset_sn (by omega)]; exact g3 i hi j hj
  · rw [mset_sn (by omega)]; exact g4 i hi
  · have hj : j < bN (aB a) (3 + i) := hj; have := (hB.2.1 (3 + i) (by omega) (by omega)).1; rw [mset_sn (by omega)]; exact g5 i hi j hj
  · have hj : j < bN (aB a) (3 + i) := hj; have := (hB.2.1 (3 + i) (by omega) (by omega)).1; rw [mset_sn (by omega)]; exact g6 i hi j hj
  · show _ = nI (if x = k then q else bU (aB a) x)
    by_cases e : x = k
    · subst e; rw [mset_ss, if_pos rfl]
    · rw [mset_sn (by omega), if_neg e]; exact g7 x hx
set_option maxHeartbeats 4000000 in
set_option maxRecDepth 100000 in
theorem c5_rule (l : Launch) (G : GG) {σ : Mem} {a : AS} (x v : Int32) (hA : AOK a) (hR : RM σ a) : Ci l G yX5_rule cX5_rule 4 (some .int) 1 22 [.ref (gad G 134), .int x, .int v] σ (fun r τ => r = sp_rule x v a ∧ RM τ (ns_rule x v a) ∧ FrM σ τ) := by
  refine Ci.of (own := RX5) (by decide) rfl (Nat.le_of_ble_eq_true rfl) (fun p e s m args below meth c ls H locs X hl hh => ?_)
  have hl : lv_has ls 4 [(0, .ref (gad G 134)), (1, .int x), (2, .int v)] := hl
  refine lv_iload_n X.x X.b dX5_rule_0 rfl (lv_at hl 1 rfl) ?_
  refine lv_iconst (v := nI 0) X.x X.b dX5_rule_1 (by decide) ?_
  refine lv_iconst (v := nI 3) X.x X.b dX5_rule_2 (by decide) ?_
  refine f_scalli X hh (c5_inB l G x 0 3 (by decide) (by decide)) mf_yX5_in ks_yX5_in km_X5_50 rfl hl.1 [] rfl (Nat.le_of_ble_eq_true rfl) ⟨by decide, by decide⟩ ⟨Nat.zero_le _, Nat.zero_le _⟩ dX5_rule_3 (fun r τ H locs hq hh => ?_)
  obtain ⟨rfl, hτ⟩ := hq
  rw [hτ] at hh
  clear hτ
  by_cases c_1 : inB x 0 3
  · rw [show (if inB x 0 3 then (1 : Int32) else 0) = 1 from if_pos c_1]
    obtain ⟨k, ha_k, hb_k, rfl⟩ := inB_of c_1 (by decide)
    refine lv_if_eq (tgt := 19) X.x X.b dX5_rule_6 (by decide) (fun h9 => absurd h9 (by decide)) (fun _ => ?_)
    refine lv_iload_n X.x X.b dX5_rule_9 rfl (lv_at hl 2 rfl) ?_
    refine lv_iconst (v := nI 0) X.x X.b dX5_rule_10 (by decide) ?_
    refine lv_bipush (v := nI 9) X.x X.b dX5_rule_11 (by decide) ?_
    refine f_scalli X hh (c5_inB l G v 0 9 (by decide) (by decide)) mf_yX5_in ks_yX5_in km_X5_50 rfl hl.1 [] rfl (Nat.le_of_ble_eq_true rfl) ⟨by decide, by decide⟩ ⟨Nat.zero_le _, Nat.zero_le _⟩ dX5_rule_13 (fun r τ H locs hq hh => ?_)
    obtain ⟨rfl, hτ⟩ := hq
    rw [hτ] at hh
    clear hτ
    by_cases c_3 : inB v 0 9
    · rw [show (if inB v 0 9 then (1 : Int32) else 0) = 1 from if_pos c_3]
      obtain ⟨q, ha_q, hb_q, rfl⟩ := inB_of c_3 (by decide)
      refine lv_if_ne (tgt := 22) X.x X.b dX5_rule_16 (by decide) (fun _ => ?_) (fun h9 => absurd h9 (by decide))
      refine lv_aload_n X.x X.b dX5_rule_22 rfl (lv_at hl 0 rfl) ?_
      refine f_get X hh (v := .ref (gad G 135)) (sh_134 G _) (by decide) rfl in_X5 0 (by decide) kf_X5_7 rfl dX5_rule_23 ?_
      refine lv_sipush (v := nI 149) X.x X.b dX5_rule_26 (by decide) ?_
      refine lv_iload_n X.x X.b dX5_rule_29 rfl (lv_at hl 1 rfl) ?_
      refine f_iadd X (z := nI (149 + k)) (nI_add 149 k) dX5_rule_30 ?_
      refine f_ialdx X hh (j := 149 + k) (y := nI (bU (aB a) k)) (sh_135 G _) (by decide) rfl (by omega) (by decide) (hR.2.1.2.2.2.2.2.2 _ (by omega)) dX5_rule_31 ?_
      refine lv_istore_n (lv' := [(3, .int (nI (bU (aB a) k))), (0, .ref (gad G 134)), (1, .int (nI k)), (2, .int (nI q))]) X.x X.b dX5_rule_32 rfl hl (by decide) rfl (fun ls hl => ?_)
      refine lv_aload_n X.x X.b dX5_rule_33 rfl (lv_at hl 1 rfl) ?_
      refine f_get X hh (v := .ref (gad G 135)) (sh_134 G _) (by decide) rfl in_X5 0 (by decide) kf_X5_7 rfl dX5_rule_34 ?_
      refine lv_sipush (v := nI 149) X.x X.b dX5_rule_37 (by decide) ?_
      refine lv_iload_n X.x X.b dX5_rule_40 rfl (lv_at hl 2 rfl) ?_
      refine f_iadd X (z := nI (149 + k)) (nI_add 149 k) dX5_rule_41 ?_
      refine lv_iload_n X.x X.b dX5_rule_42 rfl (lv_at hl 3 rfl) ?_
      refine f_iast X hh (j := 149 + k) (sh_135 G) (by decide) rfl (by omega) (by decide) dX5_rule_43 (fun H locs hh => ?_)
      refine lv_iload_n X.x X.b dX5_rule_44 rfl (lv_at hl 0 rfl) ?_
      exact f_iret X hh ⟨by unfold sp_rule; rw [if_pos ⟨c_1, c_3⟩, ix_nI (by omega)], by unfold ns_rule; rw [if_pos ⟨c_1, c_3⟩, ix_nI (by omega), ix_nI (by omega)]; exact hR.rul hA.2.2.1 (by omega), fun k9 h9 => mset_n (by omega)⟩ dX5_rule_45
    · rw [show (if inB v 0 9 then (1 : Int32) else 0) = 0 from if_neg c_3]
      refine lv_if_ne (tgt := 22) X.x X.b dX5_rule_16 (by decide) (fun h9 => absurd (show _ by decide) h9) (fun _ => ?_)
      refine lv_bipush (v := (-2)) X.x X.b dX5_rule_19 (by decide) ?_
      exact f_iret X hh ⟨(if_neg (fun q9 => c_3 q9.2)).symm, by unfold ns_rule; rw [if_neg (fun q9 => c_3 q9.2)]; exact hR, FrM.rf⟩ dX5_rule_21
  · rw [show (if inB x 0 3 then (1 : Int32) else 0) = 0 from if_neg c_1]
    refine lv_if_eq (tgt := 19) X.x X.b dX5_rule_6 (by decide) (fun _ => ?_) (fun h9 => absurd (show _ by decide) h9)
    refine lv_bipush (v := (-2)) X.x X.b dX5_rule_19 (by decide) ?_
    exact f_iret X hh ⟨(if_neg (fun q9 => c_1 q9.1)).symm, by unfold ns_rule; rw [if_neg (fun q9 => c_1 q9.1)]; exact hR, FrM.rf⟩ dX5_rule_21
set_option maxHeartbeats 4000000 in
set_option maxRecDepth 100000 in
theorem c5_syllable (l : Launch) (G : GG) {σ : Mem} {a : AS} (x i v : Int32) (hA : AOK a) (hR : RM σ a) : Ci l G yX5_syllable cX5_syllable 4 (some .int) 2 42 [.ref (gad G 134), .int x, .int i, .int v] σ (fun r τ => r = sp_syllable x i v a ∧ RM τ a ∧ FrM σ τ) := by
  refine Ci.of (own := RX5) (by decide) rfl (Nat.le_of_ble_eq_true rfl) (fun p e s m args below meth c ls H locs X hl hh => ?_)
  have hl : lv_has ls 4 [(0, .ref (gad G 134)), (1, .int x), (2, .int i), (3, .int v)] := hl
  refine lv_iload_n X.x X.b dX5_syllable_0 rfl (lv_at hl 1 rfl) ?_
  refine f_scalli X hh (c5_isLine l G x) mf_yX5_isLine ks_yX5_isLine km_X5_68 rfl hl.1 [] rfl (Nat.le_of_ble_eq_true rfl) ⟨by decide, by decide⟩ ⟨Nat.zero_le _, Nat.zero_le _⟩ dX5_syllable_1 (fun r τ H locs hq hh => ?_)
  obtain ⟨rfl, hτ⟩ := hq
  rw [hτ] at hh
  clear hτ
  by_cases c_1 : inB x 0 2
  · rw [show (if inB x 0 2 then (1 : Int32) else 0) = 1 from if_pos c_1]
    obtain ⟨k, ha_k, hb_k, rfl⟩ := inB_of c_1 (by decide)
    refine lv_if_ne (tgt := 9) X.x X.b dX5_syllable_4 (by decide) (fun _ => ?_) (fun h9 => absurd h9 (by decide))
    have hbn := (hA.2.2.1.1 k (by omega)).1
    refine lv_iload_n X.x X.b dX5_syllable_9 rfl (lv_at hl 3 rfl) ?_
    refine lv_iconst (v := nI 0) X.x X.b dX5_syllable_10 (by decide) ?_
    refine lv_iconst (v := nI 1) X.x X.b dX5_syllable_11 (by decide) ?_
    refine f_scalli X hh (c5_inB l G v 0 1 (by decide) (by decide)) mf_yX5_in ks_yX5_in km_X5_50 rfl hl.1 [] rfl (Nat.le_of_ble_eq_true rfl) ⟨by decide, by decide⟩ ⟨Nat.zero_le _, Nat.zero_le _⟩ dX5_syllable_12 (fun r τ H locs hq hh => ?_)
    obtain ⟨rfl, hτ⟩ := hq
    rw [hτ] at hh
    clear hτ
    by_cases c_3 : inB v 0 1
    · rw [show (if inB v 0 1 then (1 : Int32) else 0) = 1 from if_pos c_3]
      obtain ⟨q, ha_q, hb_q, rfl⟩ := inB_of c_3 (by decide)
      refine lv_if_ne (tgt := 21) X.x X.b dX5_syllable_15 (by decide) (fun _ => ?_) (fun h9 => absurd h9 (by decide))
      refine lv_iload_n X.x X.b dX5_syllable_21 rfl (lv_at hl 2 rfl) ?_
      refine lv_iconst (v := (-1)) X.x X.b dX5_syllable_22 (by decide) ?_
      refine lv_icmp_ne (tgt := 35) X.x X.b dX5_syllable_23 (by decide) (fun c_5 => ?_) (fun c_5 => ?_)
      · refine lv_iload_n X.x X.b dX5_syllable_35 rfl (lv_at hl 2 rfl) ?_
        refine lv_iconst (v := nI 0) X.x X.b dX5_syllable_36 (by decide) ?_
        refine lv_aload_n X.x X.b dX5_syllable_37 rfl (lv_at hl 0 rfl) ?_
        refine f_get X hh (v := .ref (gad G 135)) (sh_134 G _) (by decide) rfl in_X5 0 (by decide) kf_X5_7 rfl dX5_syllable_38 ?_
        refine lv_iconst (v := nI 0) X.x X.b dX5_syllable_41 (by decide) ?_
        refine lv_iload_n X.x X.b dX5_syllable_42 rfl (lv_at hl 1 rfl) ?_
        refine f_iadd X (z := nI (0 + k)) (nI_add 0 k) dX5_syllable_43 ?_
        refine f_ialdx X hh (j := 0 + k) (y := nI (bN (aB a) k)) (sh_135 G _) (by decide) rfl (by omega) (by decide) (hR.2.1.1 _ (by omega)) dX5_syllable_44 ?_
        refine lv_iconst (v := nI 1) X.x X.b dX5_syllable_45 (by decide) ?_
        refine f_isub X (z := nI (bN (aB a) k) - nI 1) rfl dX5_syllable_46 ?_
        refine f_scalli X hh (c5_inR l G i (n := bN (aB a) k) (by omega)) mf_yX5_in ks_yX5_in km_X5_50 rfl hl.1 [] rfl (Nat.le_of_ble_eq_true rfl) ⟨by decide, by decide⟩ ⟨Nat.zero_le _, Nat.zero_le _⟩ dX5_syllable_47 (fun r τ H locs hq hh => ?_)
        obtain ⟨rfl, hτ⟩ := hq
        rw [hτ] at hh
        clear hτ
        by_cases c_6 : inR i (bN (aB a) k)
        · rw [show (if inR i (bN (aB a) k) then (1 : Int32) else 0) = 1 from if_pos c_6]
          obtain ⟨y, hy, rfl⟩ := inR_of c_6 (by omega)
          refine lv_if_eq (tgt := 78) X.x X.b dX5_syllable_50 (by decide) (fun h9 => absurd h9 (by decide)) (fun _ => ?_)
          refine lv_aload_n X.x X.b dX5_syllable_53 rfl (lv_at hl 0 rfl) ?_
          refine f_get X hh (v := .ref (gad G 135)) (sh_134 G _) (by decide) rfl in_X5 0 (by decide) kf_X5_7 rfl dX5_syllable_54 ?_
          refine lv_iload_n X.x X.b dX5_syllable_57 rfl (lv_at hl 3 rfl) ?_
          refine lv_if_ne (tgt := 65) X.x X.b dX5_syllable_58 (by decide) (fun c_8 => ?_) (fun c_8 => ?_)
          · have c_8 : ¬ q = 0 := fun q9 => c_8 ((nI_eq (a := q) (b := 0) (by omega) (by omega)).mpr q9)
            refine lv_bipush (v := nI 30) X.x X.b dX5_syllable_65 (by decide) ?_
            refine lv_bipush (v := nI 9) X.x X.b dX5_syllable_67 (by decide) ?_
            refine lv_iload_n X.x X.b dX5_syllable_69 rfl (lv_at hl 1 rfl) ?_
            refine f_imul X (z := nI (9 * k)) (pk_mul 9 k) dX5_syllable_70 ?_
            refine f_iadd X (z := nI (30 + 9 * k)) (nI_add 30 (9 * k)) dX5_syllable_71 ?_
            refine lv_iload_n X.x X.b dX5_syllable_72 rfl (lv_at hl 2 rfl) ?_
            refine f_iadd X (z := nI (30 + 9 * k + y)) (nI_add (30 + 9 * k) y) dX5_syllable_73 ?_
            refine f_ialdx X hh (j := 30 + 9 * k + y) (y := nI (bZ (aB a) k y)) (sh_135 G _) (by decide) rfl (by omega) (by decide) (hR.2.1.2.2.1 _ (by omega) _ (by omega)) dX5_syllable_74 ?_
            refine lv_goto (tgt := 80) X.x X.b dX5_syllable_75 (by decide) ?_
            exact f_iret X hh ⟨by unfold sp_syllable prt; rw [if_pos c_1, ix_nI (show k < 2 ^ 31 by omega), if_pos c_3, if_neg c_5, if_pos c_6, ix_nI (show y < 2 ^ 31 by omega), if_neg (fun q9 => c_8 ((nI_z (by omega)).mp q9))], hR, FrM.rf⟩ dX5_syllable_80
          · have c_8 : q = 0 := (nI_eq (a := q) (b := 0) (by omega) (by omega)).mp c_8
            refine lv_iconst (v := nI 3) X.x X.b dX5_syllable_61 (by decide) ?_
            refine lv_goto (tgt := 67) X.x X.b dX5_syllable_62 (by decide) ?_
            refine lv_bipush (v := nI 9) X.x X.b dX5_syllable_67 (by decide) ?_
            refine lv_iload_n X.x X.b dX5_syllable_69 rfl (lv_at hl 1 rfl) ?_
            refine f_imul X (z := nI (9 * k)) (pk_mul 9 k) dX5_syllable_70 ?_
            refine f_iadd X (z := nI (3 + 9 * k)) (nI_add 3 (9 * k)) dX5_syllable_71 ?_
            refine lv_iload_n X.x X.b dX5_syllable_72 rfl (lv_at hl 2 rfl) ?_
            refine f_iadd X (z := nI (3 + 9 * k + y)) (nI_add (3 + 9 * k) y) dX5_syllable_73 ?_
            refine f_ialdx X hh (j := 3 + 9 * k + y) (y := nI (bW (aB a) k y)) (sh_135 G _) (by decide) rfl (by omega) (by decide) (hR.2.1.2.1 _ (by omega) _ (by omega)) dX5_syllable_74 ?_
            refine lv_goto (tgt := 80) X.x X.b dX5_syllable_75 (by decide) ?_
            exact f_iret X hh ⟨by unfold sp_syllable prt; rw [if_pos c_1, ix_nI (show k < 2 ^ 31 by omega), if_pos c_3, if_neg c_5, if_pos c_6, ix_nI (show y < 2 ^ 31 by omega), if_pos ((nI_z (by omega)).mpr c_8)], hR, FrM.rf⟩ dX5_syllable_80
        · rw [show (if inR i (bN (aB a) k) then (1 : Int32) else 0) = 0 from if_neg c_6]
          refine lv_if_eq (tgt := 78) X.x X.b dX5_syllable_50 (by decide) (fun _ => ?_) (fun h9 => absurd (show _ by decide) h9)
          refine lv_bipush (v := (-6)) X.x X.b dX5_syllable_78 (by decide) ?_
          exact f_iret X hh ⟨by unfold sp_syllable prt; rw [if_pos c_1, ix_nI (show k < 2 ^ 31 by omega), if_pos c_3, if_neg c_5, if_neg c_6], hR, FrM.rf⟩ dX5_syllable_80
      · refine lv_aload_n X.x X.b dX5_syllable_26 rfl (lv_at hl 0 rfl) ?_
        refine f_get X hh (v := .ref (gad G 135)) (sh_134 G _) (by decide) rfl in_X5 0 (by decide) kf_X5_7 rfl dX5_syllable_27 ?_
        refine lv_iconst (v := nI 0) X.x X.b dX5_syllable_30 (by decide) ?_
        refine lv_iload_n X.x X.b dX5_syllable_31 rfl (lv_at hl 1 rfl) ?_
        refine f_iadd X (z := nI (0 + k)) (nI_add 0 k) dX5_syllable_32 ?_
        refine f_ialdx X hh (j := 0 + k) (y := nI (bN (aB a) k)) (sh_135 G _) (by decide) rfl (by omega) (by decide) (hR.2.1.1 _ (by omega)) dX5_syllable_33 ?_
        exact f_iret X hh ⟨by unfold sp_syllable prt; rw [if_pos c_1, ix_nI (show k < 2 ^ 31 by omega), if_pos c_3, if_pos c_5], hR, FrM.rf⟩ dX5_syllable_34
    · rw [show (if inB v 0 1 then (1 : Int32) else 0) = 0 from if_neg c_3]
      refine lv_if_ne (tgt := 21) X.x X.b dX5_syllable_15 (by decide) (fun h9 => absurd (show _ by decide) h9) (fun _ => ?_)
      refine lv_bipush (v := (-2)) X.x X.b dX5_syllable_18 (by decide) ?_
      exact f_iret X hh ⟨by unfold sp_syllable prt; rw [if_pos c_1, ix_nI (show k < 2 ^ 31 by omega), if_neg c_3], hR, FrM.rf⟩ dX5_syllable_20
  · rw [show (if inB x 0 2 then (1 : Int32) else 0) = 0 from if_neg c_1]
    refine lv_if_ne (tgt := 9) X.x X.b dX5_syllable_4 (by decide) (fun h9 => absurd (show _ by decide) h9) (fun _ => ?_)
    refine lv_iconst (v := (-1)) X.x X.b dX5_syllable_7 (by decide) ?_
    exact f_iret X hh ⟨(if_neg c_1).symm, hR, FrM.rf⟩ dX5_syllable_8
set_option maxHeartbeats 4000000 in
set_option maxRecDepth 100000 in
theorem c5_note (l : Launch) (G : GG) {σ : Mem} {a : AS} (x i v : Int32) (hA : AOK a) (hR : RM σ a) : Ci l G yX5_note cX5_note 4 (some .int) 2 42 [.ref (gad G 134), .int x, .int i, .int v] σ (fun r τ => r = sp_note x i v a ∧ RM τ a ∧ FrM σ τ) := by
  refine Ci.of (own := RX5) (by decide) rfl (Nat.le_of_ble_eq_true rfl) (fun p e s m args below meth c ls H locs X hl hh => ?_)
  have hl : lv_has ls 4 [(0, .ref (gad G 134)), (1, .int x), (2, .int i), (3, .int v)] := hl
  refine lv_iload_n X.x X.b dX5_note_0 rfl (lv_at hl 1 rfl) ?_
  refine f_scalli X hh (c5_isTune l G x) mf_yX5_isTune ks_yX5_isTune km_X5_72 rfl hl.1 [] rfl (Nat.le_of_ble_eq_true rfl) ⟨by decide, by decide⟩ ⟨Nat.zero_le _, Nat.zero_le _⟩ dX5_note_1 (fun r τ H locs hq hh => ?_)
  obtain ⟨rfl, hτ⟩ := hq
  rw [hτ] at hh
  clear hτ
  by_cases c_1 : inB x 0 3
  · rw [show (if inB x 0 3 then (1 : Int32) else 0) = 1 from if_pos c_1]
    obtain ⟨k, ha_k, hb_k, rfl⟩ := inB_of c_1 (by decide)
    refine lv_if_ne (tgt := 9) X.x X.b dX5_note_4 (by decide) (fun _ => ?_) (fun h9 => absurd h9 (by decide))
    have hbn := (hA.2.2.1.2.1 (3 + k) (by omega) (by omega)).1
    refine lv_iload_n X.x X.b dX5_note_9 rfl (lv_at hl 3 rfl) ?_
    refine lv_iconst (v := nI 0) X.x X.b dX5_note_10 (by decide) ?_
    refine lv_iconst (v := nI 1) X.x X.b dX5_note_11 (by decide) ?_
    refine f_scalli X hh (c5_inB l G v 0 1 (by decide) (by decide)) mf_yX5_in ks_yX5_in km_X5_50 rfl hl.1 [] rfl (Nat.le_of_ble_eq_true rfl) ⟨by decide, by decide⟩ ⟨Nat.zero_le _, Nat.zero_le _⟩ dX5_note_12 (fun r τ H locs hq hh => ?_)
    obtain ⟨rfl, hτ⟩ := hq
    rw [hτ] at hh
    clear hτ
    by_cases c_3 : inB v 0 1
    · rw [show (if inB v 0 1 then (1 : Int32) else 0) = 1 from if_pos c_3]
      obtain ⟨q, ha_q, hb_q, rfl⟩ := inB_of c_3 (by decide)
      refine lv_if_ne (tgt := 21) X.x X.b dX5_note_15 (by decide) (fun _ => ?_) (fun h9 => absurd h9 (by decide))
      refine lv_iload_n X.x X.b dX5_note_21 rfl (lv_at hl 2 rfl) ?_
      refine lv_iconst (v := (-1)) X.x X.b dX5_note_22 (by decide) ?_
      refine lv_icmp_ne (tgt := 36) X.x X.b dX5_note_23 (by decide) (fun c_5 => ?_) (fun c_5 => ?_)
      · refine lv_iload_n X.x X.b dX5_note_36 rfl (lv_at hl 2 rfl) ?_
        refine lv_iconst (v := nI 0) X.x X.b dX5_note_37 (by decide) ?_
        refine lv_aload_n X.x X.b dX5_note_38 rfl (lv_at hl 0 rfl) ?_
        refine f_get X hh (v := .ref (gad G 135)) (sh_134 G _) (by decide) rfl in_X5 0 (by decide) kf_X5_7 rfl dX5_note_39 ?_
        refine lv_bipush (v := nI 57) X.x X.b dX5_note_42 (by decide) ?_
        refine lv_iload_n X.x X.b dX5_note_44 rfl (lv_at hl 1 rfl) ?_
        refine f_iadd X (z := nI (57 + k)) (nI_add 57 k) dX5_note_45 ?_
        refine f_ialdx X hh (j := 57 + k) (y := nI (bN (aB a) (3 + k))) (sh_135 G _) (by decide) rfl (by omega) (by decide) (hR.2.1.2.2.2.1 _ (by omega)) dX5_note_46 ?_
        refine lv_iconst (v := nI 1) X.x X.b dX5_note_47 (by decide) ?_
        refine f_isub X (z := nI (bN (aB a) (3 + k)) - nI 1) rfl dX5_note_48 ?_
        refine f_scalli X hh (c5_inR l G i (n := bN (aB a) (3 + k)) (by omega)) mf_yX5_in ks_yX5_in km_X5_50 rfl hl.1 [] rfl (Nat.le_of_ble_eq_true rfl) ⟨by decide, by decide⟩ ⟨Nat.zero_le _, Nat.zero_le _⟩ dX5_note_49 (fun r τ H locs hq hh => ?_)
        obtain ⟨rfl, hτ⟩ := hq
        rw [hτ] at hh
        clear hτ
        by_cases c_6 : inR i (bN (aB a) (3 + k))
        · rw [show (if inR i (bN (aB a) (3 + k)) then (1 : Int32) else 0) = 1 from if_pos c_6]
          obtain ⟨y, hy, rfl⟩ := inR_of c_6 (by omega)
          refine lv_if_eq (tgt := 81) X.x X.b dX5_note_52 (by decide) (fun h9 => absurd h9 (by decide)) (fun _ => ?_)
          refine lv_aload_n X.x X.b dX5_note_55 rfl (lv_at hl 0 rfl) ?_
          refine f_get X hh (v := .ref (gad G 135)) (sh_134 G _) (by decide) rfl in_X5 0 (by decide) kf_X5_7 rfl dX5_note_56 ?_
          refine lv_iload_n X.x X.b dX5_note_59 rfl (lv_at hl 3 rfl) ?_
          refine lv_if_ne (tgt := 68) X.x X.b dX5_note_60 (by decide) (fun c_8 => ?_) (fun c_8 => ?_)
          · have c_8 : ¬ q = 0 := fun q9 => c_8 ((nI_eq (a := q) (b := 0) (by omega) (by omega)).mpr q9)
            refine lv_bipush (v := nI 105) X.x X.b dX5_note_68 (by decide) ?_
            refine lv_bipush (v := nI 11) X.x X.b dX5_note_70 (by decide) ?_
            refine lv_iload_n X.x X.b dX5_note_72 rfl (lv_at hl 1 rfl) ?_
            refine f_imul X (z := nI (11 * k)) (pk_mul 11 k) dX5_note_73 ?_
            refine f_iadd X (z := nI (105 + 11 * k)) (nI_add 105 (11 * k)) dX5_note_74 ?_
            refine lv_iload_n X.x X.b dX5_note_75 rfl (lv_at hl 2 rfl) ?_
            refine f_iadd X (z := nI (105 + 11 * k + y)) (nI_add (105 + 11 * k) y) dX5_note_76 ?_
            refine f_ialdx X hh (j := 105 + 11 * k + y) (y := nI (bZ (aB a) (3 + k) y)) (sh_135 G _) (by decide) rfl (by omega) (by decide) (hR.2.1.2.2.2.2.2.1 _ (by omega) _ (by omega)) dX5_note_77 ?_
            refine lv_goto (tgt := 83) X.x X.b dX5_note_78 (by decide) ?_
            exact f_iret X hh ⟨by unfold sp_note prt; rw [if_pos c_1, ix_nI (show k < 2 ^ 31 by omega), if_pos c_3, if_neg c_5, if_pos c_6, ix_nI (show y < 2 ^ 31 by omega), if_neg (fun q9 => c_8 ((nI_z (by omega)).mp q9))], hR, FrM.rf⟩ dX5_note_83
          · have c_8 : q = 0 := (nI_eq (a := q) (b := 0) (by omega) (by omega)).mp c_8
            refine lv_bipush (v := nI 61) X.x X.b dX5_note_63 (by decide) ?_
            refine lv_goto (tgt := 70) X.x X.b dX5_note_65 (by decide) ?_
            refine lv_bipush (v := nI 11) X.x X.b dX5_note_70 (by decide) ?_
            refine lv_iload_n X.x X.b dX5_note_72 rfl (lv_at hl 1 rfl) ?_
            refine f_imul X (z := nI (11 * k)) (pk_mul 11 k) dX5_note_73 ?_
            refine f_iadd X (z := nI (61 + 11 * k)) (nI_add 61 (11 * k)) dX5_note_74 ?_
            refine lv_iload_n X.x X.b dX5_note_75 rfl (lv_at hl 2 rfl) ?_
            refine f_iadd X (z := nI (61 + 11 * k + y)) (nI_add (61 + 11 * k) y) dX5_note_76 ?_
            refine f_ialdx X hh (j := 61 + 11 * k + y) (y := nI (bW (aB a) (3 + k) y)) (sh_135 G _) (by decide) rfl (by omega) (by decide) (hR.2.1.2.2.2.2.1 _ (by omega) _ (by omega)) dX5_note_77 ?_
            refine lv_goto (tgt := 83) X.x X.b dX5_note_78 (by decide) ?_
            exact f_iret X hh ⟨by unfold sp_note prt; rw [if_pos c_1, ix_nI (show k < 2 ^ 31 by omega), if_pos c_3, if_neg c_5, if_pos c_6, ix_nI (show y < 2 ^ 31 by omega), if_pos ((nI_z (by omega)).mpr c_8)], hR, FrM.rf⟩ dX5_note_83
        · rw [show (if inR i (bN (aB a) (3 + k)) then (1 : Int32) else 0) = 0 from if_neg c_6]
          refine lv_if_eq (tgt := 81) X.x X.b dX5_note_52 (by decide) (fun _ => ?_) (fun h9 => absurd (show _ by decide) h9)
          refine lv_bipush (v := (-6)) X.x X.b dX5_note_81 (by decide) ?_
          exact f_iret X hh ⟨by unfold sp_note prt; rw [if_pos c_1, ix_nI (show k < 2 ^ 31 by omega), if_pos c_3, if_neg c_5, if_neg c_6], hR, FrM.rf⟩ dX5_note_83
      · refine lv_aload_n X.x X.b dX5_note_26 rfl (lv_at hl 0 rfl) ?_
        refine f_get X hh (v := .ref (gad G 135)) (sh_134 G _) (by decide) rfl in_X5 0 (by decide) kf_X5_7 rfl dX5_note_27 ?_
        refine lv_bipush (v := nI 57) X.x X.b dX5_note_30 (by decide) ?_
        refine lv_iload_n X.x X.b dX5_note_32 rfl (lv_at hl 1 rfl) ?_
        refine f_iadd X (z := nI (57 + k)) (nI_add 57 k) dX5_note_33 ?_
        refine f_ialdx X hh (j := 57 + k) (y := nI (bN (aB a) (3 + k))) (sh_135 G _) (by decide) rfl (by omega) (by decide) (hR.2.1.2.2.2.1 _ (by omega)) dX5_note_34 ?_
        exact f_iret X hh ⟨by unfold sp_note prt; rw [if_pos c_1, ix_nI (show k < 2 ^ 31 by omega), if_pos c_3, if_pos c_5], hR, FrM.rf⟩ dX5_note_35
    · rw [show (if inB v 0 1 then (1 : Int32) else 0) = 0 from if_neg c_3]
      refine lv_if_ne (tgt := 21) X.x X.b dX5_note_15 (by decide) (fun h9 => absurd (show _ by decide) h9) (fun _ => ?_)
      refine lv_bipush (v := (-2)) X.x X.b dX5_note_18 (by decide) ?_
      exact f_iret X hh ⟨by unfold sp_note prt; rw [if_pos c_1, ix_nI (show k < 2 ^ 31 by omega), if_neg c_3], hR, FrM.rf⟩ dX5_note_20
  · rw [show (if inB x 0 3 then (1 : Int32) else 0) = 0 from if_neg c_1]
    refine lv_if_ne (tgt := 9) X.x X.b dX5_note_4 (by decide) (fun h9 => absurd (show _ by decide) h9) (fun _ => ?_)
    refine lv_iconst (v := (-1)) X.x X.b dX5_note_7 (by decide) ?_
    exact f_iret X hh ⟨(if_neg c_1).symm, hR, FrM.rf⟩ dX5_note_8
