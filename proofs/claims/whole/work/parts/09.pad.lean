/-! small tests; the pad: n signs g -/
def okb (a b : Bool) : Bool := a && b
/-- the first place of n that is not so -/
def ffst (ok : Nat → Bool) : Nat → Option Nat
  | 0 => none
  | k + 1 => match ffst ok k with
    | some j => some j
    | none => if ok k then none else some k
theorem ffst_n {ok : Nat → Bool} : ∀ {n : Nat}, (∀ k, k < n → ok k = true) → ffst ok n = none
  | 0, _ => rfl
  | n + 1, h => by
    have h1 : ffst ok n = none := ffst_n (fun k hk => h k (by omega))
    unfold ffst
    rw [h1]
    simp [h n (by omega)]
theorem ffst_s {ok : Nat → Bool} {j : Nat} (hj : ok j = false) (h : ∀ k, k < j → ok k = true) : ∀ {n : Nat}, j < n → ffst ok n = some j
  | 0, hn => by omega
  | n + 1, hn => by
    unfold ffst
    by_cases e : j = n
    · subst e
      rw [ffst_n h]
      simp [hj]
    · rw [ffst_s hj h (n := n) (by omega)]
theorem ffst_all {ok : Nat → Bool} : ∀ {n : Nat}, ffst ok n = none → ∀ k, k < n → ok k = true
  | 0, _, k, hk => by omega
  | n + 1, h, k, hk => by
    unfold ffst at h
    cases hf : ffst ok n with
    | some j => rw [hf] at h; cases h
    | none =>
      rw [hf] at h
      by_cases e : k = n
      · subst e
        by_cases ho : ok k = true
        · exact ho
        · simp [ho] at h
      · exact ffst_all hf k (by omega)
theorem ffst_lt {ok : Nat → Bool} : ∀ {n j : Nat}, ffst ok n = some j → j < n
  | 0, j, h => by cases h
  | n + 1, j, h => by
    unfold ffst at h
    cases hf : ffst ok n with
    | some i => rw [hf] at h; cases h; have := ffst_lt hf; omega
    | none =>
      rw [hf] at h
      by_cases ho : ok n = true
      · simp [ho] at h
      · simp [ho] at h; omega
def PD (σ : Mem) (n : Nat) (g : Nat → Nat) : Prop := σ 83 1 = nI n ∧ n ≤ 22 ∧ (∀ i, i < n → σ 84 i = nI (g i)) ∧ ∀ i, i < n → 33 ≤ g i ∧ g i ≤ 126
/-- the pad read as a line: after k signs so many syllables, stresses, longs -/
def rdn (g : Nat → Nat) : Nat → Nat
  | 0 => 0
  | k + 1 => if g k = 45 then rdn g k else rdn g k + 1
def rdw (g : Nat → Nat) : Nat → Nat → Nat
  | 0 => fun _ => 0
  | k + 1 => if g k = 45 then rdw g k else fun i => if i = rdn g k then g k - 48 else rdw g k i
def rdz (g : Nat → Nat) : Nat → Nat → Nat
  | 0 => fun _ => 0
  | k + 1 => if g k = 45 then (fun i => if i + 1 = rdn g k then 1 else rdz g k i) else fun i => if i = rdn g k then 0 else rdz g k i
def may (g : Nat → Nat) (k : Nat) : Bool := decide (k ≠ 0) && decide (g (k - 1) ≠ 45)
def figL (g : Nat → Nat) (k : Nat) : Bool := decide (rdn g k < 9) && (decide (48 ≤ g k) && decide (g k ≤ 50))
def okL (g : Nat → Nat) (k : Nat) : Bool := (may g k && decide (g k = 45)) || figL g k
def okT (g : Nat → Nat) (k : Nat) : Bool := if k % 2 = 0 then decide (48 ≤ g k) && decide (g k ≤ 50) else decide (49 ≤ g k) && decide (g k ≤ 52)
def lans (g : Nat → Nat) (n : Nat) : Int32 := match ffst (okL g) n with
  | some k => nI k
  | none => -6
def tans (g : Nat → Nat) (n : Nat) : Int32 := match ffst (okT g) n with
  | some k => nI k
  | none => if n % 2 = 0 then -6 else nI n
def isS (x : Nat) : Bool := decide (x = 111) || decide (x = 104) || decide (x = 115)
def stp (x : Nat) : Int32 := if x = 111 then nI 0 else if x = 104 then nI 1 else if x = 115 then nI 2 else -1
theorem rdn_le (g : Nat → Nat) : ∀ k, rdn g k ≤ k
  | 0 => Nat.le_refl 0
  | k + 1 => by
    have := rdn_le g k
    unfold rdn
    split <;> omega
theorem rdn_ok {g : Nat → Nat} : ∀ {k : Nat}, (∀ j, j < k → okL g j = true) → rdn g k ≤ 9
  | 0, _ => Nat.zero_le _
  | k + 1, h => by
    have h1 : rdn g k ≤ 9 := rdn_ok (fun j hj => h j (by omega))
    have h2 := h k (by omega)
    unfold rdn
    by_cases e : g k = 45
    · rw [if_pos e]; exact h1
    · rw [if_neg e]
      simp [okL, figL, e] at h2
      omega
theorem rdn_pos {g : Nat → Nat} : ∀ {k : Nat}, (∀ j, j < k → okL g j = true) → k ≠ 0 → 0 < rdn g k
  | 0, _, hk => absurd rfl hk
  | k + 1, h, _ => by
    have h2 := h k (by omega)
    unfold rdn
    by_cases e : g k = 45
    · rw [if_pos e]
      simp [okL, figL, e, may] at h2
      exact rdn_pos (fun j hj => h j (by omega)) (by omega)
    · rw [if_neg e]; omega
/-- ints and small numbers -/
theorem iz_le {a b : Nat} (ha : a < 2 ^ 31) (hb : b < 2 ^ 31) : (nI a ≤ nI b) = (a ≤ b) := propext (nI_leI ha hb)

set_option maxHeartbeats 4000000 in
set_option maxRecDepth 100000 in
theorem c_isWithin (l : Launch) (G : GG) {σ : Mem}  (x a b : Int32) : Ci l G yX4_isWithin cX4_isWithin 3 (some .boolean) 0 0 [.int x, .int a, .int b] σ (fun r τ => r = (if a ≤ x ∧ x ≤ b then 1 else 0) ∧ τ = σ) := by
  refine Ci.of (own := RX4) (by decide) rfl (Nat.le_of_ble_eq_true rfl) (fun p e s m args below meth c ls H locs X hl hh => ?_)
  have hl : lv_has ls 3 [(0, .int x), (1, .int a), (2, .int b)] := hl
  refine lv_iload_n X.x X.b dX4_isWithin_0 rfl (lv_at hl 0 rfl) ?_
  refine lv_iload_n X.x X.b dX4_isWithin_1 rfl (lv_at hl 1 rfl) ?_
  refine lv_icmp_lt (tgt := 14) X.x X.b dX4_isWithin_2 (by decide) (fun c_1 => ?_) (fun c_1 => ?_)
  · refine lv_iconst (v := nI 0) X.x X.b dX4_isWithin_14 (by decide) ?_
    exact f_zret X hh rfl ⟨by first | (rw [if_pos ⟨Int32.not_lt.mp ‹_›, Int32.not_lt.mp ‹_›⟩]; rfl) | (rw [if_neg (fun q9 => absurd q9.1 (Int32.not_le.mpr ‹_›))]; rfl) | (rw [if_neg (fun q9 => absurd q9.2 (Int32.not_le.mpr ‹_›))]; rfl), rfl⟩ dX4_isWithin_15
  · refine lv_iload_n X.x X.b dX4_isWithin_5 rfl (lv_at hl 0 rfl) ?_
    refine lv_iload_n X.x X.b dX4_isWithin_6 rfl (lv_at hl 2 rfl) ?_
    refine lv_icmp_gt (tgt := 14) X.x X.b dX4_isWithin_7 (by decide) (fun c_2 => ?_) (fun c_2 => ?_)
    · refine lv_iconst (v := nI 0) X.x X.b dX4_isWithin_14 (by decide) ?_
      exact f_zret X hh rfl ⟨by first | (rw [if_pos ⟨Int32.not_lt.mp ‹_›, Int32.not_lt.mp ‹_›⟩]; rfl) | (rw [if_neg (fun q9 => absurd q9.1 (Int32.not_le.mpr ‹_›))]; rfl) | (rw [if_neg (fun q9 => absurd q9.2 (Int32.not_le.mpr ‹_›))]; rfl), rfl⟩ dX4_isWithin_15
    · refine lv_iconst (v := nI 1) X.x X.b dX4_isWithin_10 (by decide) ?_
      refine lv_goto (tgt := 15) X.x X.b dX4_isWithin_11 (by decide) ?_
      exact f_zret X hh rfl ⟨by first | (rw [if_pos ⟨Int32.not_lt.mp ‹_›, Int32.not_lt.mp ‹_›⟩]; rfl) | (rw [if_neg (fun q9 => absurd q9.1 (Int32.not_le.mpr ‹_›))]; rfl) | (rw [if_neg (fun q9 => absurd q9.2 (Int32.not_le.mpr ‹_›))]; rfl), rfl⟩ dX4_isWithin_15
theorem c_within (l : Launch) (G : GG) {σ : Mem} (x a b : Nat) (hx : x < 2 ^ 31) (ha : a < 2 ^ 31) (hb : b < 2 ^ 31) : Ci l G yX4_isWithin cX4_isWithin 3 (some .boolean) 0 0 [.int (nI x), .int (nI a), .int (nI b)] σ (fun r τ => r = (if a ≤ x ∧ x ≤ b then 1 else 0) ∧ τ = σ) := by
  have h := c_isWithin l G (σ := σ) (nI x) (nI a) (nI b)
  simp only [iz_le ha hx, iz_le hx hb] at h
  exact h
set_option maxHeartbeats 4000000 in
set_option maxRecDepth 100000 in
theorem c_put (l : Launch) (G : GG) {σ : Mem} {n x : Nat} {g : Nat → Nat} (hw : PD σ n g) (hn : n < 22) (hx : 33 ≤ x ∧ x ≤ 126) : Cv l G yX2_put cX2_put 2 0 0 [.ref (gad G 83), .int (nI x)] σ (fun τ => PD τ (n + 1) (fun i => if i = n then x else g i) ∧ ∀ k, k ≠ 83 → k ≠ 84 → τ k = σ k) := by
  refine Cv.of (own := RX2) (by decide) rfl (Nat.le_of_ble_eq_true rfl) (fun p e s m args below meth c ls H locs X hl hh => ?_)
  have hl : lv_has ls 2 [(0, .ref (gad G 83)), (1, .int (nI x))] := hl
  refine lv_aload_n X.x X.b dX2_put_0 rfl (lv_at hl 0 rfl) ?_
  refine f_geti X hh (x := nI n) (sh_83 G _) (by decide) rfl in_X2 1 (by decide) kf_X2_15 rfl hw.1 dX2_put_1 ?_
  refine lv_bipush (v := nI 22) X.x X.b dX2_put_4 (by decide) ?_
  refine lv_icmp_ge (tgt := 29) X.x X.b dX2_put_6 (by decide) (fun h9 => absurd h9 (nI_ge hn (by decide))) (fun _ => ?_)
  refine lv_aload_n X.x X.b dX2_put_9 rfl (lv_at hl 0 rfl) ?_
  refine f_get X hh (v := .ref (gad G 84)) (sh_83 G _) (by decide) rfl in_X2 0 (by decide) kf_X2_9 rfl dX2_put_10 ?_
  refine lv_aload_n X.x X.b dX2_put_13 rfl (lv_at hl 0 rfl) ?_
  refine f_geti X hh (x := nI n) (sh_83 G _) (by decide) rfl in_X2 1 (by decide) kf_X2_15 rfl hw.1 dX2_put_14 ?_
  refine lv_iload_n X.x X.b dX2_put_17 rfl (lv_at hl 1 rfl) ?_
  refine f_iast X hh (j := n) (sh_84 G) (by decide) rfl (by omega) (by decide) dX2_put_18 (fun H locs hh => ?_)
  refine lv_aload_n X.x X.b dX2_put_19 rfl (lv_at hl 0 rfl) ?_
  refine lv_dup X.x X.b dX2_put_20 rfl ?_
  refine f_geti X hh (x := nI n) (sh_83 G _) (by decide) rfl in_X2 1 (by decide) kf_X2_15 rfl (by rw [mset_n (show 83 ≠ 84 by omega)]; exact hw.1) dX2_put_21 ?_
  refine lv_iconst (v := nI 1) X.x X.b dX2_put_24 (by decide) ?_
  refine f_iadd X (z := nI (n + 1)) (nI_add n 1) dX2_put_25 ?_
  refine f_put X hh (x := nI (n + 1)) (sh_83 G _) (by decide) rfl in_X2 1 (sh_83 G _) tyX2 tyX2_ok nmX2 (by decide) kf_X2_15 rfl (by decide +kernel) (Nat.le_of_ble_eq_true rfl) dX2_put_26 (fun H locs hh => ?_)
  refine f_vret X hh ?_ dX2_put_29
  refine ⟨⟨mset_ss, hn, fun i hi => ?_, fun i hi => ?_⟩, fun k9 h1 h2 => ?_⟩
  · rw [mset_n (by omega)]
    by_cases e9 : i = n
    · subst e9; rw [mset_ss]; simp
    · rw [mset_sn e9, hw.2.2.1 i (by omega)]; simp [e9]
  · by_cases e9 : i = n
    · simp [e9]; exact hx
    · simp [e9]; exact hw.2.2.2 i (by omega)
  · rw [mset_n h1, mset_n h2]
set_option maxHeartbeats 4000000 in
set_option maxRecDepth 100000 in
theorem c_pclear (l : Launch) (G : GG) {σ : Mem}   : Cv l G yX2_clear cX2_clear 1 0 0 [.ref (gad G 83)] σ (fun τ => τ = mset σ 83 1 (nI 0)) := by
  refine Cv.of (own := RX2) (by decide) rfl (Nat.le_of_ble_eq_true rfl) (fun p e s m args below meth c ls H locs X hl hh => ?_)
  have hl : lv_has ls 1 [(0, .ref (gad G 83))] := hl
  refine lv_aload_n X.x X.b dX2_clear_0 rfl (lv_at hl 0 rfl) ?_
  refine lv_iconst (v := nI 0) X.x X.b dX2_clear_1 (by decide) ?_
  refine f_put X hh (x := nI 0) (sh_83 G _) (by decide) rfl in_X2 1 (sh_83 G _) tyX2 tyX2_ok nmX2 (by decide) kf_X2_15 rfl (by decide +kernel) (Nat.le_of_ble_eq_true rfl) dX2_clear_2 (fun H locs hh => ?_)
  exact f_vret X hh rfl dX2_clear_5
theorem pd_clear {σ : Mem} {g : Nat → Nat} : PD (mset σ 83 1 (nI 0)) 0 g := ⟨mset_ss, by decide, fun i hi => absurd hi (Nat.not_lt_zero _), fun i hi => absurd hi (Nat.not_lt_zero _)⟩
set_option maxHeartbeats 4000000 in
set_option maxRecDepth 100000 in
theorem c_faultAsLine (l : Launch) (G : GG) {σ : Mem} {n : Nat} {g : Nat → Nat} (hw : PD σ n g) : Ci l G yX2_faultAsLine cX2_faultAsLine 4 (some .int) 1 22 [.ref (gad G 83)] σ (fun r τ => r = lans g n ∧ τ = σ) := by
  refine Ci.of (own := RX2) (by decide) rfl (Nat.le_of_ble_eq_true rfl) (fun p e s m args below meth c ls H locs X hl hh => ?_)
  have hn := hw.2.1
  have hg := hw.2.2.2
  have lp : ∀ (k i u : Nat), (∀ j, j < i → okL g j = true) → (u = 0 ∧ may g i = false ∨ u = 1 ∧ may g i = true) → n - i = k → i ≤ n → ∀ (ls : Array Slot) (H : Heap) (locs : List Loc), lv_has ls 4 [(3, .int (nI i)), (2, .int (nI u)), (1, .int (nI (rdn g i))), (0, .ref (gad G 83))] → HH G s σ H locs → WI l G p e s m args below meth c 1 22 (fun r τ => r = lans g n ∧ τ = σ) H locs (F0 m 6 ls []) := by
    intro km
    induction km using Nat.strongRecOn with
    | ind km ih =>
      intro i u ho hu hk hi ls H locs hl hh
      have hc := rdn_le g i
      rcases hu with ⟨rfl, hm⟩ | ⟨rfl, hm⟩
      · have hg2 := hg i
        refine lv_iload_n X.x X.b dX2_faultAsLine_6 rfl (lv_at hl 0 rfl) ?_
        refine lv_aload_n X.x X.b dX2_faultAsLine_7 rfl (lv_at hl 3 rfl) ?_
        refine f_geti X hh (x := nI n) (sh_83 G _) (by decide) rfl in_X2 1 (by decide) kf_X2_15 rfl hw.1 dX2_faultAsLine_8 ?_
        refine lv_icmp_ge (tgt := 72) X.x X.b dX2_faultAsLine_11 (by decide) (fun c_1 => ?_) (fun c_1 => ?_)
        · have c_1 : n ≤ i := (nI_leI (a := n) (b := i) (by omega) (by omega)).mp c_1
          refine lv_bipush (v := (-6)) X.x X.b dX2_faultAsLine_72 (by decide) ?_
          exact f_iret X hh ⟨by unfold lans; rw [ffst_n (fun j hj => ho j (by omega))], rfl⟩ dX2_faultAsLine_74
        · have c_1 : ¬ n ≤ i := fun q9 => c_1 ((nI_leI (a := n) (b := i) (by omega) (by omega)).mpr q9)
          refine lv_iload_n X.x X.b dX2_faultAsLine_14 rfl (lv_at hl 1 rfl) ?_
          refine lv_if_eq (tgt := 34) X.x X.b dX2_faultAsLine_15 (by decide) (fun _ => ?_) (fun h9 => absurd (show _ by decide) h9)
          refine lv_iload_n X.x X.b dX2_faultAsLine_34 rfl (lv_at hl 2 rfl) ?_
          refine lv_bipush (v := nI 9) X.x X.b dX2_faultAsLine_35 (by decide) ?_
          refine lv_icmp_ge (tgt := 64) X.x X.b dX2_faultAsLine_37 (by decide) (fun c_3 => ?_) (fun c_3 => ?_)
          · have c_3 : 9 ≤ (rdn g i) := (nI_leI (a := 9) (b := (rdn g i)) (by omega) (by omega)).mp c_3
            refine lv_iload_n X.x X.b dX2_faultAsLine_64 rfl (lv_at hl 0 rfl) ?_
            exact f_iret X hh ⟨by unfold lans; rw [ffst_s (j := i) (by simp [okL, figL, hm]; omega) ho (by omega)], rfl⟩ dX2_faultAsLine_65
          · have c_3 : ¬ 9 ≤ (rdn g i) := fun q9 => c_3 ((nI_leI (a := 9) (b := (rdn g i)) (by omega) (by omega)).mpr q9)
            refine lv_aload_n X.x X.b dX2_faultAsLine_40 rfl (lv_at hl 3 rfl) ?_
            refine f_get X hh (v := .ref (gad G 84)) (sh_83 G _) (by decide) rfl in_X2 0 (by decide) kf_X2_9 rfl dX2_faultAsLine_41 ?_
            refine lv_iload_n X.x X.b dX2_faultAsLine_44 rfl (lv_at hl 0 rfl) ?_
            refine f_ialdx X hh (j := i) (y := nI (g i)) (sh_84 G _) (by decide) rfl (by omega) (by decide) (hw.2.2.1 _ (by omega)) dX2_faultAsLine_45 ?_
            refine lv_bipush (v := nI 48) X.x X.b dX2_faultAsLine_46 (by decide) ?_
            refine lv_bipush (v := nI 50) X.x X.b dX2_faultAsLine_48 (by decide) ?_
            refine f_ncalli X hh (c_within l G (g i) 48 50 (by omega) (by omega) (by omega)) mf_yX4_isWithin ks_yX4_isWithin X.2.2.2.2.2.2.2.1 rfl hl.1 [] rfl (Nat.le_of_ble_eq_true rfl) ⟨by decide, by decide⟩ ⟨Nat.zero_le _, Nat.zero_le _⟩ dX2_faultAsLine_50 (fun r τ H locs hq hh => ?_)
            obtain ⟨rfl, hτ⟩ := hq
            rw [hτ] at hh
            clear hτ
            by_cases c_4 : 48 ≤ (g i) ∧ (g i) ≤ 50
            · rw [show (if 48 ≤ (g i) ∧ (g i) ≤ 50 then (1 : Int32) else 0) = 1 from if_pos c_4]
              refine lv_if_eq (tgt := 64) X.x X.b dX2_faultAsLine_53 (by decide) (fun h9 => absurd h9 (by decide)) (fun _ => ?_)
              refine lv_iinc (v := nI (rdn g i + 1)) (lv' := [(1, .int (nI (rdn g i + 1))), (3, .int (nI i)), (2, .int (nI 0)), (0, .ref (gad G 83))]) X.x X.b dX2_faultAsLine_56 hl (k := 2) rfl (nI_1 (rdn g i)) (by decide) rfl (fun ls hl => ?_)
              refine lv_iconst (v := nI 1) X.x X.b dX2_faultAsLine_59 (by decide) ?_
              refine lv_istore_n (lv' := [(2, .int (nI 1)), (1, .int (nI (rdn g i + 1))), (3, .int (nI i)), (0, .ref (gad G 83))]) X.x X.b dX2_faultAsLine_60 rfl hl (by decide) rfl (fun ls hl => ?_)
              refine lv_goto (tgt := 66) X.x X.b dX2_faultAsLine_61 (by decide) ?_
              refine lv_iinc (v := nI (i + 1)) (lv' := [(3, .int (nI (i + 1))), (2, .int (nI 1)), (1, .int (nI (rdn g i + 1))), (0, .ref (gad G 83))]) X.x X.b dX2_faultAsLine_66 hl (k := 2) rfl (nI_1 i) (by decide) rfl (fun ls hl => ?_)
              refine lv_goto (tgt := 6) X.x X.b dX2_faultAsLine_69 (by decide) ?_
              refine ih (n - (i + 1)) (by omega) (i + 1) 1 (fun j hj => ?_) ?_ rfl (by omega) ls H locs ?_ hh
              · by_cases e9 : j = i
                · subst e9; simp [okL, figL, hm]; omega
                · exact ho j (by omega)
              · simp [may]; omega
              · have e8 : rdn g (i + 1) = rdn g i + 1 := by show (if g i = 45 then rdn g i else rdn g i + 1) = _; split <;> omega
                rw [e8]; exact lv_sub hl [0, 1, 2, 3] rfl
            · rw [show (if 48 ≤ (g i) ∧ (g i) ≤ 50 then (1 : Int32) else 0) = 0 from if_neg c_4]
              refine lv_if_eq (tgt := 64) X.x X.b dX2_faultAsLine_53 (by decide) (fun _ => ?_) (fun h9 => absurd (show _ by decide) h9)
              refine lv_iload_n X.x X.b dX2_faultAsLine_64 rfl (lv_at hl 0 rfl) ?_
              exact f_iret X hh ⟨by unfold lans; rw [ffst_s (j := i) (by simp [okL, figL, hm]; omega) ho (by omega)], rfl⟩ dX2_faultAsLine_65
      · have hg2 := hg i
        refine lv_iload_n X.x X.b dX2_faultAsLine_6 rfl (lv_at hl 0 rfl) ?_
        refine lv_aload_n X.x X.b dX2_faultAsLine_7 rfl (lv_at hl 3 rfl) ?_
        refine f_geti X hh (x := nI n) (sh_83 G _) (by decide) rfl in_X2 1 (by decide) kf_X2_15 rfl hw.1 dX2_faultAsLine_8 ?_
        refine lv_icmp_ge (tgt := 72) X.x X.b dX2_faultAsLine_11 (by decide) (fun c_7 => ?_) (fun c_7 => ?_)
        · have c_7 : n ≤ i := (nI_leI (a := n) (b := i) (by omega) (by omega)).mp c_7
          refine lv_bipush (v := (-6)) X.x X.b dX2_faultAsLine_72 (by decide) ?_
          exact f_iret X hh ⟨by unfold lans; rw [ffst_n (fun j hj => ho j (by omega))], rfl⟩ dX2_faultAsLine_74
        · have c_7 : ¬ n ≤ i := fun q9 => c_7 ((nI_leI (a := n) (b := i) (by omega) (by omega)).mpr q9)
          refine lv_iload_n X.x X.b dX2_faultAsLine_14 rfl (lv_at hl 1 rfl) ?_
          refine lv_if_eq (tgt := 34) X.x X.b dX2_faultAsLine_15 (by decide) (fun h9 => absurd h9 (by decide)) (fun _ => ?_)
          refine lv_aload_n X.x X.b dX2_faultAsLine_18 rfl (lv_at hl 3 rfl) ?_
          refine f_get X hh (v := .ref (gad G 84)) (sh_83 G _) (by decide) rfl in_X2 0 (by decide) kf_X2_9 rfl dX2_faultAsLine_19 ?_
          refine lv_iload_n X.x X.b dX2_faultAsLine_22 rfl (lv_at hl 0 rfl) ?_
          refine f_ialdx X hh (j := i) (y := nI (g i)) (sh_84 G _) (by decide) rfl (by omega) (by decide) (hw.2.2.1 _ (by omega)) dX2_faultAsLine_23 ?_
          refine lv_bipush (v := nI 45) X.x X.b dX2_faultAsLine_24 (by decide) ?_
          refine lv_icmp_ne (tgt := 34) X.x X.b dX2_faultAsLine_26 (by decide) (fun c_9 => ?_) (fun c_9 => ?_)
          · have c_9 : ¬ (g i) = 45 := fun q9 => c_9 ((nI_eq (a := (g i)) (b := 45) (by omega) (by omega)).mpr q9)
            refine lv_iload_n X.x X.b dX2_faultAsLine_34 rfl (lv_at hl 2 rfl) ?_
            refine lv_bipush (v := nI 9) X.x X.b dX2_faultAsLine_35 (by decide) ?_
            refine lv_icmp_ge (tgt := 64) X.x X.b dX2_faultAsLine_37 (by decide) (fun c_10 => ?_) (fun c_10 => ?_)
            · have c_10 : 9 ≤ (rdn g i) := (nI_leI (a := 9) (b := (rdn g i)) (by omega) (by omega)).mp c_10
              refine lv_iload_n X.x X.b dX2_faultAsLine_64 rfl (lv_at hl 0 rfl) ?_
              exact f_iret X hh ⟨by unfold lans; rw [ffst_s (j := i) (by simp [okL, figL, hm]; omega) ho (by omega)], rfl⟩ dX2_faultAsLine_65
            · have c_10 : ¬ 9 ≤ (rdn g i) := fun q9 => c_10 ((nI_leI (a := 9) (b := (rdn g i)) (by omega) (by omega)).mpr q9)
              refine lv_aload_n X.x X.b dX2_faultAsLine_40 rfl (lv_at hl 3 rfl) ?_
              refine f_get X hh (v := .ref (gad G 84)) (sh_83 G _) (by decide) rfl in_X2 0 (by decide) kf_X2_9 rfl dX2_faultAsLine_41 ?_
              refine lv_iload_n X.x X.b dX2_faultAsLine_44 rfl (lv_at hl 0 rfl) ?_
              refine f_ialdx X hh (j := i) (y := nI (g i)) (sh_84 G _) (by decide) rfl (by omega) (by decide) (hw.2.2.1 _ (by omega)) dX2_faultAsLine_45 ?_
              refine lv_bipush (v := nI 48) X.x X.b dX2_faultAsLine_46 (by decide) ?_
              refine lv_bipush (v := nI 50) X.x X.b dX2_faultAsLine_48 (by decide) ?_
              refine f_ncalli X hh (c_within l G (g i) 48 50 (by omega) (by omega) (by omega)) mf_yX4_isWithin ks_yX4_isWithin X.2.2.2.2.2.2.2.1 rfl hl.1 [] rfl (Nat.le_of_ble_eq_true rfl) ⟨by decide, by decide⟩ ⟨Nat.zero_le _, Nat.zero_le _⟩ dX2_faultAsLine_50 (fun r τ H locs hq hh => ?_)
              obtain ⟨rfl, hτ⟩ := hq
              rw [hτ] at hh
              clear hτ
              by_cases c_11 : 48 ≤ (g i) ∧ (g i) ≤ 50
              · rw [show (if 48 ≤ (g i) ∧ (g i) ≤ 50 then (1 : Int32) else 0) = 1 from if_pos c_11]
                refine lv_if_eq (tgt := 64) X.x X.b dX2_faultAsLine_53 (by decide) (fun h9 => absurd h9 (by decide)) (fun _ => ?_)
                refine lv_iinc (v := nI (rdn g i + 1)) (lv' := [(1, .int (nI (rdn g i + 1))), (3, .int (nI i)), (2, .int (nI 1)), (0, .ref (gad G 83))]) X.x X.b dX2_faultAsLine_56 hl (k := 2) rfl (nI_1 (rdn g i)) (by decide) rfl (fun ls hl => ?_)
                refine lv_iconst (v := nI 1) X.x X.b dX2_faultAsLine_59 (by decide) ?_
                refine lv_istore_n (lv' := [(2, .int (nI 1)), (1, .int (nI (rdn g i + 1))), (3, .int (nI i)), (0, .ref (gad G 83))]) X.x X.b dX2_faultAsLine_60 rfl hl (by decide) rfl (fun ls hl => ?_)
                refine lv_goto (tgt := 66) X.x X.b dX2_faultAsLine_61 (by decide) ?_
                refine lv_iinc (v := nI (i + 1)) (lv' := [(3, .int (nI (i + 1))), (2, .int (nI 1)), (1, .int (nI (rdn g i + 1))), (0, .ref (gad G 83))]) X.x X.b dX2_faultAsLine_66 hl (k := 2) rfl (nI_1 i) (by decide) rfl (fun ls hl => ?_)
                refine lv_goto (tgt := 6) X.x X.b dX2_faultAsLine_69 (by decide) ?_
                refine ih (n - (i + 1)) (by omega) (i + 1) 1 (fun j hj => ?_) ?_ rfl (by omega) ls H locs ?_ hh
                · by_cases e9 : j = i
                  · subst e9; simp [okL, figL, hm]; omega
                  · exact ho j (by omega)
                · simp [may]; omega
                · have e8 : rdn g (i + 1) = rdn g i + 1 := by show (if g i = 45 then rdn g i else rdn g i + 1) = _; split <;> omega
                  rw [e8]; exact lv_sub hl [0, 1, 2, 3] rfl
              · rw [show (if 48 ≤ (g i) ∧ (g i) ≤ 50 then (1 : Int32) else 0) = 0 from if_neg c_11]
                refine lv_if_eq (tgt := 64) X.x X.b dX2_faultAsLine_53 (by decide) (fun _ => ?_) (fun h9 => absurd (show _ by decide) h9)
                refine lv_iload_n X.x X.b dX2_faultAsLine_64 rfl (lv_at hl 0 rfl) ?_
                exact f_iret X hh ⟨by unfold lans; rw [ffst_s (j := i) (by simp [okL, figL, hm]; omega) ho (by omega)], rfl⟩ dX2_faultAsLine_65
          · have c_9 : (g i) = 45 := (nI_eq (a := (g i)) (b := 45) (by omega) (by omega)).mp c_9
            refine lv_iconst (v := nI 0) X.x X.b dX2_faultAsLine_29 (by decide) ?_
            refine lv_istore_n (lv' := [(2, .int (nI 0)), (3, .int (nI i)), (1, .int (nI (rdn g i))), (0, .ref (gad G 83))]) X.x X.b dX2_faultAsLine_30 rfl hl (by decide) rfl (fun ls hl => ?_)
            refine lv_goto (tgt := 66) X.x X.b dX2_faultAsLine_31 (by decide) ?_
            refine lv_iinc (v := nI (i + 1)) (lv' := [(3, .int (nI (i + 1))), (2, .int (nI 0)), (1, .int (nI (rdn g i))), (0, .ref (gad G 83))]) X.x X.b dX2_faultAsLine_66 hl (k := 1) rfl (nI_1 i) (by decide) rfl (fun ls hl => ?_)
            refine lv_goto (tgt := 6) X.x X.b dX2_faultAsLine_69 (by decide) ?_
            refine ih (n - (i + 1)) (by omega) (i + 1) 0 (fun j hj => ?_) ?_ rfl (by omega) ls H locs ?_ hh
            · by_cases e9 : j = i
              · subst e9; simp [okL, figL, hm]; omega
              · exact ho j (by omega)
            · simp [may]; omega
            · have e8 : rdn g (i + 1) = rdn g i := by show (if g i = 45 then rdn g i else rdn g i + 1) = _; split <;> omega
              rw [e8]; exact lv_sub hl [0, 1, 2, 3] rfl
  have hl : lv_has ls 4 [(0, .ref (gad G 83))] := hl
  refine lv_iconst (v := nI 0) X.x X.b dX2_faultAsLine_0 (by decide) ?_
  refine lv_istore_n (lv' := [(1, .int (nI 0)), (0, .ref (gad G 83))]) X.x X.b dX2_faultAsLine_1 rfl hl (by decide) rfl (fun ls hl => ?_)
  refine lv_iconst (v := nI 0) X.x X.b dX2_faultAsLine_2 (by decide) ?_
  refine lv_istore_n (lv' := [(2, .int (nI 0)), (1, .int (nI 0)), (0, .ref (gad G 83))]) X.x X.b dX2_faultAsLine_3 rfl hl (by decide) rfl (fun ls hl => ?_)
  refine lv_iconst (v := nI 0) X.x X.b dX2_faultAsLine_4 (by decide) ?_
  refine lv_istore_n (lv' := [(3, .int (nI 0)), (2, .int (nI 0)), (1, .int (nI 0)), (0, .ref (gad G 83))]) X.x X.b dX2_faultAsLine_5 rfl hl (by decide) rfl (fun ls hl => ?_)
  exact lp n 0 0 (fun j hj => absurd hj (Nat.not_lt_zero _)) (Or.inl ⟨rfl, rfl⟩) rfl (by omega) ls H locs (lv_sub hl [0, 1, 2, 3] rfl) hh
set_option maxHeartbeats 4000000 in
set_option maxRecDepth 100000 in
theorem c_faultAsTune (l : Launch) (G : GG) {σ : Mem} {n : Nat} {g : Nat → Nat} (hw : PD σ n g) : Ci l G yX2_faultAsTune cX2_faultAsTune 4 (some .int) 1 22 [.ref (gad G 83)] σ (fun r τ => r = tans g n ∧ τ = σ) := by
  refine Ci.of (own := RX2) (by decide) rfl (Nat.le_of_ble_eq_true rfl) (fun p e s m args below meth c ls H locs X hl hh => ?_)
  have hn := hw.2.1
  have hg := hw.2.2.2
  have lp : ∀ (k i : Nat), (∀ j, j < i → okT g j = true) → n - i = k → i ≤ n → ∀ (ls : Array Slot) (H : Heap) (locs : List Loc), lv_has ls 4 [(1, .int (nI i)), (0, .ref (gad G 83))] → HH G s σ H locs → WI l G p e s m args below meth c 1 22 (fun r τ => r = tans g n ∧ τ = σ) H locs (F0 m 2 ls []) := by
    intro km
    induction km using Nat.strongRecOn with
    | ind km ih =>
      intro i ho hk hi ls H locs hl hh
      have hg2 := hg i
      refine lv_iload_n X.x X.b dX2_faultAsTune_2 rfl (lv_at hl 0 rfl) ?_
      refine lv_aload_n X.x X.b dX2_faultAsTune_3 rfl (lv_at hl 1 rfl) ?_
      refine f_geti X hh (x := nI n) (sh_83 G _) (by decide) rfl in_X2 1 (by decide) kf_X2_15 rfl hw.1 dX2_faultAsTune_4 ?_
      refine lv_icmp_ge (tgt := 68) X.x X.b dX2_faultAsTune_7 (by decide) (fun c_1 => ?_) (fun c_1 => ?_)
      · have c_1 : n ≤ i := (nI_leI (a := n) (b := i) (by omega) (by omega)).mp c_1
        refine lv_aload_n X.x X.b dX2_faultAsTune_68 rfl (lv_at hl 1 rfl) ?_
        refine f_geti X hh (x := nI n) (sh_83 G _) (by decide) rfl in_X2 1 (by decide) kf_X2_15 rfl hw.1 dX2_faultAsTune_69 ?_
        refine lv_iconst (v := nI 2) X.x X.b dX2_faultAsTune_72 (by decide) ?_
        refine f_irem X (z := nI (n % 2)) (by decide) (pk_rem (a := n) (d := 2) (by omega) (by decide) (by decide)) dX2_faultAsTune_73 ?_
        refine lv_if_ne (tgt := 82) X.x X.b dX2_faultAsTune_74 (by decide) (fun c_2 => ?_) (fun c_2 => ?_)
        · have c_2 : ¬ (n % 2) = 0 := fun q9 => c_2 ((nI_eq (a := (n % 2)) (b := 0) (by omega) (by omega)).mpr q9)
          refine lv_aload_n X.x X.b dX2_faultAsTune_82 rfl (lv_at hl 1 rfl) ?_
          refine f_geti X hh (x := nI n) (sh_83 G _) (by decide) rfl in_X2 1 (by decide) kf_X2_15 rfl hw.1 dX2_faultAsTune_83 ?_
          exact f_iret X hh ⟨by unfold tans; rw [ffst_n (fun j hj => ho j (by omega))]; exact (if_neg (by omega)).symm, rfl⟩ dX2_faultAsTune_86
        · have c_2 : (n % 2) = 0 := (nI_eq (a := (n % 2)) (b := 0) (by omega) (by omega)).mp c_2
          refine lv_bipush (v := (-6)) X.x X.b dX2_faultAsTune_77 (by decide) ?_
          refine lv_goto (tgt := 86) X.x X.b dX2_faultAsTune_79 (by decide) ?_
          exact f_iret X hh ⟨by unfold tans; rw [ffst_n (fun j hj => ho j (by omega))]; exact (if_pos (by omega)).symm, rfl⟩ dX2_faultAsTune_86
      · have c_1 : ¬ n ≤ i := fun q9 => c_1 ((nI_leI (a := n) (b := i) (by omega) (by omega)).mpr q9)
        refine lv_iload_n X.x X.b dX2_faultAsTune_10 rfl (lv_at hl 0 rfl) ?_
        refine lv_iconst (v := nI 2) X.x X.b dX2_faultAsTune_11 (by decide) ?_
        refine f_irem X (z := nI (i % 2)) (by decide) (pk_rem (a := i) (d := 2) (by omega) (by decide) (by decide)) dX2_faultAsTune_12 ?_
        refine lv_if_ne (tgt := 20) X.x X.b dX2_faultAsTune_13 (by decide) (fun c_3 => ?_) (fun c_3 => ?_)
        · have c_3 : ¬ (i % 2) = 0 := fun q9 => c_3 ((nI_eq (a := (i % 2)) (b := 0) (by omega) (by omega)).mpr q9)
          refine lv_iconst (v := nI 0) X.x X.b dX2_faultAsTune_20 (by decide) ?_
          refine lv_istore_n (lv' := [(2, .int (nI 0)), (1, .int (nI i)), (0, .ref (gad G 83))]) X.x X.b dX2_faultAsTune_21 rfl hl (by decide) rfl (fun ls hl => ?_)
          refine lv_iload_n X.x X.b dX2_faultAsTune_22 rfl (lv_at hl 0 rfl) ?_
          refine lv_if_eq (tgt := 42) X.x X.b dX2_faultAsTune_23 (by decide) (fun _ => ?_) (fun h9 => absurd (show _ by decide) h9)
          refine lv_aload_n X.x X.b dX2_faultAsTune_42 rfl (lv_at hl 2 rfl) ?_
          refine f_get X hh (v := .ref (gad G 84)) (sh_83 G _) (by decide) rfl in_X2 0 (by decide) kf_X2_9 rfl dX2_faultAsTune_43 ?_
          refine lv_iload_n X.x X.b dX2_faultAsTune_46 rfl (lv_at hl 1 rfl) ?_
          refine f_ialdx X hh (j := i) (y := nI (g i)) (sh_84 G _) (by decide) rfl (by omega) (by decide) (hw.2.2.1 _ (by omega)) dX2_faultAsTune_47 ?_
          refine lv_bipush (v := nI 49) X.x X.b dX2_faultAsTune_48 (by decide) ?_
          refine lv_bipush (v := nI 52) X.x X.b dX2_faultAsTune_50 (by decide) ?_
          refine f_ncalli X hh (c_within l G (g i) 49 52 (by omega) (by omega) (by omega)) mf_yX4_isWithin ks_yX4_isWithin X.2.2.2.2.2.2.2.1 rfl hl.1 [] rfl (Nat.le_of_ble_eq_true rfl) ⟨by decide, by decide⟩ ⟨Nat.zero_le _, Nat.zero_le _⟩ dX2_faultAsTune_52 (fun r τ H locs hq hh => ?_)
          obtain ⟨rfl, hτ⟩ := hq
          rw [hτ] at hh
          clear hτ
          by_cases c_5 : 49 ≤ (g i) ∧ (g i) ≤ 52
          · rw [show (if 49 ≤ (g i) ∧ (g i) ≤ 52 then (1 : Int32) else 0) = 1 from if_pos c_5]
            refine lv_istore_n (lv' := [(3, .int 1), (2, .int (nI 0)), (1, .int (nI i)), (0, .ref (gad G 83))]) X.x X.b dX2_faultAsTune_55 rfl hl (by decide) rfl (fun ls hl => ?_)
            refine lv_iload_n X.x X.b dX2_faultAsTune_56 rfl (lv_at hl 0 rfl) ?_
            refine lv_if_ne (tgt := 62) X.x X.b dX2_faultAsTune_57 (by decide) (fun _ => ?_) (fun h9 => absurd h9 (by decide))
            refine lv_iinc (v := nI (i + 1)) (lv' := [(1, .int (nI (i + 1))), (3, .int 1), (2, .int (nI 0)), (0, .ref (gad G 83))]) X.x X.b dX2_faultAsTune_62 hl (k := 2) rfl (nI_1 i) (by decide) rfl (fun ls hl => ?_)
            refine lv_goto (tgt := 2) X.x X.b dX2_faultAsTune_65 (by decide) ?_
            refine ih (n - (i + 1)) (by omega) (i + 1) (fun j hj => ?_) rfl (by omega) ls H locs (lv_sub hl [0, 3] rfl) hh
            by_cases e9 : j = i
            · subst e9; unfold okT; split <;> simp <;> omega
            · exact ho j (by omega)
          · rw [show (if 49 ≤ (g i) ∧ (g i) ≤ 52 then (1 : Int32) else 0) = 0 from if_neg c_5]
            refine lv_istore_n (lv' := [(3, .int 0), (2, .int (nI 0)), (1, .int (nI i)), (0, .ref (gad G 83))]) X.x X.b dX2_faultAsTune_55 rfl hl (by decide) rfl (fun ls hl => ?_)
            refine lv_iload_n X.x X.b dX2_faultAsTune_56 rfl (lv_at hl 0 rfl) ?_
            refine lv_if_ne (tgt := 62) X.x X.b dX2_faultAsTune_57 (by decide) (fun h9 => absurd (show _ by decide) h9) (fun _ => ?_)
            refine lv_iload_n X.x X.b dX2_faultAsTune_60 rfl (lv_at hl 2 rfl) ?_
            exact f_iret X hh ⟨by unfold tans; rw [ffst_s (j := i) (by unfold okT; split <;> simp <;> omega) ho (by omega)], rfl⟩ dX2_faultAsTune_61
        · have c_3 : (i % 2) = 0 := (nI_eq (a := (i % 2)) (b := 0) (by omega) (by omega)).mp c_3
          refine lv_iconst (v := nI 1) X.x X.b dX2_faultAsTune_16 (by decide) ?_
          refine lv_goto (tgt := 21) X.x X.b dX2_faultAsTune_17 (by decide) ?_
          refine lv_istore_n (lv' := [(2, .int (nI 1)), (1, .int (nI i)), (0, .ref (gad G 83))]) X.x X.b dX2_faultAsTune_21 rfl hl (by decide) rfl (fun ls hl => ?_)
          refine lv_iload_n X.x X.b dX2_faultAsTune_22 rfl (lv_at hl 0 rfl) ?_
          refine lv_if_eq (tgt := 42) X.x X.b dX2_faultAsTune_23 (by decide) (fun h9 => absurd h9 (by decide)) (fun _ => ?_)
          refine lv_aload_n X.x X.b dX2_faultAsTune_26 rfl (lv_at hl 2 rfl) ?_
          refine f_get X hh (v := .ref (gad G 84)) (sh_83 G _) (by decide) rfl in_X2 0 (by decide) kf_X2_9 rfl dX2_faultAsTune_27 ?_
          refine lv_iload_n X.x X.b dX2_faultAsTune_30 rfl (lv_at hl 1 rfl) ?_
          refine f_ialdx X hh (j := i) (y := nI (g i)) (sh_84 G _) (by decide) rfl (by omega) (by decide) (hw.2.2.1 _ (by omega)) dX2_faultAsTune_31 ?_
          refine lv_bipush (v := nI 48) X.x X.b dX2_faultAsTune_32 (by decide) ?_
          refine lv_bipush (v := nI 50) X.x X.b dX2_faultAsTune_34 (by decide) ?_
          refine f_ncalli X hh (c_within l G (g i) 48 50 (by omega) (by omega) (by omega)) mf_yX4_isWithin ks_yX4_isWithin X.2.2.2.2.2.2.2.1 rfl hl.1 [] rfl (Nat.le_of_ble_eq_true rfl) ⟨by decide, by decide⟩ ⟨Nat.zero_le _, Nat.zero_le _⟩ dX2_faultAsTune_36 (fun r τ H locs hq hh => ?_)
          obtain ⟨rfl, hτ⟩ := hq
          rw [hτ] at hh
          clear hτ
          by_cases c_9 : 48 ≤ (g i) ∧ (g i) ≤ 50
          · rw [show (if 48 ≤ (g i) ∧ (g i) ≤ 50 then (1 : Int32) else 0) = 1 from if_pos c_9]
            refine lv_goto (tgt := 55) X.x X.b dX2_faultAsTune_39 (by decide) ?_
            refine lv_istore_n (lv' := [(3, .int 1), (2, .int (nI 1)), (1, .int (nI i)), (0, .ref (gad G 83))]) X.x X.b dX2_faultAsTune_55 rfl hl (by decide) rfl (fun ls hl => ?_)
            refine lv_iload_n X.x X.b dX2_faultAsTune_56 rfl (lv_at hl 0 rfl) ?_
            refine lv_if_ne (tgt := 62) X.x X.b dX2_faultAsTune_57 (by decide) (fun _ => ?_) (fun h9 => absurd h9 (by decide))
            refine lv_iinc (v := nI (i + 1)) (lv' := [(1, .int (nI (i + 1))), (3, .int 1), (2, .int (nI 1)), (0, .ref (gad G 83))]) X.x X.b dX2_faultAsTune_62 hl (k := 2) rfl (nI_1 i) (by decide) rfl (fun ls hl => ?_)
            refine lv_goto (tgt := 2) X.x X.b dX2_faultAsTune_65 (by decide) ?_
            refine ih (n - (i + 1)) (by omega) (i + 1) (fun j hj => ?_) rfl (by omega) ls H locs (lv_sub hl [0, 3] rfl) hh
            by_cases e9 : j = i
            · subst e9; unfold okT; split <;> simp <;> omega
            · exact ho j (by omega)
          · rw [show (if 48 ≤ (g i) ∧ (g i) ≤ 50 then (1 : Int32) else 0) = 0 from if_neg c_9]
            refine lv_goto (tgt := 55) X.x X.b dX2_faultAsTune_39 (by decide) ?_
            refine lv_istore_n (lv' := [(3, .int 0), (2, .int (nI 1)), (1, .int (nI i)), (0, .ref (gad G 83))]) X.x X.b dX2_faultAsTune_55 rfl hl (by decide) rfl (fun ls hl => ?_)
            refine lv_iload_n X.x X.b dX2_faultAsTune_56 rfl (lv_at hl 0 rfl) ?_
            refine lv_if_ne (tgt := 62) X.x X.b dX2_faultAsTune_57 (by decide) (fun h9 => absurd (show _ by decide) h9) (fun _ => ?_)
            refine lv_iload_n X.x X.b dX2_faultAsTune_60 rfl (lv_at hl 2 rfl) ?_
            exact f_iret X hh ⟨by unfold tans; rw [ffst_s (j := i) (by unfold okT; split <;> simp <;> omega) ho (by omega)], rfl⟩ dX2_faultAsTune_61
  have hl : lv_has ls 4 [(0, .ref (gad G 83))] := hl
  refine lv_iconst (v := nI 0) X.x X.b dX2_faultAsTune_0 (by decide) ?_
  refine lv_istore_n (lv' := [(1, .int (nI 0)), (0, .ref (gad G 83))]) X.x X.b dX2_faultAsTune_1 rfl hl (by decide) rfl (fun ls hl => ?_)
  exact lp n 0 (fun j hj => absurd hj (Nat.not_lt_zero _)) rfl (by omega) ls H locs (lv_sub hl [0, 1] rfl) hh
theorem okL_ne {g : Nat → Nat} {k : Nat} (h : okL g k = true) (hn : g k ≠ 45) : rdn g k < 9 ∧ 48 ≤ g k ∧ g k ≤ 50 := by
  simp [okL, figL, hn] at h
  omega
theorem PD.keep {σ τ : Mem} {n : Nat} {g : Nat → Nat} (h : PD σ n g) (h1 : τ 83 = σ 83) (h2 : τ 84 = σ 84) : PD τ n g := ⟨by rw [h1]; exact h.1, h.2.1, fun i hi => by rw [h2]; exact h.2.2.1 i hi, h.2.2.2⟩
set_option maxHeartbeats 4000000 in
set_option maxRecDepth 100000 in
theorem c_readLine (l : Launch) (G : GG) {σ : Mem} {n r : Nat} {g : Nat → Nat} (hr : r < 23) (hw : PD σ n g) (hok : ∀ j, j < n → okL g j = true) : Cv l G yX2_readLine cX2_readLine 3 1 22 [.ref (gad G 83), .ref (gad G (3 * r))] σ (fun τ => RW τ r (rdn g n) (rdw g n) (rdz g n) ∧ Frr r σ τ) := by
  refine Cv.of (own := RX2) (by decide) rfl (Nat.le_of_ble_eq_true rfl) (fun p e s m args below meth c ls H locs X hl hh => ?_)
  have hn := hw.2.1
  have hg := hw.2.2.2
  have hrg := room_ge r
  have lp : ∀ (k i : Nat), n - i = k → i ≤ n → ∀ (υ : Mem), RW υ r (rdn g i) (rdw g i) (rdz g i) → Frr r σ υ → ∀ (ls : Array Slot) (H : Heap) (locs : List Loc), lv_has ls 3 [(2, .int (nI i)), (0, .ref (gad G 83)), (1, .ref (gad G (3 * r)))] → HH G s υ H locs → WV l G p e s m args below meth c 1 22 (fun τ => RW τ r (rdn g n) (rdw g n) (rdz g n) ∧ Frr r σ τ) H locs (F0 m 6 ls []) := by
    intro km
    induction km using Nat.strongRecOn with
    | ind km ih =>
      intro i hk hi υ hv hf ls H locs hl hh
      have hg2 := hg i
      have hp : PD υ n g := hw.keep (hf _ (by omega)) (hf _ (by omega))
      have hc := rdn_ok (g := g) (k := i) (fun j hj => hok j (by omega))
      refine lv_iload_n X.x X.b dX2_readLine_6 rfl (lv_at hl 0 rfl) ?_
      refine lv_aload_n X.x X.b dX2_readLine_7 rfl (lv_at hl 1 rfl) ?_
      refine f_geti X hh (x := nI n) (sh_83 G _) (by decide) rfl in_X2 1 (by decide) kf_X2_15 rfl hp.1 dX2_readLine_8 ?_
      refine lv_icmp_ge (tgt := 52) X.x X.b dX2_readLine_11 (by decide) (fun c_1 => ?_) (fun c_1 => ?_)
      · have c_1 : n ≤ i := (nI_leI (a := n) (b := i) (by omega) (by omega)).mp c_1
        exact f_vret X hh (by obtain rfl : i = n := (by omega); exact ⟨hv, hf⟩) dX2_readLine_52
      · have c_1 : ¬ n ≤ i := fun q9 => c_1 ((nI_leI (a := n) (b := i) (by omega) (by omega)).mpr q9)
        refine lv_aload_n X.x X.b dX2_readLine_14 rfl (lv_at hl 1 rfl) ?_
        refine f_get X hh (v := .ref (gad G 84)) (sh_83 G _) (by decide) rfl in_X2 0 (by decide) kf_X2_9 rfl dX2_readLine_15 ?_
        refine lv_iload_n X.x X.b dX2_readLine_18 rfl (lv_at hl 0 rfl) ?_
        refine f_ialdx X hh (j := i) (y := nI (g i)) (sh_84 G _) (by decide) rfl (by omega) (by decide) (hp.2.2.1 _ (by omega)) dX2_readLine_19 ?_
        refine lv_bipush (v := nI 45) X.x X.b dX2_readLine_20 (by decide) ?_
        refine lv_icmp_ne (tgt := 32) X.x X.b dX2_readLine_22 (by decide) (fun c_2 => ?_) (fun c_2 => ?_)
        · have c_2 : ¬ (g i) = 45 := fun q9 => c_2 ((nI_eq (a := (g i)) (b := 45) (by omega) (by omega)).mpr q9)
          have hfig := okL_ne (hok i (by omega)) (by omega)
          refine lv_aload_n X.x X.b dX2_readLine_32 rfl (lv_at hl 2 rfl) ?_
          refine lv_aload_n X.x X.b dX2_readLine_33 rfl (lv_at hl 1 rfl) ?_
          refine f_get X hh (v := .ref (gad G 84)) (sh_83 G _) (by decide) rfl in_X2 0 (by decide) kf_X2_9 rfl dX2_readLine_34 ?_
          refine lv_iload_n X.x X.b dX2_readLine_37 rfl (lv_at hl 0 rfl) ?_
          refine f_ialdx X hh (j := i) (y := nI (g i)) (sh_84 G _) (by decide) rfl (by omega) (by decide) (hp.2.2.1 _ (by omega)) dX2_readLine_38 ?_
          refine lv_bipush (v := nI 48) X.x X.b dX2_readLine_39 (by decide) ?_
          refine f_isub X (z := nI (g i - 48)) (pk_sub (a := g i) (b := 48) (by omega)) dX2_readLine_41 ?_
          refine lv_iconst (v := nI 0) X.x X.b dX2_readLine_42 (by decide) ?_
          refine f_callv X hh (c_add l G (a := g i - 48) (b := 0) hr hv (by omega)) mf_yX3_add ki_yX3_add kl_yX3_add km_X2_31 (sh_row G (r := r) (by omega) _) (by omega) rfl rfl hl.1 [] rfl (Nat.le_of_ble_eq_true rfl) ⟨by decide, by decide⟩ ⟨Nat.zero_le _, Nat.zero_le _⟩ dX2_readLine_43 (fun τ H locs hq hh => ?_)
          obtain ⟨hv3, hf3⟩ := hq
          have hv4 : RW τ r (rdn g (i + 1)) (rdw g (i + 1)) (rdz g (i + 1)) := by
            have e1 : rdn g (i + 1) = rdn g i + 1 := by show (if g i = 45 then rdn g i else rdn g i + 1) = _; rw [if_neg (by omega)]
            rw [e1]
            refine hv3.ext (fun j hj => ?_) (fun j hj => ?_)
            · show (if g i = 45 then rdw g i else fun i_1 => if i_1 = rdn g i then g i - 48 else rdw g i i_1) j = _; rw [if_neg (by omega)]
            · show (if g i = 45 then (fun i_1 => if i_1 + 1 = rdn g i then 1 else rdz g i i_1) else fun i_1 => if i_1 = rdn g i then 0 else rdz g i i_1) j = _; rw [if_neg (by omega)]
          refine lv_iinc (v := nI (i + 1)) (lv' := [(2, .int (nI (i + 1))), (0, .ref (gad G 83)), (1, .ref (gad G (3 * r)))]) X.x X.b dX2_readLine_46 hl (k := 0) rfl (nI_1 i) (by decide) rfl (fun ls hl => ?_)
          refine lv_goto (tgt := 6) X.x X.b dX2_readLine_49 (by decide) ?_
          exact ih (n - (i + 1)) (by omega) (i + 1) rfl (by omega) _ hv4 (hf.tr hf3) ls H locs (lv_sub hl [0, 1, 2] rfl) hh
        · have c_2 : (g i) = 45 := (nI_eq (a := (g i)) (b := 45) (by omega) (by omega)).mp c_2
          refine lv_aload_n X.x X.b dX2_readLine_25 rfl (lv_at hl 2 rfl) ?_
          obtain ⟨N9, hN9⟩ : ∃ N9, rdn g i = N9 + 1 := ⟨rdn g i - 1, by have := rdn_pos (g := g) (k := i) (fun j hj => hok j (by omega)) (by intro e9; subst e9; have := hok 0 (by omega); simp [okL, figL, may] at this; omega); omega⟩
          rw [hN9] at hv
          refine f_callv X hh (c_lengthenLast l G hr hv) mf_yX3_lengthenLast ki_yX3_lengthenLast kl_yX3_lengthenLast km_X2_28 (sh_row G (r := r) (by omega) _) (by omega) rfl rfl hl.1 [] rfl (Nat.le_of_ble_eq_true rfl) ⟨by decide, by decide⟩ ⟨Nat.zero_le _, Nat.zero_le _⟩ dX2_readLine_26 (fun τ H locs hq hh => ?_)
          obtain ⟨hv3, hf3⟩ := hq
          have hv4 : RW τ r (rdn g (i + 1)) (rdw g (i + 1)) (rdz g (i + 1)) := by
            have e1 : rdn g (i + 1) = N9 + 1 := by show (if g i = 45 then rdn g i else rdn g i + 1) = _; rw [if_pos (by omega)]; exact hN9
            rw [e1]
            refine hv3.ext (fun j hj => ?_) (fun j hj => ?_)
            · show (if g i = 45 then rdw g i else fun i_1 => if i_1 = rdn g i then g i - 48 else rdw g i i_1) j = _; rw [if_pos (by omega)]
            · show (if g i = 45 then (fun i_1 => if i_1 + 1 = rdn g i then 1 else rdz g i i_1) else fun i_1 => if i_1 = rdn g i then 0 else rdz g i i_1) j = _; rw [if_pos (by omega)]; simp only [hN9, Nat.add_right_cancel_iff]
          refine lv_goto (tgt := 46) X.x X.b dX2_readLine_29 (by decide) ?_
          refine lv_iinc (v := nI (i + 1)) (lv' := [(2, .int (nI (i + 1))), (0, .ref (gad G 83)), (1, .ref (gad G (3 * r)))]) X.x X.b dX2_readLine_46 hl (k := 0) rfl (nI_1 i) (by decide) rfl (fun ls hl => ?_)
          refine lv_goto (tgt := 6) X.x X.b dX2_readLine_49 (by decide) ?_
          exact ih (n - (i + 1)) (by omega) (i + 1) rfl (by omega) _ hv4 (hf.tr hf3) ls H locs (lv_sub hl [0, 1, 2] rfl) hh
  have hl : lv_has ls 3 [(0, .ref (gad G 83)), (1, .ref (gad G (3 * r)))] := hl
  refine lv_aload_n X.x X.b dX2_readLine_0 rfl (lv_at hl 1 rfl) ?_
  refine f_callv X hh (c_clear l G hr) mf_yX3_clear ki_yX3_clear kl_yX3_clear km_X2_23 (sh_row G (r := r) (by omega) _) (by omega) rfl rfl hl.1 [] rfl (Nat.le_of_ble_eq_true rfl) ⟨by decide, by decide⟩ ⟨Nat.zero_le _, Nat.zero_le _⟩ dX2_readLine_1 (fun τ H locs hq hh => ?_)
  subst hq
  refine lv_iconst (v := nI 0) X.x X.b dX2_readLine_4 (by decide) ?_
  refine lv_istore_n (lv' := [(2, .int (nI 0)), (0, .ref (gad G 83)), (1, .ref (gad G (3 * r)))]) X.x X.b dX2_readLine_5 rfl hl (by decide) rfl (fun ls hl => ?_)
  have hp : PD (mset σ (3 * r) 3 (nI 0)) n g := hw.keep (mset_n (by omega)) (mset_n (by omega))
  exact lp n 0 rfl (by omega) _ (rw_clear (σ := σ) (r := r)).1 (rw_clear (σ := σ) (r := r)).2 ls H locs (lv_sub hl [0, 1, 2] rfl) hh
set_option maxHeartbeats 4000000 in
set_option maxRecDepth 100000 in
theorem c_readTune (l : Launch) (G : GG) {σ : Mem} {n r : Nat} {g : Nat → Nat} (hr : r < 23) (hw : PD σ n g) (hok : ∀ j, j < n → okT g j = true) (he : n % 2 = 0) (hrm : roomN r = 11) : Cv l G yX2_readTune cX2_readTune 3 1 22 [.ref (gad G 83), .ref (gad G (3 * r))] σ (fun τ => RW τ r (n / 2) (fun j => g (2 * j) - 48) (fun j => g (2 * j + 1) - 48) ∧ Frr r σ τ) := by
  refine Cv.of (own := RX2) (by decide) rfl (Nat.le_of_ble_eq_true rfl) (fun p e s m args below meth c ls H locs X hl hh => ?_)
  have hn := hw.2.1
  have hg := hw.2.2.2
  have lp : ∀ (k j : Nat), n - j = k → 2 * j ≤ n → ∀ (υ : Mem), RW υ r j (fun j => g (2 * j) - 48) (fun j => g (2 * j + 1) - 48) → Frr r σ υ → ∀ (ls : Array Slot) (H : Heap) (locs : List Loc), lv_has ls 3 [(2, .int (nI (2 * j))), (0, .ref (gad G 83)), (1, .ref (gad G (3 * r)))] → HH G s υ H locs → WV l G p e s m args below meth c 1 22 (fun τ => RW τ r (n / 2) (fun j => g (2 * j) - 48) (fun j => g (2 * j + 1) - 48) ∧ Frr r σ τ) H locs (F0 m 6 ls []) := by
    intro km
    induction km using Nat.strongRecOn with
    | ind km ih =>
      intro j hk hi υ hv hf ls H locs hl hh
      have hp : PD υ n g := hw.keep (hf _ (by omega)) (hf _ (by omega))
      refine lv_iload_n X.x X.b dX2_readTune_6 rfl (lv_at hl 0 rfl) ?_
      refine lv_iconst (v := nI 1) X.x X.b dX2_readTune_7 (by decide) ?_
      refine f_iadd X (z := nI (2 * j + 1)) (nI_add (2 * j) 1) dX2_readTune_8 ?_
      refine lv_aload_n X.x X.b dX2_readTune_9 rfl (lv_at hl 1 rfl) ?_
      refine f_geti X hh (x := nI n) (sh_83 G _) (by decide) rfl in_X2 1 (by decide) kf_X2_15 rfl hp.1 dX2_readTune_10 ?_
      refine lv_icmp_ge (tgt := 46) X.x X.b dX2_readTune_13 (by decide) (fun c_1 => ?_) (fun c_1 => ?_)
      · have c_1 : n ≤ (2 * j + 1) := (nI_leI (a := n) (b := (2 * j + 1)) (by omega) (by omega)).mp c_1
        exact f_vret X hh (by obtain rfl : j = n / 2 := (by omega); exact ⟨hv, hf⟩) dX2_readTune_46
      · have c_1 : ¬ n ≤ (2 * j + 1) := fun q9 => c_1 ((nI_leI (a := n) (b := (2 * j + 1)) (by omega) (by omega)).mpr q9)
        have ho1 := hok (2 * j) (by omega)
        have ho2 := hok (2 * j + 1) (by omega)
        unfold okT at ho1 ho2
        rw [if_pos (by omega)] at ho1
        rw [if_neg (by omega)] at ho2
        simp only [Bool.and_eq_true, decide_eq_true_eq] at ho1 ho2
        refine lv_aload_n X.x X.b dX2_readTune_16 rfl (lv_at hl 2 rfl) ?_
        refine lv_aload_n X.x X.b dX2_readTune_17 rfl (lv_at hl 1 rfl) ?_
        refine f_get X hh (v := .ref (gad G 84)) (sh_83 G _) (by decide) rfl in_X2 0 (by decide) kf_X2_9 rfl dX2_readTune_18 ?_
        refine lv_iload_n X.x X.b dX2_readTune_21 rfl (lv_at hl 0 rfl) ?_
        refine f_ialdx X hh (j := 2 * j) (y := nI (g (2 * j))) (sh_84 G _) (by decide) rfl (by omega) (by decide) (hp.2.2.1 _ (by omega)) dX2_readTune_22 ?_
        refine lv_bipush (v := nI 48) X.x X.b dX2_readTune_23 (by decide) ?_
        refine f_isub X (z := nI (g (2 * j) - 48)) (pk_sub (a := g (2 * j)) (b := 48) (by omega)) dX2_readTune_25 ?_
        refine lv_aload_n X.x X.b dX2_readTune_26 rfl (lv_at hl 1 rfl) ?_
        refine f_get X hh (v := .ref (gad G 84)) (sh_83 G _) (by decide) rfl in_X2 0 (by decide) kf_X2_9 rfl dX2_readTune_27 ?_
        refine lv_iload_n X.x X.b dX2_readTune_30 rfl (lv_at hl 0 rfl) ?_
        refine lv_iconst (v := nI 1) X.x X.b dX2_readTune_31 (by decide) ?_
        refine f_iadd X (z := nI (2 * j + 1)) (nI_add (2 * j) 1) dX2_readTune_32 ?_
        refine f_ialdx X hh (j := 2 * j + 1) (y := nI (g (2 * j + 1))) (sh_84 G _) (by decide) rfl (by omega) (by decide) (hp.2.2.1 _ (by omega)) dX2_readTune_33 ?_
        refine lv_bipush (v := nI 48) X.x X.b dX2_readTune_34 (by decide) ?_
        refine f_isub X (z := nI (g (2 * j + 1) - 48)) (pk_sub (a := g (2 * j + 1)) (b := 48) (by omega)) dX2_readTune_36 ?_
        refine f_callv X hh (c_add l G (a := g (2 * j) - 48) (b := g (2 * j + 1) - 48) hr hv (by omega)) mf_yX3_add ki_yX3_add kl_yX3_add km_X2_31 (sh_row G (r := r) (by omega) _) (by omega) rfl rfl hl.1 [] rfl (Nat.le_of_ble_eq_true rfl) ⟨by decide, by decide⟩ ⟨Nat.zero_le _, Nat.zero_le _⟩ dX2_readTune_37 (fun τ H locs hq hh => ?_)
        obtain ⟨hv3, hf3⟩ := hq
        have hv4 : RW τ r (j + 1) (fun j => g (2 * j) - 48) (fun j => g (2 * j + 1) - 48) := hv3.ext (fun x hx => by by_cases e9 : x = j <;> simp [e9]) (fun x hx => by by_cases e9 : x = j <;> simp [e9])
        refine lv_iinc (v := nI (2 * j + 2)) (lv' := [(2, .int (nI (2 * j + 2))), (0, .ref (gad G 83)), (1, .ref (gad G (3 * r)))]) X.x X.b dX2_readTune_40 hl (k := 0) rfl (nI_add (2 * j) 2) (by decide) rfl (fun ls hl => ?_)
        refine lv_goto (tgt := 6) X.x X.b dX2_readTune_43 (by decide) ?_
        exact ih (n - (j + 1)) (by omega) (j + 1) rfl (by omega) _ hv4 (hf.tr hf3) ls H locs (lv_sub hl [0, 1, 2] rfl) hh
  have hl : lv_has ls 3 [(0, .ref (gad G 83)), (1, .ref (gad G (3 * r)))] := hl
  refine lv_aload_n X.x X.b dX2_readTune_0 rfl (lv_at hl 1 rfl) ?_
  refine f_callv X hh (c_clear l G hr) mf_yX3_clear ki_yX3_clear kl_yX3_clear km_X2_23 (sh_row G (r := r) (by omega) _) (by omega) rfl rfl hl.1 [] rfl (Nat.le_of_ble_eq_true rfl) ⟨by decide, by decide⟩ ⟨Nat.zero_le _, Nat.zero_le _⟩ dX2_readTune_1 (fun τ H locs hq hh => ?_)
  subst hq
  refine lv_iconst (v := nI 0) X.x X.b dX2_readTune_4 (by decide) ?_
  refine lv_istore_n (lv' := [(2, .int (nI 0)), (0, .ref (gad G 83)), (1, .ref (gad G (3 * r)))]) X.x X.b dX2_readTune_5 rfl hl (by decide) rfl (fun ls hl => ?_)
  have hv0 : RW (mset σ (3 * r) 3 (nI 0)) r 0 (fun j => g (2 * j) - 48) (fun j => g (2 * j + 1) - 48) := (rw_clear (σ := σ) (r := r)).1.ext (fun x hx => absurd hx (Nat.not_lt_zero _)) (fun x hx => absurd hx (Nat.not_lt_zero _))
  exact lp n 0 rfl (by omega) _ hv0 (rw_clear (σ := σ) (r := r)).2 ls H locs (lv_sub hl [0, 1, 2] rfl) hh
set_option maxHeartbeats 4000000 in
set_option maxRecDepth 100000 in
theorem c_stepAt (l : Launch) (G : GG) {σ : Mem} {n i : Nat} {g : Nat → Nat} (hw : PD σ n g) (hi : i < n) : Ci l G yX2_stepAt cX2_stepAt 2 (some .int) 1 22 [.ref (gad G 83), .int (nI i)] σ (fun r τ => r = stp (g i) ∧ τ = σ) := by
  refine Ci.of (own := RX2) (by decide) rfl (Nat.le_of_ble_eq_true rfl) (fun p e s m args below meth c ls H locs X hl hh => ?_)
  have hn := hw.2.1
  have hg := hw.2.2.2 i hi
  have hl : lv_has ls 2 [(0, .ref (gad G 83)), (1, .int (nI i))] := hl
  refine lv_iload_n X.x X.b dX2_stepAt_0 rfl (lv_at hl 1 rfl) ?_
  refine lv_iconst (v := nI 0) X.x X.b dX2_stepAt_1 (by decide) ?_
  refine lv_aload_n X.x X.b dX2_stepAt_2 rfl (lv_at hl 0 rfl) ?_
  refine f_geti X hh (x := nI n) (sh_83 G _) (by decide) rfl in_X2 1 (by decide) kf_X2_15 rfl hw.1 dX2_stepAt_3 ?_
  refine lv_iconst (v := nI 1) X.x X.b dX2_stepAt_6 (by decide) ?_
  refine f_isub X (z := nI (n - 1)) (pk_sub (a := n) (b := 1) (by omega)) dX2_stepAt_7 ?_
  refine f_ncalli X hh (c_within l G i 0 (n - 1) (by omega) (by omega) (by omega)) mf_yX4_isWithin ks_yX4_isWithin X.2.2.2.2.2.2.2.1 rfl hl.1 [] rfl (Nat.le_of_ble_eq_true rfl) ⟨by decide, by decide⟩ ⟨Nat.zero_le _, Nat.zero_le _⟩ dX2_stepAt_8 (fun r τ H locs hq hh => ?_)
  obtain ⟨hr9, hτ⟩ := hq
  rw [if_pos (by omega)] at hr9
  subst hr9
  rw [hτ] at hh
  clear hτ
  refine lv_if_ne (tgt := 16) X.x X.b dX2_stepAt_11 (by decide) (fun _ => ?_) (fun h9 => absurd h9 (by decide))
  refine lv_aload_n X.x X.b dX2_stepAt_16 rfl (lv_at hl 0 rfl) ?_
  refine f_get X hh (v := .ref (gad G 84)) (sh_83 G _) (by decide) rfl in_X2 0 (by decide) kf_X2_9 rfl dX2_stepAt_17 ?_
  refine lv_iload_n X.x X.b dX2_stepAt_20 rfl (lv_at hl 1 rfl) ?_
  refine f_ialdx X hh (j := i) (y := nI (g i)) (sh_84 G _) (by decide) rfl (by omega) (by decide) (hw.2.2.1 _ (by omega)) dX2_stepAt_21 ?_
  by_cases e_104 : g i = 104
  · rw [e_104]
    refine lv_lookup (tgt := 58) (off := 36) X.x X.b dX2_stepAt_22 (by decide) (by decide +kernel) (by decide) ?_
    refine lv_iconst (v := nI 1) X.x X.b dX2_stepAt_58 (by decide) ?_
    exact f_iret X hh ⟨by first | rfl | (unfold stp; rw [if_neg (by omega), if_neg (by omega), if_neg (by omega)]), rfl⟩ dX2_stepAt_59
  by_cases e_111 : g i = 111
  · rw [e_111]
    refine lv_lookup (tgt := 56) (off := 34) X.x X.b dX2_stepAt_22 (by decide) (by decide +kernel) (by decide) ?_
    refine lv_iconst (v := nI 0) X.x X.b dX2_stepAt_56 (by decide) ?_
    exact f_iret X hh ⟨by first | rfl | (unfold stp; rw [if_neg (by omega), if_neg (by omega), if_neg (by omega)]), rfl⟩ dX2_stepAt_57
  by_cases e_115 : g i = 115
  · rw [e_115]
    refine lv_lookup (tgt := 60) (off := 38) X.x X.b dX2_stepAt_22 (by decide) (by decide +kernel) (by decide) ?_
    refine lv_iconst (v := nI 2) X.x X.b dX2_stepAt_60 (by decide) ?_
    exact f_iret X hh ⟨by first | rfl | (unfold stp; rw [if_neg (by omega), if_neg (by omega), if_neg (by omega)]), rfl⟩ dX2_stepAt_61
  refine lv_lookup (tgt := 62) (off := 40) X.x X.b dX2_stepAt_22 (by decide) (by rw [nI_toInt (by omega)]; exact (if_neg (by omega)).trans ((if_neg (by omega)).trans (if_neg (by omega)))) (by decide) ?_
  refine lv_iconst (v := (-1)) X.x X.b dX2_stepAt_62 (by decide) ?_
  exact f_iret X hh ⟨by first | rfl | (unfold stp; rw [if_neg (by omega), if_neg (by omega), if_neg (by omega)]), rfl⟩ dX2_stepAt_63
theorem stp_m1 {x : Nat} : stp x = -1 ↔ isS x = false := by
  unfold stp isS
  by_cases h1 : x = 111
  · simp [h1]; decide
  · by_cases h2 : x = 104
    · simp [h2]; decide
    · by_cases h3 : x = 115
      · simp [h3]; decide
      · simp [h1, h2, h3]
set_option maxHeartbeats 4000000 in
set_option maxRecDepth 100000 in
theorem c_hasStepsOnly (l : Launch) (G : GG) {σ : Mem} {n : Nat} {g : Nat → Nat} (hw : PD σ n g) : Ci l G yX2_hasStepsOnly cX2_hasStepsOnly 2 (some .boolean) 2 43 [.ref (gad G 83)] σ (fun r τ => r = (if ∀ i, i < n → isS (g i) = true then 1 else 0) ∧ τ = σ) := by
  refine Ci.of (own := RX2) (by decide) rfl (Nat.le_of_ble_eq_true rfl) (fun p e s m args below meth c ls H locs X hl hh => ?_)
  have hn := hw.2.1
  have lp : ∀ (k i : Nat), (∀ j, j < i → isS (g j) = true) → n - i = k → i ≤ n → ∀ (ls : Array Slot) (H : Heap) (locs : List Loc), lv_has ls 2 [(1, .int (nI i)), (0, .ref (gad G 83))] → HH G s σ H locs → WI l G p e s m args below meth c 2 43 (fun r τ => r = (if ∀ i, i < n → isS (g i) = true then 1 else 0) ∧ τ = σ) H locs (F0 m 2 ls []) := by
    intro km
    induction km using Nat.strongRecOn with
    | ind km ih =>
      intro i ho hk hi ls H locs hl hh
      refine lv_iload_n X.x X.b dX2_hasStepsOnly_2 rfl (lv_at hl 0 rfl) ?_
      refine lv_aload_n X.x X.b dX2_hasStepsOnly_3 rfl (lv_at hl 1 rfl) ?_
      refine f_geti X hh (x := nI n) (sh_83 G _) (by decide) rfl in_X2 1 (by decide) kf_X2_15 rfl hw.1 dX2_hasStepsOnly_4 ?_
      refine lv_icmp_ge (tgt := 27) X.x X.b dX2_hasStepsOnly_7 (by decide) (fun c_1 => ?_) (fun c_1 => ?_)
      · have c_1 : n ≤ i := (nI_leI (a := n) (b := i) (by omega) (by omega)).mp c_1
        refine lv_iconst (v := nI 1) X.x X.b dX2_hasStepsOnly_27 (by decide) ?_
        exact f_zret X hh rfl ⟨by rw [if_pos (fun j hj => ho j (by omega))]; rfl, rfl⟩ dX2_hasStepsOnly_28
      · have c_1 : ¬ n ≤ i := fun q9 => c_1 ((nI_leI (a := n) (b := i) (by omega) (by omega)).mpr q9)
        refine lv_aload_n X.x X.b dX2_hasStepsOnly_10 rfl (lv_at hl 1 rfl) ?_
        refine lv_iload_n X.x X.b dX2_hasStepsOnly_11 rfl (lv_at hl 0 rfl) ?_
        refine f_calli X hh (c_stepAt l G (i := i) hw (by omega)) mf_yX2_stepAt ki_yX2_stepAt kl_yX2_stepAt km_X2_35 (sh_83 G _) (by decide) rfl rfl hl.1 [] rfl (Nat.le_of_ble_eq_true rfl) ⟨by decide, by decide⟩ ⟨Nat.zero_le _, Nat.zero_le _⟩ dX2_hasStepsOnly_12 (fun r τ H locs hq hh => ?_)
        obtain ⟨rfl, hτ⟩ := hq
        rw [hτ] at hh
        clear hτ
        refine lv_iconst (v := (-1)) X.x X.b dX2_hasStepsOnly_15 (by decide) ?_
        refine lv_icmp_ne (tgt := 21) X.x X.b dX2_hasStepsOnly_16 (by decide) (fun c_2 => ?_) (fun c_2 => ?_)
        · refine lv_iinc (v := nI (i + 1)) (lv' := [(1, .int (nI (i + 1))), (0, .ref (gad G 83))]) X.x X.b dX2_hasStepsOnly_21 hl (k := 0) rfl (nI_1 i) (by decide) rfl (fun ls hl => ?_)
          refine lv_goto (tgt := 2) X.x X.b dX2_hasStepsOnly_24 (by decide) ?_
          refine ih (n - (i + 1)) (by omega) (i + 1) (fun j hj => ?_) rfl (by omega) ls H locs (lv_sub hl [0, 1] rfl) hh
          by_cases e9 : j = i
          · subst e9; exact Classical.byContradiction (fun e8 => absurd (stp_m1.mpr (by simpa using e8)) ‹_›)
          · exact ho j (by omega)
        · refine lv_iconst (v := nI 0) X.x X.b dX2_hasStepsOnly_19 (by decide) ?_
          exact f_zret X hh rfl ⟨by rw [if_neg (fun q9 => by have := q9 i (by omega); rw [stp_m1.mp ‹_›] at this; cases this)]; rfl, rfl⟩ dX2_hasStepsOnly_20
  have hl : lv_has ls 2 [(0, .ref (gad G 83))] := hl
  refine lv_iconst (v := nI 0) X.x X.b dX2_hasStepsOnly_0 (by decide) ?_
  refine lv_istore_n (lv' := [(1, .int (nI 0)), (0, .ref (gad G 83))]) X.x X.b dX2_hasStepsOnly_1 rfl hl (by decide) rfl (fun ls hl => ?_)
  exact lp n 0 (fun j hj => absurd hj (Nat.not_lt_zero _)) rfl (by omega) ls H locs (lv_sub hl [0, 1] rfl) hh
