theorem mo_row : Cond.arrayOver (.object RX3) ∈ lw_tbl := List.mem_of_getElem? (i := 56) (by decide +kernel)
theorem mo_book : Cond.arrayOver (.object RX0) ∈ lw_tbl := List.mem_of_getElem? (i := 101) (by decide +kernel)
theorem mo_int : Cond.arrayOver (.array .int) ∈ lw_tbl := List.mem_of_getElem? (i := 111) (by decide +kernel)
theorem mo_nwP : nwP ∈ lw_tbl := List.mem_of_getElem? (i := 35) (by decide +kernel)
theorem mo_nwL : nwL ∈ lw_tbl := List.mem_of_getElem? (i := 104) (by decide +kernel)
theorem mo_nw1 : nw1 ∈ lw_tbl := List.mem_of_getElem? (i := 189) (by decide +kernel)
theorem mo_nw2 : nw2 ∈ lw_tbl := List.mem_of_getElem? (i := 322) (by decide +kernel)
theorem mo_nw3 : nw3 ∈ lw_tbl := List.mem_of_getElem? (i := 337) (by decide +kernel)
theorem mo_nw4 : nw4 ∈ lw_tbl := List.mem_of_getElem? (i := 294) (by decide +kernel)
theorem mo_nw5 : nw5 ∈ lw_tbl := List.mem_of_getElem? (i := 296) (by decide +kernel)
theorem mo_s1 : Cond.laysStatic "TuneWords" "SYLLABLES_ON" "[I" ∈ lw_tbl := List.mem_of_getElem? (i := 295) (by decide +kernel)
theorem mo_s2 : Cond.laysStatic "TuneWords" "NOTES_ON" "[I" ∈ lw_tbl := List.mem_of_getElem? (i := 297) (by decide +kernel)
theorem kb_start {args : Array Value} {s : State} (hts : ∀ w ∈ lw_tbl, w.before args s = true) : ∃ K : KK, KB K s := by
  have htg : ∀ w ∈ TBG, w.before args s = true := fun w h => hts w (List.mem_filter.mp h).1
  obtain ⟨c0, i0, h0⟩ := u_known (C := RX0) (T := TX0) (N := 3) (n := 3) htg in_X0 (htg _ kt_X0)
  obtain ⟨c1, i1, h1⟩ := u_known (C := RX1) (T := TX1) (N := 11) (n := 11) htg in_X1 (htg _ kt_X1)
  obtain ⟨c2, i2, h2⟩ := u_known (C := RX2) (T := TX2) (N := 2) (n := 2) htg in_X2 (htg _ kt_X2)
  obtain ⟨c3, i3, h3⟩ := u_known (C := RX3) (T := TX3) (N := 4) (n := 4) htg in_X3 (htg _ kt_X3)
  obtain ⟨c4, i4, h4⟩ := u_known (C := RX4) (T := TX4) (N := 5) (n := 5) htg in_X4 (htg _ kt_X4)
  obtain ⟨c5, i5, h5⟩ := u_known (C := RX5) (T := TX5) (N := 17) (n := 17) htg in_X5 (htg _ kt_X5)
  obtain ⟨cI, kI9, coI, a1, a2, a3⟩ := Cond.arrayClass_spec (htg _ ka_int)
  obtain ⟨cZ, kZ9, coZ, b1, b2, b3⟩ := Cond.arrayClass_spec (htg _ ka_boolean)
  obtain ⟨coR, cR, kR9, r1, r2, r3, r4, r5⟩ := Cond.arrayOver_spec (hts _ mo_row)
  obtain ⟨coB, cB, kB9, s1, s2, s3, s4, s5⟩ := Cond.arrayOver_spec (hts _ mo_book)
  obtain ⟨coQ, cQ, kQ9, t1, t2, t3, t4, t5⟩ := arrayOverA_spec (hts _ mo_int)
  refine ⟨((fun k => if k = 0 then c0 else if k = 1 then c1 else if k = 2 then c2 else if k = 3 then c3 else if k = 4 then c4 else c5, fun k => if k = 0 then i0 else if k = 1 then i1 else if k = 2 then i2 else if k = 3 then i3 else if k = 4 then i4 else i5), cI, cZ, cR, cB, cQ), ⟨?_, ?_⟩, va_AO.of (hts _ mo_row), va_AO.of (hts _ mo_book), (fun _ => hts _ mo_int), va_Nw.of rfl (hts _ mo_nwP), va_Nw.of rfl (hts _ mo_nwL)⟩
  · intro k q hq
    match k, hq with
    | 0, hq => cases hq; exact h0
    | 1, hq => cases hq; exact h1
    | 2, hq => cases hq; exact h2
    | 3, hq => cases hq; exact h3
    | 4, hq => cases hq; exact h4
    | 5, hq => cases hq; exact h5
    | k + 6, hq => simp [classes] at hq
  · intro k q hq
    match k, hq with
    | 0, hq => cases hq; exact ⟨fun N z => ⟨fun q h => (by cases h), kI9, a2, coI, a3⟩, a1⟩
    | 1, hq => cases hq; exact ⟨fun N z => ⟨fun q h => (by cases h), kZ9, b2, coZ, b3⟩, b1⟩
    | 2, hq => cases hq; exact ⟨fun N z => ⟨fun q h => (by cases h), kR9, r3, coR, r4⟩, kR9, coR, r3, r4, r1, r5⟩
    | 3, hq => cases hq; exact ⟨fun N z => ⟨fun q h => (by cases h), kB9, s3, coB, s4⟩, kB9, coB, s3, s4, s1, s5⟩
    | 4, hq => cases hq; exact ⟨fun N z => ⟨fun q h => (by cases h), kQ9, t3, coQ, t4⟩, t5⟩
    | k + 5, hq => simp [ktys] at hq
theorem st_1 {args : Array Value} {s : State} {A : Nat → Prop} (hts : ∀ w ∈ lw_tbl, w.before args s = true) (hgv : (Jvm.Cond.and given_1 narrow_1).before args s = true) (hA : ∀ a, a < Array.size s.heap → ¬ A a) : ∃ t : Nat, va_Z RX4 "SYLLABLES_ON" "[I" (.ref t) A s s.heap ∧ va_T .int t 3 sOn A s s.heap := by
  have hs := flat_of_before _ hgv
  have m1 : (Cond.arrayOf (.static "TuneWords" "SYLLABLES_ON" "[I") .int).before args s = true := hs _ (by decide +kernel)
  have m2 : (Cond.eq (.length (.static "TuneWords" "SYLLABLES_ON" "[I")) (.int 3)).before args s = true := hs _ (by decide +kernel)
  have e0 : (Cond.eq (.elem (.static "TuneWords" "SYLLABLES_ON" "[I") (.int 0)) (.int 1)).before args s = true := hs _ (by decide +kernel)
  have e1 : (Cond.eq (.elem (.static "TuneWords" "SYLLABLES_ON" "[I") (.int 1)) (.int 0)).before args s = true := hs _ (by decide +kernel)
  have e2 : (Cond.eq (.elem (.static "TuneWords" "SYLLABLES_ON" "[I") (.int 2)) (.int 1)).before args s = true := hs _ (by decide +kernel)
  obtain ⟨t, h1, h2⟩ := va_Tof (tm := (.static "TuneWords" "SYLLABLES_ON" "[I")) (ty := .int) (N := 3) (f := sOn) (A := A) (by decide) m1 (va_eqt m2) (fun j hj => by
    rcases (show j = 0 ∨ j = 1 ∨ j = 2 by omega) with rfl | rfl | rfl
    · exact va_eqt e0
    · exact va_eqt e1
    · exact va_eqt e2) hA
  exact ⟨t, va_Zref (hts _ mo_s1) (hts _ (List.mem_filter.mp kn_X4).1) h1 hA, h2⟩
theorem st_2 {args : Array Value} {s : State} {A : Nat → Prop} (hts : ∀ w ∈ lw_tbl, w.before args s = true) (hgv : (Jvm.Cond.and given_1 narrow_1).before args s = true) (hA : ∀ a, a < Array.size s.heap → ¬ A a) : ∃ t : Nat, va_Z RX4 "NOTES_ON" "[I" (.ref t) A s s.heap ∧ va_T .int t 3 nOn A s s.heap := by
  have hs := flat_of_before _ hgv
  have m1 : (Cond.arrayOf (.static "TuneWords" "NOTES_ON" "[I") .int).before args s = true := hs _ (by decide +kernel)
  have m2 : (Cond.eq (.length (.static "TuneWords" "NOTES_ON" "[I")) (.int 3)).before args s = true := hs _ (by decide +kernel)
  have e0 : (Cond.eq (.elem (.static "TuneWords" "NOTES_ON" "[I") (.int 0)) (.int 1)).before args s = true := hs _ (by decide +kernel)
  have e1 : (Cond.eq (.elem (.static "TuneWords" "NOTES_ON" "[I") (.int 1)) (.int 1)).before args s = true := hs _ (by decide +kernel)
  have e2 : (Cond.eq (.elem (.static "TuneWords" "NOTES_ON" "[I") (.int 2)) (.int 0)).before args s = true := hs _ (by decide +kernel)
  obtain ⟨t, h1, h2⟩ := va_Tof (tm := (.static "TuneWords" "NOTES_ON" "[I")) (ty := .int) (N := 3) (f := nOn) (A := A) (by decide) m1 (va_eqt m2) (fun j hj => by
    rcases (show j = 0 ∨ j = 1 ∨ j = 2 by omega) with rfl | rfl | rfl
    · exact va_eqt e0
    · exact va_eqt e1
    · exact va_eqt e2) hA
  exact ⟨t, va_Zref (hts _ mo_s2) (hts _ (List.mem_filter.mp kn_X4).1) h1 hA, h2⟩
set_option maxHeartbeats 4000000 in
set_option maxRecDepth 100000 in
theorem whole_start {p : Program} {e : Env} {s : State} {m : MethodId} {below : List Frame} {meth : Method} {c : Code} (l : Launch) (hflags : l.flags = flags0) {b L : Nat} {xs : Nat → Int32} (hL : L ≤ 2560) (C0 : lw_At p s m meth c b L xs) : W p l e room_1 s m #[Value.ref b] below meth c s.heap [] 0 0 (lw_Z below #[Value.ref b] s) (entryFrame m ([Value.ref b] : List Value).toArray 4) := by
  obtain ⟨hx, hb, hr, hml, hown, hts, hX, hbl, hlocks, hgv⟩ := id C0
  have htg : ∀ w ∈ TBG, w.before #[Value.ref b] s = true := fun w h => hts w (List.mem_filter.mp h).1
  have CF : CallFix p m c cL_law 4 s #[Value.ref b] TBG RL := ⟨hx, hb, hml, hown, htg⟩
  obtain ⟨K, hKB⟩ := kb_start hts
  obtain ⟨A, hAe⟩ : ∃ A : Nat → Prop, A = fun q => s.heap.size ≤ q := ⟨_, rfl⟩
  have hAn : ∀ a, a < Array.size s.heap → ¬ A a := fun a h => by rw [hAe]; exact Nat.not_le.mpr h
  obtain ⟨t1, z1, y1⟩ := st_1 (A := A) hts hgv hAn
  obtain ⟨t2, z2, y2⟩ := st_2 (A := A) hts hgv hAn
  have X : CX0 K A p s m #[Value.ref b] c cL_law 4 RL := ⟨CF, hKB, fun q h => by rw [hAe]; exact h⟩
  have hB : BW K A s [] s.heap [] := ⟨fun k q h => by simp at h, ⟨fun i j p q h => by simp at h, fun k q h => by simp at h⟩, va_S.rf⟩
  have hl := lv_entry ([.ref b]) (n := 4) (Nat.le_of_ble_eq_true rfl)
  rw [lg_entry_eq]
  generalize (lg_sl ([.ref b]) ++ List.replicate (4 - (lg_sl ([.ref b])).length) Slot.unset).toArray = ls at hl ⊢
  have hl : lv_has ls 4 [(0, .ref b)] := hl
  refine g_new X hB (ci := 4) rfl in_X4 tyX4_ok kk_L_7 kt_X4 kn_X4 [.null, .null, .null, .null, .int 0] df_X4 ⟨Nat.le_of_ble_eq_true rfl, Nat.le_of_ble_eq_true rfl⟩ dL_law_0 (fun q1 H hB => ?_)
  have hB : BW K A s [(q1, .inr (4, [.null, .null, .null, .null, .int 0]))] H [] := hB
  refine lv_dup X.x X.b dL_law_3 rfl ?_
  refine g_call X hB (cn_TW l K q1) mf_yX4_init rfl ki_yX4_init km_L_9 0 rfl [] [] rfl (by decide) (by decide) rfl hl.1 [.ref q1] rfl (Nat.le_of_ble_eq_true rfl) ⟨Nat.le_of_ble_eq_true rfl, Nat.le_of_ble_eq_true rfl⟩ ⟨Nat.le_of_ble_eq_true rfl, Nat.le_of_ble_eq_true rfl⟩ dL_law_4 (fun f H locs hB => ?_)
  have hB : BW K A s (twW K q1 f) H locs := hB
  refine lv_astore_n (lv' := [(1, .ref q1), (0, .ref b)]) X.x X.b dL_law_7 rfl hl (by decide) rfl (fun ls hl => ?_)
  refine g_new X hB (ci := 5) rfl in_X5 tyX5_ok kk_L_10 kt_X5 kn_X5 [.null, .null, .null, .null, .int 0, .null, .null, .null, .null, .int 0, .int 0, .null, .null, .null, .null, .null, .int 0] df_X5 ⟨Nat.le_of_ble_eq_true rfl, Nat.le_of_ble_eq_true rfl⟩ dL_law_8 (fun q2 H hB => ?_)
  refine lv_dup X.x X.b dL_law_11 rfl ?_
  refine g_call X hB (cn_Model l K q2) mf_yX5_init rfl ki_yX5_init km_L_12 134 rfl [0, 1, 2, 3, 4, 5, 6, 7, 8, 9, 10, 11, 12, 13, 14, 15, 16, 17, 18, 19, 20, 21, 22, 23, 24, 25, 26, 27, 28, 29, 30, 31, 32, 33, 34, 35, 36, 37, 38, 39, 40, 41, 42, 43, 44, 45, 46, 47, 48, 49, 50, 51, 52, 53, 54, 55, 56, 57, 58, 59, 60, 61, 62, 63, 64, 65, 66, 67, 68, 69, 70, 71, 72, 73, 74, 75, 76, 77, 78, 79, 80, 81, 82, 83, 84, 85, 86, 87, 88, 89, 90, 91, 92, 93, 94, 95, 96, 97, 98, 99, 100, 101, 102, 103, 104, 105, 106, 107, 108, 109, 110, 111, 112, 113, 114, 115, 116, 117, 118, 119, 120, 121, 122, 123, 124, 125, 126, 127, 128, 129, 130, 131, 132, 133] (twW K q1 f) rfl (by decide +kernel) (by decide +kernel) rfl hl.1 [.ref q2] rfl (Nat.le_of_ble_eq_true rfl) ⟨Nat.le_of_ble_eq_true rfl, Nat.le_of_ble_eq_true rfl⟩ ⟨Nat.le_of_ble_eq_true rfl, Nat.le_of_ble_eq_true rfl⟩ dL_law_12 (fun g H locs hB => ?_)
  refine lv_astore_n (lv' := [(2, .ref q2), (1, .ref q1), (0, .ref b)]) X.x X.b dL_law_15 rfl hl (by decide) rfl (fun ls hl => ?_)
  refine lv_iconst (v := nI 0) X.x X.b dL_law_16 (by decide) ?_
  refine lv_istore_n (lv' := [(3, .int (nI 0)), (2, .ref q2), (1, .ref q1), (0, .ref b)]) X.x X.b dL_law_17 rfl hl (by decide) rfl (fun ls hl => ?_)
  refine W.widen (k := 600000) (n := 7302250) (Nat.le_of_ble_eq_true rfl) (Nat.le_of_ble_eq_true rfl) ?_
  obtain ⟨hG, hh⟩ := gather hB (t1, t2)
  have hKS : KS (gmk K q1 q2 f g A (t1, t2)) s := ⟨hKB.1, ⟨z1, y1⟩, ⟨z2, y2⟩, va_Nw.of rfl (hts _ mo_nw1), va_Nw.of rfl (hts _ mo_nw2), va_Nw.of rfl (hts _ mo_nw3), va_Nw.of rfl (hts _ mo_nw4), va_Nw.of rfl (hts _ mo_nw5)⟩
  have Y : LX (gmk K q1 q2 f g A (t1, t2)) p s m b meth c L xs := ⟨⟨CF, hr, hlocks, hG, hKS⟩, hX, hbl, hAn b hbl, hL⟩
  exact law_loop Y hAe L 0 (Nat.sub_zero L) (Nat.zero_le L) as0 sg0 as0_ok rc0 rm00 ls H locs hl hh
