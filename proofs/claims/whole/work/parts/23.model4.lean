/-! the model: layTable, lay, go, laySteps -/
def TP (σ : Mem) (I : LI) (P : Nat → Nat → Prop) : Prop := ∀ a b, a ≤ iN I → b ≤ iM I → P a b → T4 σ (12 * a + b) (TT I a b)
theorem fru_of {σ τ : Mem} {h : Nat} (f : ∀ c x, ¬ (143 ≤ c ∧ c ≤ 146 ∧ x = h) → τ c x = σ c x) : Fru σ τ := fun k hk => funext fun x => f k x (by omega)
set_option maxHeartbeats 4000000 in
set_option maxRecDepth 100000 in
theorem c5_layTable (l : Launch) (G : GG) {σ : Mem} {I : LI} (hB : LB I) (hM : MLM σ I) : Cv l G yX5_layTable cX5_layTable 5 3 72 [.ref (gad G 134)] σ (fun τ => TP τ I (fun _ _ => True) ∧ Fru σ τ) := by
  refine Cv.of (own := RX5) (by decide) rfl (Nat.le_of_ble_eq_true rfl) (fun p e s m args below meth c ls H locs X hl hh => ?_)
  have hb1 := hB.1
  have hb2 := hB.2.1
  have lp1 : ∀ (k q : Nat), q = k → q ≤ iN I + 1 → ∀ (υ : Mem), TP υ I (fun a _ => q ≤ a) → Fru σ υ → ∀ (ls : Array Slot) (H : Heap) (locs : List Loc), lv_has ls 5 [(1, .int (dn q)), (0, .ref (gad G 134))] → HH G s υ H locs → WV l G p e s m args below meth c 3 72 (fun τ => TP τ I (fun _ _ => True) ∧ Fru σ τ) H locs (F0 m 5 ls []) := by
    intro km
    induction km using Nat.strongRecOn with
    | ind km ih =>
      intro q hk hq υ hv hf ls H locs hl hh
      rcases Nat.eq_zero_or_pos q with h0 | h0
      · subst h0
        rw [dn_0] at hl
        refine lv_iload_n X.x X.b dX5_layTable_5 rfl (lv_at hl 0 rfl) ?_
        refine lv_if_lt (tgt := 146) X.x X.b dX5_layTable_6 (by decide) (fun _ => ?_) (fun h9 => absurd (show _ by decide) h9)
        exact f_vret X hh ⟨fun a b h1 h2 _ => hv a b h1 h2 (Nat.zero_le _), hf⟩ dX5_layTable_146
      · obtain ⟨i, rfl⟩ : ∃ z, q = z + 1 := ⟨q - 1, by omega⟩
        rw [dn_s] at hl
        have hi2 : i ≤ iN I := by omega
        refine lv_iload_n X.x X.b dX5_layTable_5 rfl (lv_at hl 0 rfl) ?_
        refine lv_if_lt (tgt := 146) X.x X.b dX5_layTable_6 (by decide) (fun h9 => absurd h9 (nI_pos (by omega))) (fun _ => ?_)
        refine lv_aload_n X.x X.b dX5_layTable_9 rfl (lv_at hl 1 rfl) ?_
        refine f_geti X hh (x := nI (iM I)) (sh_134 G _) (by decide) rfl in_X5 10 (by decide) kf_X5_78 rfl (hM.ku hf).2.1 dX5_layTable_10 ?_
        refine lv_istore_n (lv' := [(2, .int (nI (iM I))), (1, .int (nI i)), (0, .ref (gad G 134))]) X.x X.b dX5_layTable_13 rfl hl (by decide) rfl (fun ls hl => ?_)
        have lp2 : ∀ (k u : Nat), u = k → u ≤ iM I + 1 → ∀ (ξ : Mem), TP ξ I (fun a b => i < a ∨ (a = i ∧ u ≤ b)) → Fru σ ξ → ∀ (ls : Array Slot) (H : Heap) (locs : List Loc), lv_has ls 5 [(2, .int (dn u)), (1, .int (nI i)), (0, .ref (gad G 134))] → HH G s ξ H locs → WV l G p e s m args below meth c 3 72 (fun τ => TP τ I (fun _ _ => True) ∧ Fru σ τ) H locs (F0 m 14 ls []) := by
          intro km
          induction km using Nat.strongRecOn with
          | ind km ih2 =>
            intro u hk2 hu ξ hv2 hf2 ls H locs hl hh
            rcases Nat.eq_zero_or_pos u with h0 | h0
            · subst h0
              rw [dn_0] at hl
              refine lv_iload_n X.x X.b dX5_layTable_14 rfl (lv_at hl 0 rfl) ?_
              refine lv_if_lt (tgt := 140) X.x X.b dX5_layTable_15 (by decide) (fun _ => ?_) (fun h9 => absurd (show _ by decide) h9)
              refine lv_iinc (v := dn i) (lv' := [(1, .int (dn i)), (2, .int ((-1))), (0, .ref (gad G 134))]) X.x X.b dX5_layTable_140 hl (k := 1) rfl rfl (by decide) rfl (fun ls hl => ?_)
              refine lv_goto (tgt := 5) X.x X.b dX5_layTable_143 (by decide) ?_
              refine ih i (by omega) i rfl (by omega) _ ?_ hf2 ls H locs (lv_sub hl [0, 2] rfl) hh
              intro a b h1 h2 h3
              exact hv2 a b h1 h2 (by omega)
            · obtain ⟨j, rfl⟩ : ∃ z, u = z + 1 := ⟨u - 1, by omega⟩
              rw [dn_s] at hl
              have hj2 : j ≤ iM I := by omega
              refine lv_iload_n X.x X.b dX5_layTable_14 rfl (lv_at hl 0 rfl) ?_
              refine lv_if_lt (tgt := 140) X.x X.b dX5_layTable_15 (by decide) (fun h9 => absurd h9 (nI_pos (by omega))) (fun _ => ?_)
              refine lv_iload_n X.x X.b dX5_layTable_18 rfl (lv_at hl 1 rfl) ?_
              refine lv_aload_n X.x X.b dX5_layTable_19 rfl (lv_at hl 2 rfl) ?_
              refine f_geti X hh (x := nI (iN I)) (sh_134 G _) (by decide) rfl in_X5 9 (by decide) kf_X5_75 rfl (hM.ku hf2).1 dX5_layTable_20 ?_
              refine lv_icmp_ne (tgt := 38) X.x X.b dX5_layTable_23 (by decide) (fun c_5 => ?_) (fun c_5 => ?_)
              · have c_5 : ¬ i = (iN I) := fun q9 => c_5 ((nI_eq (a := i) (b := (iN I)) (by omega) (by omega)).mpr q9)
                refine lv_iconst (v := nI 0) X.x X.b dX5_layTable_38 (by decide) ?_
                refine lv_istore_n (lv' := [(3, .int (nI 0)), (2, .int (nI j)), (1, .int (nI i)), (0, .ref (gad G 134))]) X.x X.b dX5_layTable_39 rfl hl (by decide) rfl (fun ls hl => ?_)
                refine lv_aload_n X.x X.b dX5_layTable_40 rfl (lv_at hl 3 rfl) ?_
                refine f_get X hh (v := .ref (gad G 143)) (sh_134 G _) (by decide) rfl in_X5 11 (by decide) kf_X5_35 rfl dX5_layTable_41 ?_
                refine lv_iload_n X.x X.b dX5_layTable_44 rfl (lv_at hl 2 rfl) ?_
                refine lv_iload_n X.x X.b dX5_layTable_45 rfl (lv_at hl 1 rfl) ?_
                refine f_scalli X hh (c5_at l G (i := i) (j := j)) mf_yX5_at ks_yX5_at km_X5_85 rfl hl.1 [.ref (gad G 143)] rfl (Nat.le_of_ble_eq_true rfl) ⟨by decide, by decide⟩ ⟨Nat.zero_le _, Nat.zero_le _⟩ dX5_layTable_46 (fun r τ H locs hq hh => ?_)
                obtain ⟨rfl, hτ⟩ := hq
                rw [hτ] at hh
                clear hτ
                refine lv_iconst (v := nI 0) X.x X.b dX5_layTable_49 (by decide) ?_
                refine f_iast X hh (j := 12 * i + j) (sh_143 G) (by decide) rfl (by omega) (by decide) dX5_layTable_50 (fun H locs hh => ?_)
                refine lv_aload_n X.x X.b dX5_layTable_51 rfl (lv_at hl 3 rfl) ?_
                refine f_get X hh (v := .ref (gad G 144)) (sh_134 G _) (by decide) rfl in_X5 12 (by decide) kf_X5_38 rfl dX5_layTable_52 ?_
                refine lv_iload_n X.x X.b dX5_layTable_55 rfl (lv_at hl 2 rfl) ?_
                refine lv_iload_n X.x X.b dX5_layTable_56 rfl (lv_at hl 1 rfl) ?_
                refine f_scalli X hh (c5_at l G (i := i) (j := j)) mf_yX5_at ks_yX5_at km_X5_85 rfl hl.1 [.ref (gad G 144)] rfl (Nat.le_of_ble_eq_true rfl) ⟨by decide, by decide⟩ ⟨Nat.zero_le _, Nat.zero_le _⟩ dX5_layTable_57 (fun r τ H locs hq hh => ?_)
                obtain ⟨rfl, hτ⟩ := hq
                rw [hτ] at hh
                clear hτ
                refine lv_iconst (v := nI 0) X.x X.b dX5_layTable_60 (by decide) ?_
                refine f_iast X hh (j := 12 * i + j) (sh_144 G) (by decide) rfl (by omega) (by decide) dX5_layTable_61 (fun H locs hh => ?_)
                refine lv_aload_n X.x X.b dX5_layTable_62 rfl (lv_at hl 3 rfl) ?_
                refine f_get X hh (v := .ref (gad G 145)) (sh_134 G _) (by decide) rfl in_X5 13 (by decide) kf_X5_41 rfl dX5_layTable_63 ?_
                refine lv_iload_n X.x X.b dX5_layTable_66 rfl (lv_at hl 2 rfl) ?_
                refine lv_iload_n X.x X.b dX5_layTable_67 rfl (lv_at hl 1 rfl) ?_
                refine f_scalli X hh (c5_at l G (i := i) (j := j)) mf_yX5_at ks_yX5_at km_X5_85 rfl hl.1 [.ref (gad G 145)] rfl (Nat.le_of_ble_eq_true rfl) ⟨by decide, by decide⟩ ⟨Nat.zero_le _, Nat.zero_le _⟩ dX5_layTable_68 (fun r τ H locs hq hh => ?_)
                obtain ⟨rfl, hτ⟩ := hq
                rw [hτ] at hh
                clear hτ
                refine lv_iload_n X.x X.b dX5_layTable_71 rfl (lv_at hl 0 rfl) ?_
                refine lv_if_eq (tgt := 79) X.x X.b dX5_layTable_72 (by decide) (fun _ => ?_) (fun h9 => absurd (show _ by decide) h9)
                refine lv_iconst (v := nI 0) X.x X.b dX5_layTable_79 (by decide) ?_
                refine f_iast X hh (j := 12 * i + j) (sh_145 G) (by decide) rfl (by omega) (by decide) dX5_layTable_80 (fun H locs hh => ?_)
                refine lv_aload_n X.x X.b dX5_layTable_81 rfl (lv_at hl 3 rfl) ?_
                refine f_get X hh (v := .ref (gad G 146)) (sh_134 G _) (by decide) rfl in_X5 14 (by decide) kf_X5_44 rfl dX5_layTable_82 ?_
                refine lv_iload_n X.x X.b dX5_layTable_85 rfl (lv_at hl 2 rfl) ?_
                refine lv_iload_n X.x X.b dX5_layTable_86 rfl (lv_at hl 1 rfl) ?_
                refine f_scalli X hh (c5_at l G (i := i) (j := j)) mf_yX5_at ks_yX5_at km_X5_85 rfl hl.1 [.ref (gad G 146)] rfl (Nat.le_of_ble_eq_true rfl) ⟨by decide, by decide⟩ ⟨Nat.zero_le _, Nat.zero_le _⟩ dX5_layTable_87 (fun r τ H locs hq hh => ?_)
                obtain ⟨rfl, hτ⟩ := hq
                rw [hτ] at hh
                clear hτ
                refine lv_iload_n X.x X.b dX5_layTable_90 rfl (lv_at hl 0 rfl) ?_
                refine lv_if_eq (tgt := 98) X.x X.b dX5_layTable_91 (by decide) (fun _ => ?_) (fun h9 => absurd (show _ by decide) h9)
                refine lv_iconst (v := nI 0) X.x X.b dX5_layTable_98 (by decide) ?_
                refine f_iast X hh (j := 12 * i + j) (sh_146 G) (by decide) rfl (by omega) (by decide) dX5_layTable_99 (fun H locs hh => ?_)
                refine lv_iconst (v := nI 0) X.x X.b dX5_layTable_100 (by decide) ?_
                refine lv_istore (lv' := [(4, .int (nI 0)), (3, .int (nI 0)), (2, .int (nI j)), (1, .int (nI i)), (0, .ref (gad G 134))]) X.x X.b dX5_layTable_101 hl (by decide) rfl (fun ls hl => ?_)
                have lp3 : ∀ (k st : Nat), 3 - st = k → st ≤ 3 → ∀ (ζ : Mem), TP ζ I (fun a b => i < a ∨ (a = i ∧ j < b)) → T4 ζ (12 * i + j) (tsa I (TT I) i j st) → Fru σ ζ → ∀ (ls : Array Slot) (H : Heap) (locs : List Loc), lv_has ls 5 [(4, .int (nI st)), (2, .int (nI j)), (1, .int (nI i)), (0, .ref (gad G 134))] → HH G s ζ H locs → WV l G p e s m args below meth c 3 72 (fun τ => TP τ I (fun _ _ => True) ∧ Fru σ τ) H locs (F0 m 103 ls []) := by
                  intro km
                  induction km using Nat.strongRecOn with
                  | ind km ih3 =>
                    intro st hk3 hst ζ hv3 ht3 hf3 ls H locs hl hh
                    refine lv_iload X.x X.b dX5_layTable_103 (lv_at hl 0 rfl) ?_
                    refine lv_iconst (v := nI 3) X.x X.b dX5_layTable_105 (by decide) ?_
                    refine lv_icmp_ge (tgt := 134) X.x X.b dX5_layTable_106 (by decide) (fun c_8 => ?_) (fun c_8 => ?_)
                    · have c_8 : 3 ≤ st := (nI_leI (a := 3) (b := st) (by omega) (by omega)).mp c_8
                      refine lv_iinc (v := dn j) (lv' := [(2, .int (dn j)), (4, .int (nI st)), (1, .int (nI i)), (0, .ref (gad G 134))]) X.x X.b dX5_layTable_134 hl (k := 1) rfl rfl (by decide) rfl (fun ls hl => ?_)
                      refine lv_goto (tgt := 14) X.x X.b dX5_layTable_137 (by decide) ?_
                      refine ih2 j (by omega) j rfl (by omega) _ ?_ hf3 ls H locs (lv_sub hl [0, 2, 3] rfl) hh
                      intro a b h1 h2 h3
                      by_cases e9 : a = i ∧ b = j
                      · rw [e9.1, e9.2, TT_rec hB hi2 hj2]; obtain rfl : st = 3 := (by omega); exact ht3
                      · exact hv3 a b h1 h2 (by omega)
                    · have c_8 : ¬ 3 ≤ st := fun q9 => c_8 ((nI_leI (a := 3) (b := st) (by omega) (by omega)).mpr q9)
                      refine lv_aload_n X.x X.b dX5_layTable_109 rfl (lv_at hl 3 rfl) ?_
                      refine lv_iload X.x X.b dX5_layTable_110 (lv_at hl 0 rfl) ?_
                      refine lv_iload_n X.x X.b dX5_layTable_112 rfl (lv_at hl 2 rfl) ?_
                      refine lv_iload_n X.x X.b dX5_layTable_113 rfl (lv_at hl 1 rfl) ?_
                      refine f_calli X hh (c5_canStep l G (st := st) (i := i) (j := j) hB (hM.ku hf3) (by omega) (by omega) (by omega)) mf_yX5_canStep ki_yX5_canStep kl_yX5_canStep km_X5_99 (sh_134 G _) (by decide) rfl rfl hl.1 [] rfl (Nat.le_of_ble_eq_true rfl) ⟨by decide, by decide⟩ ⟨Nat.zero_le _, Nat.zero_le _⟩ dX5_layTable_114 (fun r τ H locs hq hh => ?_)
                      obtain ⟨rfl, hτ⟩ := hq
                      rw [hτ] at hh
                      clear hτ
                      by_cases c_9 : can I st i j = true
                      · rw [show (if can I st i j = true then (1 : Int32) else 0) = 1 from if_pos c_9]
                        refine lv_if_eq (tgt := 128) X.x X.b dX5_layTable_117 (by decide) (fun h9 => absurd h9 (by decide)) (fun _ => ?_)
                        refine lv_aload_n X.x X.b dX5_layTable_120 rfl (lv_at hl 3 rfl) ?_
                        refine lv_iload X.x X.b dX5_layTable_121 (lv_at hl 0 rfl) ?_
                        refine lv_iload_n X.x X.b dX5_layTable_123 rfl (lv_at hl 2 rfl) ?_
                        refine lv_iload_n X.x X.b dX5_layTable_124 rfl (lv_at hl 1 rfl) ?_
                        have hnx := can_next (by omega) c_9 hi2 hj2
                        have hd9 := dij (st := st)
                        have hT9 := hv3 (i + di st) (j + dj st) hnx.1 hnx.2 (by omega)
                        refine f_callv X hh (c5_take l G (st := st) (i := i) (j := j) hB (hM.ku hf3) (by omega) c_9 hi2 hj2 ht3 hT9 (tsa_b hB hi2 hj2 (by omega)) (tsa_wyb hB (by omega) hi2 hj2 c_9) (TT_b hB hnx.1 hnx.2) (TT_w19 hB hnx.1 hnx.2 (by omega))) mf_yX5_take ki_yX5_take kl_yX5_take km_X5_102 (sh_134 G _) (by decide) rfl rfl hl.1 [] rfl (Nat.le_of_ble_eq_true rfl) ⟨by decide, by decide⟩ ⟨Nat.zero_le _, Nat.zero_le _⟩ dX5_layTable_125 (fun τ H locs hq hh => ?_)
                        obtain ⟨ht4, hf4⟩ := hq
                        refine lv_iinc (v := nI (st + 1)) (lv' := [(4, .int (nI (st + 1))), (2, .int (nI j)), (1, .int (nI i)), (0, .ref (gad G 134))]) X.x X.b dX5_layTable_128 hl (k := 0) rfl (nI_1 st) (by decide) rfl (fun ls hl => ?_)
                        refine lv_goto (tgt := 103) X.x X.b dX5_layTable_131 (by decide) ?_
                        refine ih3 (3 - (st + 1)) (by omega) (st + 1) rfl (by omega) _ ?_ ?_ (hf3.tr (fru_of hf4)) ls H locs (lv_sub hl [0, 1, 2, 3] rfl) hh
                        · intro a b h1 h2 h3; exact (hv3 a b h1 h2 h3).k hf4 (by omega)
                        · rw [tsa_c c_9]; exact ht4
                      · rw [show (if can I st i j = true then (1 : Int32) else 0) = 0 from if_neg c_9]
                        refine lv_if_eq (tgt := 128) X.x X.b dX5_layTable_117 (by decide) (fun _ => ?_) (fun h9 => absurd (show _ by decide) h9)
                        refine lv_iinc (v := nI (st + 1)) (lv' := [(4, .int (nI (st + 1))), (2, .int (nI j)), (1, .int (nI i)), (0, .ref (gad G 134))]) X.x X.b dX5_layTable_128 hl (k := 0) rfl (nI_1 st) (by decide) rfl (fun ls hl => ?_)
                        refine lv_goto (tgt := 103) X.x X.b dX5_layTable_131 (by decide) ?_
                        exact ih3 (3 - (st + 1)) (by omega) (st + 1) rfl (by omega) _ hv3 (by rw [tsa_n c_9]; exact ht3) hf3 ls H locs (lv_sub hl [0, 1, 2, 3] rfl) hh
                refine lp3 3 0 rfl (by omega) _ ?_ ?_ ?_ ls H locs (lv_sub hl [0, 2, 3, 4] rfl) hh
                · intro a b h1 h2 h3
                  obtain ⟨g1, g2, g3, g4⟩ := hv2 a b h1 h2 (by omega)
                  exact ⟨by rw [mset_nn (by omega), mset_nn (by omega), mset_nn (by omega), mset_nn (by omega)]; exact g1, by rw [mset_nn (by omega), mset_nn (by omega), mset_nn (by omega), mset_nn (by omega)]; exact g2, by rw [mset_nn (by omega), mset_nn (by omega), mset_nn (by omega), mset_nn (by omega)]; exact g3, by rw [mset_nn (by omega), mset_nn (by omega), mset_nn (by omega), mset_nn (by omega)]; exact g4⟩
                · refine ⟨(by show _ = nI 0; rw [mset_n (show 143 ≠ 146 by omega), mset_n (show 143 ≠ 145 by omega), mset_n (show 143 ≠ 144 by omega), mset_ss]), (by show _ = nI 0; rw [mset_n (show 144 ≠ 146 by omega), mset_n (show 144 ≠ 145 by omega), mset_ss]), ?_, ?_⟩
                  · rw [show (tsa I (TT I) i j 0).2.2.1 = 0 from if_neg (by omega)]; exact (by rw [mset_n (show 145 ≠ 146 by omega), mset_ss])
                  · rw [show (tsa I (TT I) i j 0).2.2.2 = 0 from if_neg (by omega)]; exact (by rw [mset_ss])
                · intro c9 hc9; rw [mset_n (by omega), mset_n (by omega), mset_n (by omega), mset_n (by omega)]; exact hf2 c9 hc9
              · have c_5 : i = (iN I) := (nI_eq (a := i) (b := (iN I)) (by omega) (by omega)).mp c_5
                refine lv_iload_n X.x X.b dX5_layTable_26 rfl (lv_at hl 0 rfl) ?_
                refine lv_aload_n X.x X.b dX5_layTable_27 rfl (lv_at hl 2 rfl) ?_
                refine f_geti X hh (x := nI (iM I)) (sh_134 G _) (by decide) rfl in_X5 10 (by decide) kf_X5_78 rfl (hM.ku hf2).2.1 dX5_layTable_28 ?_
                refine lv_icmp_ne (tgt := 38) X.x X.b dX5_layTable_31 (by decide) (fun c_12 => ?_) (fun c_12 => ?_)
                · have c_12 : ¬ j = (iM I) := fun q9 => c_12 ((nI_eq (a := j) (b := (iM I)) (by omega) (by omega)).mpr q9)
                  refine lv_iconst (v := nI 0) X.x X.b dX5_layTable_38 (by decide) ?_
                  refine lv_istore_n (lv' := [(3, .int (nI 0)), (2, .int (nI j)), (1, .int (nI i)), (0, .ref (gad G 134))]) X.x X.b dX5_layTable_39 rfl hl (by decide) rfl (fun ls hl => ?_)
                  refine lv_aload_n X.x X.b dX5_layTable_40 rfl (lv_at hl 3 rfl) ?_
                  refine f_get X hh (v := .ref (gad G 143)) (sh_134 G _) (by decide) rfl in_X5 11 (by decide) kf_X5_35 rfl dX5_layTable_41 ?_
                  refine lv_iload_n X.x X.b dX5_layTable_44 rfl (lv_at hl 2 rfl) ?_
                  refine lv_iload_n X.x X.b dX5_layTable_45 rfl (lv_at hl 1 rfl) ?_
                  refine f_scalli X hh (c5_at l G (i := i) (j := j)) mf_yX5_at ks_yX5_at km_X5_85 rfl hl.1 [.ref (gad G 143)] rfl (Nat.le_of_ble_eq_true rfl) ⟨by decide, by decide⟩ ⟨Nat.zero_le _, Nat.zero_le _⟩ dX5_layTable_46 (fun r τ H locs hq hh => ?_)
                  obtain ⟨rfl, hτ⟩ := hq
                  rw [hτ] at hh
                  clear hτ
                  refine lv_iconst (v := nI 0) X.x X.b dX5_layTable_49 (by decide) ?_
                  refine f_iast X hh (j := 12 * i + j) (sh_143 G) (by decide) rfl (by omega) (by decide) dX5_layTable_50 (fun H locs hh => ?_)
                  refine lv_aload_n X.x X.b dX5_layTable_51 rfl (lv_at hl 3 rfl) ?_
                  refine f_get X hh (v := .ref (gad G 144)) (sh_134 G _) (by decide) rfl in_X5 12 (by decide) kf_X5_38 rfl dX5_layTable_52 ?_
                  refine lv_iload_n X.x X.b dX5_layTable_55 rfl (lv_at hl 2 rfl) ?_
                  refine lv_iload_n X.x X.b dX5_layTable_56 rfl (lv_at hl 1 rfl) ?_
                  refine f_scalli X hh (c5_at l G (i := i) (j := j)) mf_yX5_at ks_yX5_at km_X5_85 rfl hl.1 [.ref (gad G 144)] rfl (Nat.le_of_ble_eq_true rfl) ⟨by decide, by decide⟩ ⟨Nat.zero_le _, Nat.zero_le _⟩ dX5_layTable_57 (fun r τ H locs hq hh => ?_)
                  obtain ⟨rfl, hτ⟩ := hq
                  rw [hτ] at hh
                  clear hτ
                  refine lv_iconst (v := nI 0) X.x X.b dX5_layTable_60 (by decide) ?_
                  refine f_iast X hh (j := 12 * i + j) (sh_144 G) (by decide) rfl (by omega) (by decide) dX5_layTable_61 (fun H locs hh => ?_)
                  refine lv_aload_n X.x X.b dX5_layTable_62 rfl (lv_at hl 3 rfl) ?_
                  refine f_get X hh (v := .ref (gad G 145)) (sh_134 G _) (by decide) rfl in_X5 13 (by decide) kf_X5_41 rfl dX5_layTable_63 ?_
                  refine lv_iload_n X.x X.b dX5_layTable_66 rfl (lv_at hl 2 rfl) ?_
                  refine lv_iload_n X.x X.b dX5_layTable_67 rfl (lv_at hl 1 rfl) ?_
                  refine f_scalli X hh (c5_at l G (i := i) (j := j)) mf_yX5_at ks_yX5_at km_X5_85 rfl hl.1 [.ref (gad G 145)] rfl (Nat.le_of_ble_eq_true rfl) ⟨by decide, by decide⟩ ⟨Nat.zero_le _, Nat.zero_le _⟩ dX5_layTable_68 (fun r τ H locs hq hh => ?_)
                  obtain ⟨rfl, hτ⟩ := hq
                  rw [hτ] at hh
                  clear hτ
                  refine lv_iload_n X.x X.b dX5_layTable_71 rfl (lv_at hl 0 rfl) ?_
                  refine lv_if_eq (tgt := 79) X.x X.b dX5_layTable_72 (by decide) (fun _ => ?_) (fun h9 => absurd (show _ by decide) h9)
                  refine lv_iconst (v := nI 0) X.x X.b dX5_layTable_79 (by decide) ?_
                  refine f_iast X hh (j := 12 * i + j) (sh_145 G) (by decide) rfl (by omega) (by decide) dX5_layTable_80 (fun H locs hh => ?_)
                  refine lv_aload_n X.x X.b dX5_layTable_81 rfl (lv_at hl 3 rfl) ?_
                  refine f_get X hh (v := .ref (gad G 146)) (sh_134 G _) (by decide) rfl in_X5 14 (by decide) kf_X5_44 rfl dX5_layTable_82 ?_
                  refine lv_iload_n X.x X.b dX5_layTable_85 rfl (lv_at hl 2 rfl) ?_
                  refine lv_iload_n X.x X.b dX5_layTable_86 rfl (lv_at hl 1 rfl) ?_
                  refine f_scalli X hh (c5_at l G (i := i) (j := j)) mf_yX5_at ks_yX5_at km_X5_85 rfl hl.1 [.ref (gad G 146)] rfl (Nat.le_of_ble_eq_true rfl) ⟨by decide, by decide⟩ ⟨Nat.zero_le _, Nat.zero_le _⟩ dX5_layTable_87 (fun r τ H locs hq hh => ?_)
                  obtain ⟨rfl, hτ⟩ := hq
                  rw [hτ] at hh
                  clear hτ
                  refine lv_iload_n X.x X.b dX5_layTable_90 rfl (lv_at hl 0 rfl) ?_
                  refine lv_if_eq (tgt := 98) X.x X.b dX5_layTable_91 (by decide) (fun _ => ?_) (fun h9 => absurd (show _ by decide) h9)
                  refine lv_iconst (v := nI 0) X.x X.b dX5_layTable_98 (by decide) ?_
                  refine f_iast X hh (j := 12 * i + j) (sh_146 G) (by decide) rfl (by omega) (by decide) dX5_layTable_99 (fun H locs hh => ?_)
                  refine lv_iconst (v := nI 0) X.x X.b dX5_layTable_100 (by decide) ?_
                  refine lv_istore (lv' := [(4, .int (nI 0)), (3, .int (nI 0)), (2, .int (nI j)), (1, .int (nI i)), (0, .ref (gad G 134))]) X.x X.b dX5_layTable_101 hl (by decide) rfl (fun ls hl => ?_)
                  have lp3 : ∀ (k st : Nat), 3 - st = k → st ≤ 3 → ∀ (ζ : Mem), TP ζ I (fun a b => i < a ∨ (a = i ∧ j < b)) → T4 ζ (12 * i + j) (tsa I (TT I) i j st) → Fru σ ζ → ∀ (ls : Array Slot) (H : Heap) (locs : List Loc), lv_has ls 5 [(4, .int (nI st)), (2, .int (nI j)), (1, .int (nI i)), (0, .ref (gad G 134))] → HH G s ζ H locs → WV l G p e s m args below meth c 3 72 (fun τ => TP τ I (fun _ _ => True) ∧ Fru σ τ) H locs (F0 m 103 ls []) := by
                    intro km
                    induction km using Nat.strongRecOn with
                    | ind km ih3 =>
                      intro st hk3 hst ζ hv3 ht3 hf3 ls H locs hl hh
                      refine lv_iload X.x X.b dX5_layTable_103 (lv_at hl 0 rfl) ?_
                      refine lv_iconst (v := nI 3) X.x X.b dX5_layTable_105 (by decide) ?_
                      refine lv_icmp_ge (tgt := 134) X.x X.b dX5_layTable_106 (by decide) (fun c_15 => ?_) (fun c_15 => ?_)
                      · have c_15 : 3 ≤ st := (nI_leI (a := 3) (b := st) (by omega) (by omega)).mp c_15
                        refine lv_iinc (v := dn j) (lv' := [(2, .int (dn j)), (4, .int (nI st)), (1, .int (nI i)), (0, .ref (gad G 134))]) X.x X.b dX5_layTable_134 hl (k := 1) rfl rfl (by decide) rfl (fun ls hl => ?_)
                        refine lv_goto (tgt := 14) X.x X.b dX5_layTable_137 (by decide) ?_
                        refine ih2 j (by omega) j rfl (by omega) _ ?_ hf3 ls H locs (lv_sub hl [0, 2, 3] rfl) hh
                        intro a b h1 h2 h3
                        by_cases e9 : a = i ∧ b = j
                        · rw [e9.1, e9.2, TT_rec hB hi2 hj2]; obtain rfl : st = 3 := (by omega); exact ht3
                        · exact hv3 a b h1 h2 (by omega)
                      · have c_15 : ¬ 3 ≤ st := fun q9 => c_15 ((nI_leI (a := 3) (b := st) (by omega) (by omega)).mpr q9)
                        refine lv_aload_n X.x X.b dX5_layTable_109 rfl (lv_at hl 3 rfl) ?_
                        refine lv_iload X.x X.b dX5_layTable_110 (lv_at hl 0 rfl) ?_
                        refine lv_iload_n X.x X.b dX5_layTable_112 rfl (lv_at hl 2 rfl) ?_
                        refine lv_iload_n X.x X.b dX5_layTable_113 rfl (lv_at hl 1 rfl) ?_
                        refine f_calli X hh (c5_canStep l G (st := st) (i := i) (j := j) hB (hM.ku hf3) (by omega) (by omega) (by omega)) mf_yX5_canStep ki_yX5_canStep kl_yX5_canStep km_X5_99 (sh_134 G _) (by decide) rfl rfl hl.1 [] rfl (Nat.le_of_ble_eq_true rfl) ⟨by decide, by decide⟩ ⟨Nat.zero_le _, Nat.zero_le _⟩ dX5_layTable_114 (fun r τ H locs hq hh => ?_)
                        obtain ⟨rfl, hτ⟩ := hq
                        rw [hτ] at hh
                        clear hτ
                        by_cases c_16 : can I st i j = true
                        · rw [show (if can I st i j = true then (1 : Int32) else 0) = 1 from if_pos c_16]
                          refine lv_if_eq (tgt := 128) X.x X.b dX5_layTable_117 (by decide) (fun h9 => absurd h9 (by decide)) (fun _ => ?_)
                          refine lv_aload_n X.x X.b dX5_layTable_120 rfl (lv_at hl 3 rfl) ?_
                          refine lv_iload X.x X.b dX5_layTable_121 (lv_at hl 0 rfl) ?_
                          refine lv_iload_n X.x X.b dX5_layTable_123 rfl (lv_at hl 2 rfl) ?_
                          refine lv_iload_n X.x X.b dX5_layTable_124 rfl (lv_at hl 1 rfl) ?_
                          have hnx := can_next (by omega) c_16 hi2 hj2
                          have hd9 := dij (st := st)
                          have hT9 := hv3 (i + di st) (j + dj st) hnx.1 hnx.2 (by omega)
                          refine f_callv X hh (c5_take l G (st := st) (i := i) (j := j) hB (hM.ku hf3) (by omega) c_16 hi2 hj2 ht3 hT9 (tsa_b hB hi2 hj2 (by omega)) (tsa_wyb hB (by omega) hi2 hj2 c_16) (TT_b hB hnx.1 hnx.2) (TT_w19 hB hnx.1 hnx.2 (by omega))) mf_yX5_take ki_yX5_take kl_yX5_take km_X5_102 (sh_134 G _) (by decide) rfl rfl hl.1 [] rfl (Nat.le_of_ble_eq_true rfl) ⟨by decide, by decide⟩ ⟨Nat.zero_le _, Nat.zero_le _⟩ dX5_layTable_125 (fun τ H locs hq hh => ?_)
                          obtain ⟨ht4, hf4⟩ := hq
                          refine lv_iinc (v := nI (st + 1)) (lv' := [(4, .int (nI (st + 1))), (2, .int (nI j)), (1, .int (nI i)), (0, .ref (gad G 134))]) X.x X.b dX5_layTable_128 hl (k := 0) rfl (nI_1 st) (by decide) rfl (fun ls hl => ?_)
                          refine lv_goto (tgt := 103) X.x X.b dX5_layTable_131 (by decide) ?_
                          refine ih3 (3 - (st + 1)) (by omega) (st + 1) rfl (by omega) _ ?_ ?_ (hf3.tr (fru_of hf4)) ls H locs (lv_sub hl [0, 1, 2, 3] rfl) hh
                          · intro a b h1 h2 h3; exact (hv3 a b h1 h2 h3).k hf4 (by omega)
                          · rw [tsa_c c_16]; exact ht4
                        · rw [show (if can I st i j = true then (1 : Int32) else 0) = 0 from if_neg c_16]
                          refine lv_if_eq (tgt := 128) X.x X.b dX5_layTable_117 (by decide) (fun _ => ?_) (fun h9 => absurd (show _ by decide) h9)
                          refine lv_iinc (v := nI (st + 1)) (lv' := [(4, .int (nI (st + 1))), (2, .int (nI j)), (1, .int (nI i)), (0, .ref (gad G 134))]) X.x X.b dX5_layTable_128 hl (k := 0) rfl (nI_1 st) (by decide) rfl (fun ls hl => ?_)
                          refine lv_goto (tgt := 103) X.x X.b dX5_layTable_131 (by decide) ?_
                          exact ih3 (3 - (st + 1)) (by omega) (st + 1) rfl (by omega) _ hv3 (by rw [tsa_n c_16]; exact ht3) hf3 ls H locs (lv_sub hl [0, 1, 2, 3] rfl) hh
                  refine lp3 3 0 rfl (by omega) _ ?_ ?_ ?_ ls H locs (lv_sub hl [0, 2, 3, 4] rfl) hh
                  · intro a b h1 h2 h3
                    obtain ⟨g1, g2, g3, g4⟩ := hv2 a b h1 h2 (by omega)
                    exact ⟨by rw [mset_nn (by omega), mset_nn (by omega), mset_nn (by omega), mset_nn (by omega)]; exact g1, by rw [mset_nn (by omega), mset_nn (by omega), mset_nn (by omega), mset_nn (by omega)]; exact g2, by rw [mset_nn (by omega), mset_nn (by omega), mset_nn (by omega), mset_nn (by omega)]; exact g3, by rw [mset_nn (by omega), mset_nn (by omega), mset_nn (by omega), mset_nn (by omega)]; exact g4⟩
                  · refine ⟨(by show _ = nI 0; rw [mset_n (show 143 ≠ 146 by omega), mset_n (show 143 ≠ 145 by omega), mset_n (show 143 ≠ 144 by omega), mset_ss]), (by show _ = nI 0; rw [mset_n (show 144 ≠ 146 by omega), mset_n (show 144 ≠ 145 by omega), mset_ss]), ?_, ?_⟩
                    · rw [show (tsa I (TT I) i j 0).2.2.1 = 0 from if_neg (by omega)]; exact (by rw [mset_n (show 145 ≠ 146 by omega), mset_ss])
                    · rw [show (tsa I (TT I) i j 0).2.2.2 = 0 from if_neg (by omega)]; exact (by rw [mset_ss])
                  · intro c9 hc9; rw [mset_n (by omega), mset_n (by omega), mset_n (by omega), mset_n (by omega)]; exact hf2 c9 hc9
                · have c_12 : j = (iM I) := (nI_eq (a := j) (b := (iM I)) (by omega) (by omega)).mp c_12
                  refine lv_iconst (v := nI 1) X.x X.b dX5_layTable_34 (by decide) ?_
                  refine lv_goto (tgt := 39) X.x X.b dX5_layTable_35 (by decide) ?_
                  refine lv_istore_n (lv' := [(3, .int (nI 1)), (2, .int (nI j)), (1, .int (nI i)), (0, .ref (gad G 134))]) X.x X.b dX5_layTable_39 rfl hl (by decide) rfl (fun ls hl => ?_)
                  refine lv_aload_n X.x X.b dX5_layTable_40 rfl (lv_at hl 3 rfl) ?_
                  refine f_get X hh (v := .ref (gad G 143)) (sh_134 G _) (by decide) rfl in_X5 11 (by decide) kf_X5_35 rfl dX5_layTable_41 ?_
                  refine lv_iload_n X.x X.b dX5_layTable_44 rfl (lv_at hl 2 rfl) ?_
                  refine lv_iload_n X.x X.b dX5_layTable_45 rfl (lv_at hl 1 rfl) ?_
                  refine f_scalli X hh (c5_at l G (i := i) (j := j)) mf_yX5_at ks_yX5_at km_X5_85 rfl hl.1 [.ref (gad G 143)] rfl (Nat.le_of_ble_eq_true rfl) ⟨by decide, by decide⟩ ⟨Nat.zero_le _, Nat.zero_le _⟩ dX5_layTable_46 (fun r τ H locs hq hh => ?_)
                  obtain ⟨rfl, hτ⟩ := hq
                  rw [hτ] at hh
                  clear hτ
                  refine lv_iconst (v := nI 0) X.x X.b dX5_layTable_49 (by decide) ?_
                  refine f_iast X hh (j := 12 * i + j) (sh_143 G) (by decide) rfl (by omega) (by decide) dX5_layTable_50 (fun H locs hh => ?_)
                  refine lv_aload_n X.x X.b dX5_layTable_51 rfl (lv_at hl 3 rfl) ?_
                  refine f_get X hh (v := .ref (gad G 144)) (sh_134 G _) (by decide) rfl in_X5 12 (by decide) kf_X5_38 rfl dX5_layTable_52 ?_
                  refine lv_iload_n X.x X.b dX5_layTable_55 rfl (lv_at hl 2 rfl) ?_
                  refine lv_iload_n X.x X.b dX5_layTable_56 rfl (lv_at hl 1 rfl) ?_
                  refine f_scalli X hh (c5_at l G (i := i) (j := j)) mf_yX5_at ks_yX5_at km_X5_85 rfl hl.1 [.ref (gad G 144)] rfl (Nat.le_of_ble_eq_true rfl) ⟨by decide, by decide⟩ ⟨Nat.zero_le _, Nat.zero_le _⟩ dX5_layTable_57 (fun r τ H locs hq hh => ?_)
                  obtain ⟨rfl, hτ⟩ := hq
                  rw [hτ] at hh
                  clear hτ
                  refine lv_iconst (v := nI 0) X.x X.b dX5_layTable_60 (by decide) ?_
                  refine f_iast X hh (j := 12 * i + j) (sh_144 G) (by decide) rfl (by omega) (by decide) dX5_layTable_61 (fun H locs hh => ?_)
                  refine lv_aload_n X.x X.b dX5_layTable_62 rfl (lv_at hl 3 rfl) ?_
                  refine f_get X hh (v := .ref (gad G 145)) (sh_134 G _) (by decide) rfl in_X5 13 (by decide) kf_X5_41 rfl dX5_layTable_63 ?_
                  refine lv_iload_n X.x X.b dX5_layTable_66 rfl (lv_at hl 2 rfl) ?_
                  refine lv_iload_n X.x X.b dX5_layTable_67 rfl (lv_at hl 1 rfl) ?_
                  refine f_scalli X hh (c5_at l G (i := i) (j := j)) mf_yX5_at ks_yX5_at km_X5_85 rfl hl.1 [.ref (gad G 145)] rfl (Nat.le_of_ble_eq_true rfl) ⟨by decide, by decide⟩ ⟨Nat.zero_le _, Nat.zero_le _⟩ dX5_layTable_68 (fun r τ H locs hq hh => ?_)
                  obtain ⟨rfl, hτ⟩ := hq
                  rw [hτ] at hh
                  clear hτ
                  refine lv_iload_n X.x X.b dX5_layTable_71 rfl (lv_at hl 0 rfl) ?_
                  refine lv_if_eq (tgt := 79) X.x X.b dX5_layTable_72 (by decide) (fun h9 => absurd h9 (by decide)) (fun _ => ?_)
                  refine lv_iconst (v := nI 1) X.x X.b dX5_layTable_75 (by decide) ?_
                  refine lv_goto (tgt := 80) X.x X.b dX5_layTable_76 (by decide) ?_
                  refine f_iast X hh (j := 12 * i + j) (sh_145 G) (by decide) rfl (by omega) (by decide) dX5_layTable_80 (fun H locs hh => ?_)
                  refine lv_aload_n X.x X.b dX5_layTable_81 rfl (lv_at hl 3 rfl) ?_
                  refine f_get X hh (v := .ref (gad G 146)) (sh_134 G _) (by decide) rfl in_X5 14 (by decide) kf_X5_44 rfl dX5_layTable_82 ?_
                  refine lv_iload_n X.x X.b dX5_layTable_85 rfl (lv_at hl 2 rfl) ?_
                  refine lv_iload_n X.x X.b dX5_layTable_86 rfl (lv_at hl 1 rfl) ?_
                  refine f_scalli X hh (c5_at l G (i := i) (j := j)) mf_yX5_at ks_yX5_at km_X5_85 rfl hl.1 [.ref (gad G 146)] rfl (Nat.le_of_ble_eq_true rfl) ⟨by decide, by decide⟩ ⟨Nat.zero_le _, Nat.zero_le _⟩ dX5_layTable_87 (fun r τ H locs hq hh => ?_)
                  obtain ⟨rfl, hτ⟩ := hq
                  rw [hτ] at hh
                  clear hτ
                  refine lv_iload_n X.x X.b dX5_layTable_90 rfl (lv_at hl 0 rfl) ?_
                  refine lv_if_eq (tgt := 98) X.x X.b dX5_layTable_91 (by decide) (fun h9 => absurd h9 (by decide)) (fun _ => ?_)
                  refine lv_iconst (v := nI 1) X.x X.b dX5_layTable_94 (by decide) ?_
                  refine lv_goto (tgt := 99) X.x X.b dX5_layTable_95 (by decide) ?_
                  refine f_iast X hh (j := 12 * i + j) (sh_146 G) (by decide) rfl (by omega) (by decide) dX5_layTable_99 (fun H locs hh => ?_)
                  refine lv_iconst (v := nI 0) X.x X.b dX5_layTable_100 (by decide) ?_
                  refine lv_istore (lv' := [(4, .int (nI 0)), (3, .int (nI 1)), (2, .int (nI j)), (1, .int (nI i)), (0, .ref (gad G 134))]) X.x X.b dX5_layTable_101 hl (by decide) rfl (fun ls hl => ?_)
                  have lp3 : ∀ (k st : Nat), 3 - st = k → st ≤ 3 → ∀ (ζ : Mem), TP ζ I (fun a b => i < a ∨ (a = i ∧ j < b)) → T4 ζ (12 * i + j) (tsa I (TT I) i j st) → Fru σ ζ → ∀ (ls : Array Slot) (H : Heap) (locs : List Loc), lv_has ls 5 [(4, .int (nI st)), (2, .int (nI j)), (1, .int (nI i)), (0, .ref (gad G 134))] → HH G s ζ H locs → WV l G p e s m args below meth c 3 72 (fun τ => TP τ I (fun _ _ => True) ∧ Fru σ τ) H locs (F0 m 103 ls []) := by
                    intro km
                    induction km using Nat.strongRecOn with
                    | ind km ih3 =>
                      intro st hk3 hst ζ hv3 ht3 hf3 ls H locs hl hh
                      refine lv_iload X.x X.b dX5_layTable_103 (lv_at hl 0 rfl) ?_
                      refine lv_iconst (v := nI 3) X.x X.b dX5_layTable_105 (by decide) ?_
                      refine lv_icmp_ge (tgt := 134) X.x X.b dX5_layTable_106 (by decide) (fun c_21 => ?_) (fun c_21 => ?_)
                      · have c_21 : 3 ≤ st := (nI_leI (a := 3) (b := st) (by omega) (by omega)).mp c_21
                        refine lv_iinc (v := dn j) (lv' := [(2, .int (dn j)), (4, .int (nI st)), (1, .int (nI i)), (0, .ref (gad G 134))]) X.x X.b dX5_layTable_134 hl (k := 1) rfl rfl (by decide) rfl (fun ls hl => ?_)
                        refine lv_goto (tgt := 14) X.x X.b dX5_layTable_137 (by decide) ?_
                        refine ih2 j (by omega) j rfl (by omega) _ ?_ hf3 ls H locs (lv_sub hl [0, 2, 3] rfl) hh
                        intro a b h1 h2 h3
                        by_cases e9 : a = i ∧ b = j
                        · rw [e9.1, e9.2, TT_rec hB hi2 hj2]; obtain rfl : st = 3 := (by omega); exact ht3
                        · exact hv3 a b h1 h2 (by omega)
                      · have c_21 : ¬ 3 ≤ st := fun q9 => c_21 ((nI_leI (a := 3) (b := st) (by omega) (by omega)).mpr q9)
                        refine lv_aload_n X.x X.b dX5_layTable_109 rfl (lv_at hl 3 rfl) ?_
                        refine lv_iload X.x X.b dX5_layTable_110 (lv_at hl 0 rfl) ?_
                        refine lv_iload_n X.x X.b dX5_layTable_112 rfl (lv_at hl 2 rfl) ?_
                        refine lv_iload_n X.x X.b dX5_layTable_113 rfl (lv_at hl 1 rfl) ?_
                        refine f_calli X hh (c5_canStep l G (st := st) (i := i) (j := j) hB (hM.ku hf3) (by omega) (by omega) (by omega)) mf_yX5_canStep ki_yX5_canStep kl_yX5_canStep km_X5_99 (sh_134 G _) (by decide) rfl rfl hl.1 [] rfl (Nat.le_of_ble_eq_true rfl) ⟨by decide, by decide⟩ ⟨Nat.zero_le _, Nat.zero_le _⟩ dX5_layTable_114 (fun r τ H locs hq hh => ?_)
                        obtain ⟨rfl, hτ⟩ := hq
                        rw [hτ] at hh
                        clear hτ
                        by_cases c_22 : can I st i j = true
                        · rw [show (if can I st i j = true then (1 : Int32) else 0) = 1 from if_pos c_22]
                          refine lv_if_eq (tgt := 128) X.x X.b dX5_layTable_117 (by decide) (fun h9 => absurd h9 (by decide)) (fun _ => ?_)
                          refine lv_aload_n X.x X.b dX5_layTable_120 rfl (lv_at hl 3 rfl) ?_
                          refine lv_iload X.x X.b dX5_layTable_121 (lv_at hl 0 rfl) ?_
                          refine lv_iload_n X.x X.b dX5_layTable_123 rfl (lv_at hl 2 rfl) ?_
                          refine lv_iload_n X.x X.b dX5_layTable_124 rfl (lv_at hl 1 rfl) ?_
                          have hnx := can_next (by omega) c_22 hi2 hj2
                          have hd9 := dij (st := st)
                          have hT9 := hv3 (i + di st) (j + dj st) hnx.1 hnx.2 (by omega)
                          refine f_callv X hh (c5_take l G (st := st) (i := i) (j := j) hB (hM.ku hf3) (by omega) c_22 hi2 hj2 ht3 hT9 (tsa_b hB hi2 hj2 (by omega)) (tsa_wyb hB (by omega) hi2 hj2 c_22) (TT_b hB hnx.1 hnx.2) (TT_w19 hB hnx.1 hnx.2 (by omega))) mf_yX5_take ki_yX5_take kl_yX5_take km_X5_102 (sh_134 G _) (by decide) rfl rfl hl.1 [] rfl (Nat.le_of_ble_eq_true rfl) ⟨by decide, by decide⟩ ⟨Nat.zero_le _, Nat.zero_le _⟩ dX5_layTable_125 (fun τ H locs hq hh => ?_)
                          obtain ⟨ht4, hf4⟩ := hq
                          refine lv_iinc (v := nI (st + 1)) (lv' := [(4, .int (nI (st + 1))), (2, .int (nI j)), (1, .int (nI i)), (0, .ref (gad G 134))]) X.x X.b dX5_layTable_128 hl (k := 0) rfl (nI_1 st) (by decide) rfl (fun ls hl => ?_)
                          refine lv_goto (tgt := 103) X.x X.b dX5_layTable_131 (by decide) ?_
                          refine ih3 (3 - (st + 1)) (by omega) (st + 1) rfl (by omega) _ ?_ ?_ (hf3.tr (fru_of hf4)) ls H locs (lv_sub hl [0, 1, 2, 3] rfl) hh
                          · intro a b h1 h2 h3; exact (hv3 a b h1 h2 h3).k hf4 (by omega)
                          · rw [tsa_c c_22]; exact ht4
                        · rw [show (if can I st i j = true then (1 : Int32) else 0) = 0 from if_neg c_22]
                          refine lv_if_eq (tgt := 128) X.x X.b dX5_layTable_117 (by decide) (fun _ => ?_) (fun h9 => absurd (show _ by decide) h9)
                          refine lv_iinc (v := nI (st + 1)) (lv' := [(4, .int (nI (st + 1))), (2, .int (nI j)), (1, .int (nI i)), (0, .ref (gad G 134))]) X.x X.b dX5_layTable_128 hl (k := 0) rfl (nI_1 st) (by decide) rfl (fun ls hl => ?_)
                          refine lv_goto (tgt := 103) X.x X.b dX5_layTable_131 (by decide) ?_
                          exact ih3 (3 - (st + 1)) (by omega) (st + 1) rfl (by omega) _ hv3 (by rw [tsa_n c_22]; exact ht3) hf3 ls H locs (lv_sub hl [0, 1, 2, 3] rfl) hh
                  refine lp3 3 0 rfl (by omega) _ ?_ ?_ ?_ ls H locs (lv_sub hl [0, 2, 3, 4] rfl) hh
                  · intro a b h1 h2 h3
                    obtain ⟨g1, g2, g3, g4⟩ := hv2 a b h1 h2 (by omega)
                    exact ⟨by rw [mset_nn (by omega), mset_nn (by omega), mset_nn (by omega), mset_nn (by omega)]; exact g1, by rw [mset_nn (by omega), mset_nn (by omega), mset_nn (by omega), mset_nn (by omega)]; exact g2, by rw [mset_nn (by omega), mset_nn (by omega), mset_nn (by omega), mset_nn (by omega)]; exact g3, by rw [mset_nn (by omega), mset_nn (by omega), mset_nn (by omega), mset_nn (by omega)]; exact g4⟩
                  · refine ⟨(by show _ = nI 0; rw [mset_n (show 143 ≠ 146 by omega), mset_n (show 143 ≠ 145 by omega), mset_n (show 143 ≠ 144 by omega), mset_ss]), (by show _ = nI 0; rw [mset_n (show 144 ≠ 146 by omega), mset_n (show 144 ≠ 145 by omega), mset_ss]), ?_, ?_⟩
                    · rw [show (tsa I (TT I) i j 0).2.2.1 = 1 from if_pos ⟨by omega, by omega⟩]; exact (by rw [mset_n (show 145 ≠ 146 by omega), mset_ss])
                    · rw [show (tsa I (TT I) i j 0).2.2.2 = 1 from if_pos ⟨by omega, by omega⟩]; exact (by rw [mset_ss])
                  · intro c9 hc9; rw [mset_n (by omega), mset_n (by omega), mset_n (by omega), mset_n (by omega)]; exact hf2 c9 hc9
        refine lp2 (iM I + 1) (iM I + 1) rfl (Nat.le_refl _) _ ?_ hf ls H locs ?_ hh
        · intro a b h1 h2 h3; exact hv a b h1 h2 (by omega)
        · rw [dn_s]; exact lv_sub hl [0, 1, 2] rfl
  have hl : lv_has ls 5 [(0, .ref (gad G 134))] := hl
  refine lv_aload_n X.x X.b dX5_layTable_0 rfl (lv_at hl 0 rfl) ?_
  refine f_geti X hh (x := nI (iN I)) (sh_134 G _) (by decide) rfl in_X5 9 (by decide) kf_X5_75 rfl hM.1 dX5_layTable_1 ?_
  refine lv_istore_n (lv' := [(1, .int (nI (iN I))), (0, .ref (gad G 134))]) X.x X.b dX5_layTable_4 rfl hl (by decide) rfl (fun ls hl => ?_)
  refine lp1 (iN I + 1) (iN I + 1) rfl (Nat.le_refl _) σ (fun a b h1 h2 h3 => absurd h3 (by omega)) Fru.rf ls H locs ?_ hh
  rw [dn_s]; exact lv_sub hl [0, 1] rfl
