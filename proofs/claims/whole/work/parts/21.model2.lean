def LRI (σ υ : Mem) (k : Nat) (g : Nat → Nat) (t : Nat) : Prop := (∀ i, i < rdn g t → υ 135 (3 + 9 * k + i) = nI (rdw g t i) ∧ υ 135 (30 + 9 * k + i) = nI (rdz g t i)) ∧ (∀ x, ¬ (3 + 9 * k ≤ x ∧ x < 12 + 9 * k) → ¬ (30 + 9 * k ≤ x ∧ x < 39 + 9 * k) → υ 135 x = σ 135 x) ∧ ∀ c, c ≠ 135 → υ c = σ c
theorem rdn_d {g : Nat → Nat} {t : Nat} (h : g t = 45) : rdn g (t + 1) = rdn g t ∧ rdw g (t + 1) = rdw g t ∧ rdz g (t + 1) = fun i => if i + 1 = rdn g t then 1 else rdz g t i := by
  refine ⟨?_, ?_, ?_⟩
  · show (if g t = 45 then _ else _) = _; rw [if_pos h]
  · show (if g t = 45 then _ else _) = _; rw [if_pos h]
  · show (if g t = 45 then _ else _) = _; rw [if_pos h]
theorem rdn_f {g : Nat → Nat} {t : Nat} (h : ¬ g t = 45) : rdn g (t + 1) = rdn g t + 1 ∧ (rdw g (t + 1) = fun i => if i = rdn g t then g t - 48 else rdw g t i) ∧ rdz g (t + 1) = fun i => if i = rdn g t then 0 else rdz g t i := by
  refine ⟨?_, ?_, ?_⟩
  · show (if g t = 45 then _ else _) = _; rw [if_neg h]
  · show (if g t = 45 then _ else _) = _; rw [if_neg h]
  · show (if g t = 45 then _ else _) = _; rw [if_neg h]
theorem lri_d {σ υ : Mem} {k t : Nat} {g : Nat → Nat} (h : LRI σ υ k g t) (hg : g t = 45) (h0 : 0 < rdn g t) (h9 : rdn g t ≤ 9) (hk : k < 3) : LRI σ (mset υ 135 (30 + 9 * k + rdn g t - 1) (nI 1)) k g (t + 1) := by
  obtain ⟨e1, e2, e3⟩ := rdn_d hg
  obtain ⟨h1, h2, h3⟩ := h
  rw [LRI, e1, e2, e3]
  refine ⟨fun i hi => ⟨?_, ?_⟩, fun x hx hy => ?_, fun c hc => by rw [mset_n hc]; exact h3 c hc⟩
  · rw [mset_sn (by omega)]; exact (h1 i hi).1
  · by_cases e : i + 1 = rdn g t
    · simp only [if_pos e]
      rw [show 30 + 9 * k + i = 30 + 9 * k + rdn g t - 1 by omega]
      exact mset_ss
    · simp only [if_neg e]
      rw [mset_sn (by omega)]; exact (h1 i hi).2
  · rw [mset_sn (by omega)]; exact h2 x hx hy
theorem lri_f {σ υ : Mem} {k t : Nat} {g : Nat → Nat} (h : LRI σ υ k g t) (hg : ¬ g t = 45) (h9 : rdn g t < 9) (hk : k < 3) : LRI σ (mset (mset υ 135 (3 + 9 * k + rdn g t) (nI (g t - 48))) 135 (30 + 9 * k + rdn g t) (nI 0)) k g (t + 1) := by
  obtain ⟨e1, e2, e3⟩ := rdn_f hg
  obtain ⟨h1, h2, h3⟩ := h
  rw [LRI, e1, e2, e3]
  refine ⟨fun i hi => ⟨?_, ?_⟩, fun x hx hy => ?_, fun c hc => by rw [mset_n hc, mset_n hc]; exact h3 c hc⟩
  · rw [mset_sn (by omega)]
    by_cases e : i = rdn g t
    · subst e; simp only [if_pos]; exact mset_ss
    · simp only [if_neg e]; rw [mset_sn (by omega)]; exact (h1 i (by omega)).1
  · by_cases e : i = rdn g t
    · subst e; simp only [if_pos]; exact mset_ss
    · simp only [if_neg e]; rw [mset_sn (by omega), mset_sn (by omega)]; exact (h1 i (by omega)).2
  · rw [mset_sn (by omega), mset_sn (by omega)]; exact h2 x hx hy
theorem RM.lin {σ υ : Mem} {a : AS} {k : Nat} (h : RM σ a) (hB : BBd (aB a)) (hk : k < 3) (hv : LRI σ υ k (apg a) (apn a)) : RM (mset (mset υ 135 (0 + k) (nI (rdn (apg a) (apn a)))) 134 4 (nI 0)) ((0, apg a), bset (aB a) k (rdn (apg a) (apn a)) (rdw (apg a) (apn a)) (rdz (apg a) (apn a)), a.2.2) := by
  obtain ⟨⟨h1, h2⟩, ⟨g1, g2, g3, g4, g5, g6, g7⟩, h4, h5⟩ := h
  obtain ⟨v1, v2, v3⟩ := hv
  refine ⟨⟨mset_ss, fun i hi => absurd hi (Nat.not_lt_zero _)⟩, ?_, fun x hx h9 => ?_, fun x hx => ?_⟩
  · rw [mset_n (by decide)]
    refine ⟨fun i hi => ?_, fun i hi j hj => ?_, fun i hi j hj => ?_, fun i hi => ?_, fun i hi j hj => ?_, fun i hi j hj => ?_, fun x hx => ?_⟩
    · show _ = nI (if i = k then rdn (apg a) (apn a) else bN (aB a) i)
      by_cases e : i = k
      · subst e; rw [mset_ss, if_pos rfl]
      · rw [mset_sn (by omega), if_neg e, v2 _ (by omega) (by omega)]; exact g1 i hi
    · have hj : j < (if i = k then rdn (apg a) (apn a) else bN (aB a) i) := hj
      show _ = nI ((if i = k then rdw (apg a) (apn a) else bW (aB a) i) j)
      by_cases e : i = k
      · subst e; rw [if_pos rfl] at hj ⊢; rw [mset_sn (by omega)]; exact (v1 j hj).1
      · rw [if_neg e] at hj ⊢; have := (hB.1 i hi).1; rw [mset_sn (by omega), v2 _ (by omega) (by omega)]; exact g2 i hi j hj
    · have hj : j < (if i = k then rdn (apg a) (apn a) else bN (aB a) i) := hj
      show _ = nI ((if i = k then rdz (apg a) (apn a) else bZ (aB a) i) j)
      by_cases e : i = k
      · subst e; rw [if_pos rfl] at hj ⊢; rw [mset_sn (by omega)]; exact (v1 j hj).2
      · rw [if_neg e] at hj ⊢; have := (hB.1 i hi).1; rw [mset_sn (by omega), v2 _ (by omega) (by omega)]; exact g3 i hi j hj
    · show _ = nI (if 3 + i = k then rdn (apg a) (apn a) else bN (aB a) (3 + i))
      rw [if_neg (by omega), mset_sn (by omega), v2 _ (by omega) (by omega)]; exact g4 i hi
    · have hj : j < (if 3 + i = k then rdn (apg a) (apn a) else bN (aB a) (3 + i)) := hj
      rw [if_neg (by omega)] at hj
      have := (hB.2.1 (3 + i) (by omega) (by omega)).1
      show _ = nI ((if 3 + i = k then rdw (apg a) (apn a) else bW (aB a) (3 + i)) j)
      rw [if_neg (by omega), mset_sn (by omega), v2 _ (by omega) (by omega)]; exact g5 i hi j hj
    · have hj : j < (if 3 + i = k then rdn (apg a) (apn a) else bN (aB a) (3 + i)) := hj
      rw [if_neg (by omega)] at hj
      have := (hB.2.1 (3 + i) (by omega) (by omega)).1
      show _ = nI ((if 3 + i = k then rdz (apg a) (apn a) else bZ (aB a) (3 + i)) j)
      rw [if_neg (by omega), mset_sn (by omega), v2 _ (by omega) (by omega)]; exact g6 i hi j hj
    · rw [mset_sn (by omega), v2 _ (by omega) (by omega)]; exact g7 x hx
  · rw [mset_n (by decide), mset_n (by decide), v3 136 (by decide)]; exact h4 x hx h9
  · rw [mset_n (by decide), mset_n (by decide), v3 137 (by decide)]; exact h5 x hx
def TRJ (σ υ : Mem) (k : Nat) (g : Nat → Nat) (t : Nat) : Prop := (∀ i, i < t → υ 135 (61 + 11 * k + i) = nI (g (2 * i) - 48) ∧ υ 135 (105 + 11 * k + i) = nI (g (2 * i + 1) - 48)) ∧ (∀ x, ¬ (61 + 11 * k ≤ x ∧ x < 72 + 11 * k) → ¬ (105 + 11 * k ≤ x ∧ x < 116 + 11 * k) → υ 135 x = σ 135 x) ∧ ∀ c, c ≠ 135 → υ c = σ c
theorem trj_s {σ υ : Mem} {k t : Nat} {g : Nat → Nat} (h : TRJ σ υ k g t) (ht : t < 11) (hk : k < 4) : TRJ σ (mset (mset υ 135 (61 + 11 * k + t) (nI (g (2 * t) - 48))) 135 (105 + 11 * k + t) (nI (g (2 * t + 1) - 48))) k g (t + 1) := by
  obtain ⟨h1, h2, h3⟩ := h
  refine ⟨fun i hi => ⟨?_, ?_⟩, fun x hx hy => ?_, fun c hc => by rw [mset_n hc, mset_n hc]; exact h3 c hc⟩
  · rw [mset_sn (by omega)]
    by_cases e : i = t
    · subst e; exact mset_ss
    · rw [mset_sn (by omega)]; exact (h1 i (by omega)).1
  · by_cases e : i = t
    · subst e; exact mset_ss
    · rw [mset_sn (by omega), mset_sn (by omega)]; exact (h1 i (by omega)).2
  · rw [mset_sn (by omega), mset_sn (by omega)]; exact h2 x hx hy
theorem RM.tun {σ υ : Mem} {a : AS} {k : Nat} (h : RM σ a) (hB : BBd (aB a)) (hk : k < 4) (hn : apn a ≤ 22) (hv : TRJ σ υ k (apg a) (apn a / 2)) : RM (mset (mset υ 135 (57 + k) (nI (apn a / 2))) 134 4 (nI 0)) ((0, apg a), bset (aB a) (3 + k) (apn a / 2) (fun j => apg a (2 * j) - 48) (fun j => apg a (2 * j + 1) - 48), a.2.2) := by
  obtain ⟨⟨h1, h2⟩, ⟨g1, g2, g3, g4, g5, g6, g7⟩, h4, h5⟩ := h
  obtain ⟨v1, v2, v3⟩ := hv
  refine ⟨⟨mset_ss, fun i hi => absurd hi (Nat.not_lt_zero _)⟩, ?_, fun x hx h9 => ?_, fun x hx => ?_⟩
  · rw [mset_n (by decide)]
    refine ⟨fun i hi => ?_, fun i hi j hj => ?_, fun i hi j hj => ?_, fun i hi => ?_, fun i hi j hj => ?_, fun i hi j hj => ?_, fun x hx => ?_⟩
    · show _ = nI (if i = 3 + k then apn a / 2 else bN (aB a) i)
      rw [if_neg (by omega), mset_sn (by omega), v2 _ (by omega) (by omega)]; exact g1 i hi
    · have hj : j < (if i = 3 + k then apn a / 2 else bN (aB a) i) := hj
      rw [if_neg (by omega)] at hj
      have := (hB.1 i hi).1
      show _ = nI ((if i = 3 + k then (fun j => apg a (2 * j) - 48) else bW (aB a) i) j)
      rw [if_neg (by omega), mset_sn (by omega), v2 _ (by omega) (by omega)]; exact g2 i hi j hj
    · have hj : j < (if i = 3 + k then apn a / 2 else bN (aB a) i) := hj
      rw [if_neg (by omega)] at hj
      have := (hB.1 i hi).1
      show _ = nI ((if i = 3 + k then (fun j => apg a (2 * j + 1) - 48) else bZ (aB a) i) j)
      rw [if_neg (by omega), mset_sn (by omega), v2 _ (by omega) (by omega)]; exact g3 i hi j hj
    · show _ = nI (if 3 + i = 3 + k then apn a / 2 else bN (aB a) (3 + i))
      by_cases e : i = k
      · subst e; rw [mset_ss, if_pos rfl]
      · rw [mset_sn (by omega), if_neg (by omega), v2 _ (by omega) (by omega)]; exact g4 i hi
    · have hj : j < (if 3 + i = 3 + k then apn a / 2 else bN (aB a) (3 + i)) := hj
      show _ = nI ((if 3 + i = 3 + k then (fun j => apg a (2 * j) - 48) else bW (aB a) (3 + i)) j)
      by_cases e : i = k
      · subst e; rw [if_pos rfl] at hj ⊢; rw [mset_sn (by omega)]; exact (v1 j hj).1
      · rw [if_neg (by omega)] at hj ⊢; have := (hB.2.1 (3 + i) (by omega) (by omega)).1; rw [mset_sn (by omega), v2 _ (by omega) (by omega)]; exact g5 i hi j hj
    · have hj : j < (if 3 + i = 3 + k then apn a / 2 else bN (aB a) (3 + i)) := hj
      show _ = nI ((if 3 + i = 3 + k then (fun j => apg a (2 * j + 1) - 48) else bZ (aB a) (3 + i)) j)
      by_cases e : i = k
      · subst e; rw [if_pos rfl] at hj ⊢; rw [mset_sn (by omega)]; exact (v1 j hj).2
      · rw [if_neg (by omega)] at hj ⊢; have := (hB.2.1 (3 + i) (by omega) (by omega)).1; rw [mset_sn (by omega), v2 _ (by omega) (by omega)]; exact g6 i hi j hj
    · rw [mset_sn (by omega), v2 _ (by omega) (by omega)]; exact g7 x hx
  · rw [mset_n (by decide), mset_n (by decide), v3 136 (by decide)]; exact h4 x hx h9
  · rw [mset_n (by decide), mset_n (by decide), v3 137 (by decide)]; exact h5 x hx
theorem RM.img {σ υ : Mem} {a : AS} {k : Nat} (h : RM σ a) (hA : AOK a) (hk : k ≤ 1) (h1 : ∀ x, x < 153 → υ 136 (153 * k + x) = σ 135 x) (h2 : ∀ x, ¬ (153 * k ≤ x ∧ x < 153 * k + 153) → υ 136 x = σ 136 x) (h3 : ∀ c, c ≠ 136 → υ c = σ c) : RM (mset υ 137 k (nI 1)) (a.1, aB a, (fun q => if q = k then aB a else aI a q), fun q => if q = k then true else aK a q) := by
  obtain ⟨⟨g1, g2⟩, g3, g4, g5⟩ := h
  refine ⟨⟨by rw [mset_n (by decide), h3 _ (by decide)]; exact g1, fun i hi => by rw [mset_n (by decide), h3 _ (by decide)]; exact g2 i hi⟩, by rw [mset_n (by decide), h3 _ (by decide)]; exact g3, fun q hq h9 => ?_, fun q hq => ?_⟩
  · have h9 : (if q = k then true else aK a q) = true := h9
    show MBk _ (if q = k then aB a else aI a q)
    rw [mset_n (by decide)]
    by_cases e : q = k
    · subst e; rw [if_pos rfl]; exact g3.cg hA.2.2.1 h1
    · rw [if_neg e] at h9 ⊢
      exact (g4 q hq h9).cg (hA.2.2.2 q hq h9) (fun x hx => h2 _ (by omega))
  · show _ = nI (if (if q = k then true else aK a q) = true then 1 else 0)
    by_cases e : q = k
    · subst e; rw [mset_ss, if_pos rfl, if_pos rfl]
    · rw [mset_sn e, if_neg e, h3 _ (by decide)]; exact g5 q hq
theorem RM.rst {σ υ : Mem} {a : AS} {k : Nat} (h : RM σ a) (hA : AOK a) (hk : k ≤ 1) (hK : aK a k = true) (h1 : ∀ x, x < 153 → υ 135 x = σ 136 (153 * k + x)) (h3 : ∀ c, c ≠ 135 → υ c = σ c) : RM υ (a.1, aI a k, a.2.2) := by
  obtain ⟨⟨g1, g2⟩, g3, g4, g5⟩ := h
  exact ⟨⟨by rw [h3 _ (by decide)]; exact g1, fun i hi => by rw [h3 _ (by decide)]; exact g2 i hi⟩, (g4 k (by omega) hK).cg (hA.2.2.2 k (by omega) hK) h1, fun q hq h9 => by rw [h3 136 (by decide)]; exact g4 q hq h9, fun q hq => by rw [h3 137 (by decide)]; exact g5 q hq⟩
set_option maxHeartbeats 4000000 in
set_option maxRecDepth 100000 in
theorem c5_line (l : Launch) (G : GG) {σ : Mem} {a : AS} (x : Int32) (hA : AOK a) (hR : RM σ a) : Ci l G yX5_line cX5_line 4 (some .int) 3 69 [.ref (gad G 134), .int x] σ (fun r τ => r = sp_line x a ∧ RM τ (ns_line x a) ∧ FrM σ τ) := by
  refine Ci.of (own := RX5) (by decide) rfl (Nat.le_of_ble_eq_true rfl) (fun p e s m args below meth c ls H locs X hl hh => ?_)
  have hn := hA.1
  have hg := hA.2.1
  have hl : lv_has ls 4 [(0, .ref (gad G 134)), (1, .int x)] := hl
  refine lv_iload_n X.x X.b dX5_line_0 rfl (lv_at hl 1 rfl) ?_
  refine f_scalli X hh (c5_isLine l G x) mf_yX5_isLine ks_yX5_isLine km_X5_68 rfl hl.1 [] rfl (Nat.le_of_ble_eq_true rfl) ⟨by decide, by decide⟩ ⟨Nat.zero_le _, Nat.zero_le _⟩ dX5_line_1 (fun r τ H locs hq hh => ?_)
  obtain ⟨rfl, hτ⟩ := hq
  rw [hτ] at hh
  clear hτ
  by_cases c_1 : inB x 0 2
  · rw [show (if inB x 0 2 then (1 : Int32) else 0) = 1 from if_pos c_1]
    obtain ⟨k, ha_k, hb_k, rfl⟩ := inB_of c_1 (by decide)
    refine lv_if_ne (tgt := 9) X.x X.b dX5_line_4 (by decide) (fun _ => ?_) (fun h9 => absurd h9 (by decide))
    refine lv_aload_n X.x X.b dX5_line_9 rfl (lv_at hl 0 rfl) ?_
    refine f_calli X hh (c5_lineFault l G hA hR) mf_yX5_lineFault ki_yX5_lineFault kl_yX5_lineFault km_X5_61 (sh_134 G _) (by decide) rfl rfl hl.1 [] rfl (Nat.le_of_ble_eq_true rfl) ⟨by decide, by decide⟩ ⟨Nat.zero_le _, Nat.zero_le _⟩ dX5_line_10 (fun r τ H locs hq hh => ?_)
    obtain ⟨rfl, hτ⟩ := hq
    rw [hτ] at hh
    clear hτ
    refine lv_if_lt (tgt := 19) X.x X.b dX5_line_13 (by decide) (fun c_3 => ?_) (fun c_3 => ?_)
    · have hl6 := (lans_lt hn).mp c_3
      have hok := lans_ok hn hl6
      have lp : ∀ (q t : Nat), apn a - t = q → t ≤ apn a → ∀ (υ : Mem), LRI σ υ k (apg a) t → ∀ (ls : Array Slot) (H : Heap) (locs : List Loc), lv_has ls 4 [(3, .int (nI t)), (2, .int (nI (rdn (apg a) t))), (0, .ref (gad G 134)), (1, .int (nI k))] → HH G s υ H locs → WI l G p e s m args below meth c 3 69 (fun r τ => r = sp_line (nI k) a ∧ RM τ (ns_line (nI k) a) ∧ FrM σ τ) H locs (F0 m 23 ls []) := by
        intro km
        induction km using Nat.strongRecOn with
        | ind km ih =>
          intro t hk hi υ hv ls H locs hl hh
          have hg2 := hg t
          have hc := rdn_ok (g := apg a) (k := t) (fun j hj => hok j (by omega))
          refine lv_iload_n X.x X.b dX5_line_23 rfl (lv_at hl 0 rfl) ?_
          refine lv_aload_n X.x X.b dX5_line_24 rfl (lv_at hl 2 rfl) ?_
          refine f_geti X hh (x := nI (apn a)) (sh_134 G _) (by decide) rfl in_X5 4 (by decide) kf_X5_54 rfl (by rw [hv.2.2 134 (by decide)]; exact hR.1.1) dX5_line_25 ?_
          refine lv_icmp_ge (tgt := 108) X.x X.b dX5_line_28 (by decide) (fun c_4 => ?_) (fun c_4 => ?_)
          · have c_4 : (apn a) ≤ t := (nI_leI (a := (apn a)) (b := t) (by omega) (by omega)).mp c_4
            refine lv_aload_n X.x X.b dX5_line_108 rfl (lv_at hl 2 rfl) ?_
            refine f_get X hh (v := .ref (gad G 135)) (sh_134 G _) (by decide) rfl in_X5 0 (by decide) kf_X5_7 rfl dX5_line_109 ?_
            refine lv_iconst (v := nI 0) X.x X.b dX5_line_112 (by decide) ?_
            refine lv_iload_n X.x X.b dX5_line_113 rfl (lv_at hl 3 rfl) ?_
            refine f_iadd X (z := nI (0 + k)) (nI_add 0 k) dX5_line_114 ?_
            refine lv_iload_n X.x X.b dX5_line_115 rfl (lv_at hl 1 rfl) ?_
            refine f_iast X hh (j := 0 + k) (sh_135 G) (by decide) rfl (by omega) (by decide) dX5_line_116 (fun H locs hh => ?_)
            refine lv_aload_n X.x X.b dX5_line_117 rfl (lv_at hl 2 rfl) ?_
            refine lv_iconst (v := nI 0) X.x X.b dX5_line_118 (by decide) ?_
            refine f_put X hh (x := nI 0) (sh_134 G _) (by decide) rfl in_X5 4 (sh_134 G _) tyX5 tyX5_ok nmX5 (by decide) kf_X5_54 rfl (by decide +kernel) (Nat.le_of_ble_eq_true rfl) dX5_line_119 (fun H locs hh => ?_)
            refine lv_iload_n X.x X.b dX5_line_122 rfl (lv_at hl 1 rfl) ?_
            exact f_iret X hh ⟨by have e9 : t = apn a := (by omega); subst e9; unfold sp_line; rw [if_pos c_1, if_pos hl6], by have e9 : t = apn a := (by omega); subst e9; unfold ns_line; rw [if_pos c_1, if_pos hl6, ix_nI (by omega)]; exact hR.lin hA.2.2.1 (by omega) hv, fun k9 h9 => by rw [mset_n (by omega), mset_n (by omega)]; exact hv.2.2 k9 (by omega)⟩ dX5_line_123
          · have c_4 : ¬ (apn a) ≤ t := fun q9 => c_4 ((nI_leI (a := (apn a)) (b := t) (by omega) (by omega)).mpr q9)
            refine lv_aload_n X.x X.b dX5_line_31 rfl (lv_at hl 2 rfl) ?_
            refine f_get X hh (v := .ref (gad G 138)) (sh_134 G _) (by decide) rfl in_X5 3 (by decide) kf_X5_20 rfl dX5_line_32 ?_
            refine lv_iload_n X.x X.b dX5_line_35 rfl (lv_at hl 0 rfl) ?_
            refine f_ialdx X hh (j := t) (y := nI (apg a t)) (sh_138 G _) (by decide) rfl (by omega) (by decide) (by rw [hv.2.2 138 (by decide)]; exact hR.1.2 _ (by omega)) dX5_line_36 ?_
            refine lv_bipush (v := nI 45) X.x X.b dX5_line_37 (by decide) ?_
            refine lv_icmp_ne (tgt := 62) X.x X.b dX5_line_39 (by decide) (fun c_5 => ?_) (fun c_5 => ?_)
            · have c_5 : ¬ (apg a t) = 45 := fun q9 => c_5 ((nI_eq (a := (apg a t)) (b := 45) (by omega) (by omega)).mpr q9)
              have hfig := okL_ne (hok t (by omega)) c_5
              refine lv_aload_n X.x X.b dX5_line_62 rfl (lv_at hl 2 rfl) ?_
              refine f_get X hh (v := .ref (gad G 135)) (sh_134 G _) (by decide) rfl in_X5 0 (by decide) kf_X5_7 rfl dX5_line_63 ?_
              refine lv_iconst (v := nI 3) X.x X.b dX5_line_66 (by decide) ?_
              refine lv_bipush (v := nI 9) X.x X.b dX5_line_67 (by decide) ?_
              refine lv_iload_n X.x X.b dX5_line_69 rfl (lv_at hl 3 rfl) ?_
              refine f_imul X (z := nI (9 * k)) (pk_mul 9 k) dX5_line_70 ?_
              refine f_iadd X (z := nI (3 + 9 * k)) (nI_add 3 (9 * k)) dX5_line_71 ?_
              refine lv_iload_n X.x X.b dX5_line_72 rfl (lv_at hl 1 rfl) ?_
              refine f_iadd X (z := nI (3 + 9 * k + rdn (apg a) t)) (nI_add (3 + 9 * k) (rdn (apg a) t)) dX5_line_73 ?_
              refine lv_aload_n X.x X.b dX5_line_74 rfl (lv_at hl 2 rfl) ?_
              refine f_get X hh (v := .ref (gad G 138)) (sh_134 G _) (by decide) rfl in_X5 3 (by decide) kf_X5_20 rfl dX5_line_75 ?_
              refine lv_iload_n X.x X.b dX5_line_78 rfl (lv_at hl 0 rfl) ?_
              refine f_ialdx X hh (j := t) (y := nI (apg a t)) (sh_138 G _) (by decide) rfl (by omega) (by decide) (by rw [hv.2.2 138 (by decide)]; exact hR.1.2 _ (by omega)) dX5_line_79 ?_
              refine lv_bipush (v := nI 48) X.x X.b dX5_line_80 (by decide) ?_
              refine f_isub X (z := nI (apg a t - 48)) (pk_sub (a := apg a t) (b := 48) (by omega)) dX5_line_82 ?_
              refine f_iast X hh (j := 3 + 9 * k + rdn (apg a) t) (sh_135 G) (by decide) rfl (by omega) (by decide) dX5_line_83 (fun H locs hh => ?_)
              refine lv_aload_n X.x X.b dX5_line_84 rfl (lv_at hl 2 rfl) ?_
              refine f_get X hh (v := .ref (gad G 135)) (sh_134 G _) (by decide) rfl in_X5 0 (by decide) kf_X5_7 rfl dX5_line_85 ?_
              refine lv_bipush (v := nI 30) X.x X.b dX5_line_88 (by decide) ?_
              refine lv_bipush (v := nI 9) X.x X.b dX5_line_90 (by decide) ?_
              refine lv_iload_n X.x X.b dX5_line_92 rfl (lv_at hl 3 rfl) ?_
              refine f_imul X (z := nI (9 * k)) (pk_mul 9 k) dX5_line_93 ?_
              refine f_iadd X (z := nI (30 + 9 * k)) (nI_add 30 (9 * k)) dX5_line_94 ?_
              refine lv_iload_n X.x X.b dX5_line_95 rfl (lv_at hl 1 rfl) ?_
              refine f_iadd X (z := nI (30 + 9 * k + rdn (apg a) t)) (nI_add (30 + 9 * k) (rdn (apg a) t)) dX5_line_96 ?_
              refine lv_iconst (v := nI 0) X.x X.b dX5_line_97 (by decide) ?_
              refine f_iast X hh (j := 30 + 9 * k + rdn (apg a) t) (sh_135 G) (by decide) rfl (by omega) (by decide) dX5_line_98 (fun H locs hh => ?_)
              refine lv_iinc (v := nI (rdn (apg a) t + 1)) (lv' := [(2, .int (nI (rdn (apg a) t + 1))), (3, .int (nI t)), (0, .ref (gad G 134)), (1, .int (nI k))]) X.x X.b dX5_line_99 hl (k := 1) rfl (nI_1 (rdn (apg a) t)) (by decide) rfl (fun ls hl => ?_)
              refine lv_iinc (v := nI (t + 1)) (lv' := [(3, .int (nI (t + 1))), (2, .int (nI (rdn (apg a) t + 1))), (0, .ref (gad G 134)), (1, .int (nI k))]) X.x X.b dX5_line_102 hl (k := 1) rfl (nI_1 t) (by decide) rfl (fun ls hl => ?_)
              refine lv_goto (tgt := 23) X.x X.b dX5_line_105 (by decide) ?_
              have e9 := (rdn_f c_5).1
              refine ih (apn a - (t + 1)) (by omega) (t + 1) rfl (by omega) _ (lri_f hv c_5 hfig.1 (by omega)) ls H locs ?_ hh
              rw [e9]; exact lv_sub hl [0, 1, 2, 3] rfl
            · have c_5 : (apg a t) = 45 := (nI_eq (a := (apg a t)) (b := 45) (by omega) (by omega)).mp c_5
              have hpos : 0 < rdn (apg a) t := rdn_pos (fun j hj => hok j (by omega)) (by intro e9; subst e9; have := hok 0 (by omega); simp [okL, figL, may] at this; omega)
              refine lv_aload_n X.x X.b dX5_line_42 rfl (lv_at hl 2 rfl) ?_
              refine f_get X hh (v := .ref (gad G 135)) (sh_134 G _) (by decide) rfl in_X5 0 (by decide) kf_X5_7 rfl dX5_line_43 ?_
              refine lv_bipush (v := nI 30) X.x X.b dX5_line_46 (by decide) ?_
              refine lv_bipush (v := nI 9) X.x X.b dX5_line_48 (by decide) ?_
              refine lv_iload_n X.x X.b dX5_line_50 rfl (lv_at hl 3 rfl) ?_
              refine f_imul X (z := nI (9 * k)) (pk_mul 9 k) dX5_line_51 ?_
              refine f_iadd X (z := nI (30 + 9 * k)) (nI_add 30 (9 * k)) dX5_line_52 ?_
              refine lv_iload_n X.x X.b dX5_line_53 rfl (lv_at hl 1 rfl) ?_
              refine f_iadd X (z := nI (30 + 9 * k + rdn (apg a) t)) (nI_add (30 + 9 * k) (rdn (apg a) t)) dX5_line_54 ?_
              refine lv_iconst (v := nI 1) X.x X.b dX5_line_55 (by decide) ?_
              refine f_isub X (z := nI (30 + 9 * k + rdn (apg a) t - 1)) (pk_sub (a := 30 + 9 * k + rdn (apg a) t) (b := 1) (by omega)) dX5_line_56 ?_
              refine lv_iconst (v := nI 1) X.x X.b dX5_line_57 (by decide) ?_
              refine f_iast X hh (j := 30 + 9 * k + rdn (apg a) t - 1) (sh_135 G) (by decide) rfl (by omega) (by decide) dX5_line_58 (fun H locs hh => ?_)
              refine lv_goto (tgt := 102) X.x X.b dX5_line_59 (by decide) ?_
              refine lv_iinc (v := nI (t + 1)) (lv' := [(3, .int (nI (t + 1))), (2, .int (nI (rdn (apg a) t))), (0, .ref (gad G 134)), (1, .int (nI k))]) X.x X.b dX5_line_102 hl (k := 0) rfl (nI_1 t) (by decide) rfl (fun ls hl => ?_)
              refine lv_goto (tgt := 23) X.x X.b dX5_line_105 (by decide) ?_
              have e9 := (rdn_d c_5).1
              refine ih (apn a - (t + 1)) (by omega) (t + 1) rfl (by omega) _ (lri_d hv c_5 hpos hc (by omega)) ls H locs ?_ hh
              rw [e9]; exact lv_sub hl [0, 1, 2, 3] rfl
      refine lv_iconst (v := nI 0) X.x X.b dX5_line_19 (by decide) ?_
      refine lv_istore_n (lv' := [(2, .int (nI 0)), (0, .ref (gad G 134)), (1, .int (nI k))]) X.x X.b dX5_line_20 rfl hl (by decide) rfl (fun ls hl => ?_)
      refine lv_iconst (v := nI 0) X.x X.b dX5_line_21 (by decide) ?_
      refine lv_istore_n (lv' := [(3, .int (nI 0)), (2, .int (nI 0)), (0, .ref (gad G 134)), (1, .int (nI k))]) X.x X.b dX5_line_22 rfl hl (by decide) rfl (fun ls hl => ?_)
      exact lp (apn a) 0 rfl (by omega) σ ⟨fun i hi => absurd hi (Nat.not_lt_zero _), fun x _ _ => rfl, fun _ _ => rfl⟩ ls H locs (lv_sub hl [0, 1, 2, 3] rfl) hh
    · refine lv_bipush (v := (-7)) X.x X.b dX5_line_16 (by decide) ?_
      exact f_iret X hh ⟨by unfold sp_line; rw [if_pos c_1, if_neg (fun q9 => c_3 ((lans_lt hn).mpr q9))], by unfold ns_line; rw [if_pos c_1, if_neg (fun q9 => c_3 ((lans_lt hn).mpr q9))]; exact hR, FrM.rf⟩ dX5_line_18
  · rw [show (if inB x 0 2 then (1 : Int32) else 0) = 0 from if_neg c_1]
    refine lv_if_ne (tgt := 9) X.x X.b dX5_line_4 (by decide) (fun h9 => absurd (show _ by decide) h9) (fun _ => ?_)
    refine lv_iconst (v := (-1)) X.x X.b dX5_line_7 (by decide) ?_
    exact f_iret X hh ⟨(if_neg c_1).symm, by unfold ns_line; rw [if_neg c_1]; exact hR, FrM.rf⟩ dX5_line_8
set_option maxHeartbeats 4000000 in
set_option maxRecDepth 100000 in
theorem c5_tune (l : Launch) (G : GG) {σ : Mem} {a : AS} (x : Int32) (hA : AOK a) (hR : RM σ a) : Ci l G yX5_tune cX5_tune 4 (some .int) 3 67 [.ref (gad G 134), .int x] σ (fun r τ => r = sp_tune x a ∧ RM τ (ns_tune x a) ∧ FrM σ τ) := by
  refine Ci.of (own := RX5) (by decide) rfl (Nat.le_of_ble_eq_true rfl) (fun p e s m args below meth c ls H locs X hl hh => ?_)
  have hn := hA.1
  have hg := hA.2.1
  have hl : lv_has ls 4 [(0, .ref (gad G 134)), (1, .int x)] := hl
  refine lv_iload_n X.x X.b dX5_tune_0 rfl (lv_at hl 1 rfl) ?_
  refine f_scalli X hh (c5_isTune l G x) mf_yX5_isTune ks_yX5_isTune km_X5_72 rfl hl.1 [] rfl (Nat.le_of_ble_eq_true rfl) ⟨by decide, by decide⟩ ⟨Nat.zero_le _, Nat.zero_le _⟩ dX5_tune_1 (fun r τ H locs hq hh => ?_)
  obtain ⟨rfl, hτ⟩ := hq
  rw [hτ] at hh
  clear hτ
  by_cases c_1 : inB x 0 3
  · rw [show (if inB x 0 3 then (1 : Int32) else 0) = 1 from if_pos c_1]
    obtain ⟨k, ha_k, hb_k, rfl⟩ := inB_of c_1 (by decide)
    refine lv_if_ne (tgt := 9) X.x X.b dX5_tune_4 (by decide) (fun _ => ?_) (fun h9 => absurd h9 (by decide))
    refine lv_aload_n X.x X.b dX5_tune_9 rfl (lv_at hl 0 rfl) ?_
    refine f_calli X hh (c5_tuneFault l G hA hR) mf_yX5_tuneFault ki_yX5_tuneFault kl_yX5_tuneFault km_X5_65 (sh_134 G _) (by decide) rfl rfl hl.1 [] rfl (Nat.le_of_ble_eq_true rfl) ⟨by decide, by decide⟩ ⟨Nat.zero_le _, Nat.zero_le _⟩ dX5_tune_10 (fun r τ H locs hq hh => ?_)
    obtain ⟨rfl, hτ⟩ := hq
    rw [hτ] at hh
    clear hτ
    refine lv_if_lt (tgt := 19) X.x X.b dX5_tune_13 (by decide) (fun c_3 => ?_) (fun c_3 => ?_)
    · have hl6 := (tans_lt hn).mp c_3
      have hok := (tans_ok hn hl6).1
      have lp : ∀ (q t : Nat), apn a / 2 - t = q → t ≤ apn a / 2 → ∀ (υ : Mem), TRJ σ υ k (apg a) t → ∀ (ls : Array Slot) (H : Heap) (locs : List Loc), lv_has ls 4 [(3, .int (nI t)), (2, .int (nI (apn a / 2))), (0, .ref (gad G 134)), (1, .int (nI k))] → HH G s υ H locs → WI l G p e s m args below meth c 3 67 (fun r τ => r = sp_tune (nI k) a ∧ RM τ (ns_tune (nI k) a) ∧ FrM σ τ) H locs (F0 m 28 ls []) := by
        intro km
        induction km using Nat.strongRecOn with
        | ind km ih =>
          intro t hk hi υ hv ls H locs hl hh
          refine lv_iload_n X.x X.b dX5_tune_28 rfl (lv_at hl 0 rfl) ?_
          refine lv_iload_n X.x X.b dX5_tune_29 rfl (lv_at hl 1 rfl) ?_
          refine lv_icmp_ge (tgt := 91) X.x X.b dX5_tune_30 (by decide) (fun c_4 => ?_) (fun c_4 => ?_)
          · have c_4 : (apn a / 2) ≤ t := (nI_leI (a := (apn a / 2)) (b := t) (by omega) (by omega)).mp c_4
            refine lv_aload_n X.x X.b dX5_tune_91 rfl (lv_at hl 2 rfl) ?_
            refine f_get X hh (v := .ref (gad G 135)) (sh_134 G _) (by decide) rfl in_X5 0 (by decide) kf_X5_7 rfl dX5_tune_92 ?_
            refine lv_bipush (v := nI 57) X.x X.b dX5_tune_95 (by decide) ?_
            refine lv_iload_n X.x X.b dX5_tune_97 rfl (lv_at hl 3 rfl) ?_
            refine f_iadd X (z := nI (57 + k)) (nI_add 57 k) dX5_tune_98 ?_
            refine lv_iload_n X.x X.b dX5_tune_99 rfl (lv_at hl 1 rfl) ?_
            refine f_iast X hh (j := 57 + k) (sh_135 G) (by decide) rfl (by omega) (by decide) dX5_tune_100 (fun H locs hh => ?_)
            refine lv_aload_n X.x X.b dX5_tune_101 rfl (lv_at hl 2 rfl) ?_
            refine lv_iconst (v := nI 0) X.x X.b dX5_tune_102 (by decide) ?_
            refine f_put X hh (x := nI 0) (sh_134 G _) (by decide) rfl in_X5 4 (sh_134 G _) tyX5 tyX5_ok nmX5 (by decide) kf_X5_54 rfl (by decide +kernel) (Nat.le_of_ble_eq_true rfl) dX5_tune_103 (fun H locs hh => ?_)
            refine lv_iload_n X.x X.b dX5_tune_106 rfl (lv_at hl 1 rfl) ?_
            exact f_iret X hh ⟨by unfold sp_tune; rw [if_pos c_1, if_pos hl6], by obtain rfl : t = apn a / 2 := (by omega); unfold ns_tune; rw [if_pos c_1, if_pos hl6, ix_nI (by omega)]; exact hR.tun hA.2.2.1 (by omega) hn hv, fun k9 h9 => by rw [mset_n (by omega), mset_n (by omega)]; exact hv.2.2 k9 (by omega)⟩ dX5_tune_107
          · have c_4 : ¬ (apn a / 2) ≤ t := fun q9 => c_4 ((nI_leI (a := (apn a / 2)) (b := t) (by omega) (by omega)).mpr q9)
            have ho1 := hok (2 * t) (by omega)
            have ho2 := hok (2 * t + 1) (by omega)
            unfold okT at ho1 ho2
            rw [if_pos (by omega)] at ho1
            rw [if_neg (by omega)] at ho2
            simp only [Bool.and_eq_true, decide_eq_true_eq] at ho1 ho2
            refine lv_aload_n X.x X.b dX5_tune_33 rfl (lv_at hl 2 rfl) ?_
            refine f_get X hh (v := .ref (gad G 135)) (sh_134 G _) (by decide) rfl in_X5 0 (by decide) kf_X5_7 rfl dX5_tune_34 ?_
            refine lv_bipush (v := nI 61) X.x X.b dX5_tune_37 (by decide) ?_
            refine lv_bipush (v := nI 11) X.x X.b dX5_tune_39 (by decide) ?_
            refine lv_iload_n X.x X.b dX5_tune_41 rfl (lv_at hl 3 rfl) ?_
            refine f_imul X (z := nI (11 * k)) (pk_mul 11 k) dX5_tune_42 ?_
            refine f_iadd X (z := nI (61 + 11 * k)) (nI_add 61 (11 * k)) dX5_tune_43 ?_
            refine lv_iload_n X.x X.b dX5_tune_44 rfl (lv_at hl 0 rfl) ?_
            refine f_iadd X (z := nI (61 + 11 * k + t)) (nI_add (61 + 11 * k) t) dX5_tune_45 ?_
            refine lv_aload_n X.x X.b dX5_tune_46 rfl (lv_at hl 2 rfl) ?_
            refine f_get X hh (v := .ref (gad G 138)) (sh_134 G _) (by decide) rfl in_X5 3 (by decide) kf_X5_20 rfl dX5_tune_47 ?_
            refine lv_iconst (v := nI 2) X.x X.b dX5_tune_50 (by decide) ?_
            refine lv_iload_n X.x X.b dX5_tune_51 rfl (lv_at hl 0 rfl) ?_
            refine f_imul X (z := nI (2 * t)) (pk_mul 2 t) dX5_tune_52 ?_
            refine f_ialdx X hh (j := 2 * t) (y := nI (apg a (2 * t))) (sh_138 G _) (by decide) rfl (by omega) (by decide) (by rw [hv.2.2 138 (by decide)]; exact hR.1.2 _ (by omega)) dX5_tune_53 ?_
            refine lv_bipush (v := nI 48) X.x X.b dX5_tune_54 (by decide) ?_
            refine f_isub X (z := nI (apg a (2 * t) - 48)) (pk_sub (a := apg a (2 * t)) (b := 48) (by omega)) dX5_tune_56 ?_
            refine f_iast X hh (j := 61 + 11 * k + t) (sh_135 G) (by decide) rfl (by omega) (by decide) dX5_tune_57 (fun H locs hh => ?_)
            refine lv_aload_n X.x X.b dX5_tune_58 rfl (lv_at hl 2 rfl) ?_
            refine f_get X hh (v := .ref (gad G 135)) (sh_134 G _) (by decide) rfl in_X5 0 (by decide) kf_X5_7 rfl dX5_tune_59 ?_
            refine lv_bipush (v := nI 105) X.x X.b dX5_tune_62 (by decide) ?_
            refine lv_bipush (v := nI 11) X.x X.b dX5_tune_64 (by decide) ?_
            refine lv_iload_n X.x X.b dX5_tune_66 rfl (lv_at hl 3 rfl) ?_
            refine f_imul X (z := nI (11 * k)) (pk_mul 11 k) dX5_tune_67 ?_
            refine f_iadd X (z := nI (105 + 11 * k)) (nI_add 105 (11 * k)) dX5_tune_68 ?_
            refine lv_iload_n X.x X.b dX5_tune_69 rfl (lv_at hl 0 rfl) ?_
            refine f_iadd X (z := nI (105 + 11 * k + t)) (nI_add (105 + 11 * k) t) dX5_tune_70 ?_
            refine lv_aload_n X.x X.b dX5_tune_71 rfl (lv_at hl 2 rfl) ?_
            refine f_get X hh (v := .ref (gad G 138)) (sh_134 G _) (by decide) rfl in_X5 3 (by decide) kf_X5_20 rfl dX5_tune_72 ?_
            refine lv_iconst (v := nI 2) X.x X.b dX5_tune_75 (by decide) ?_
            refine lv_iload_n X.x X.b dX5_tune_76 rfl (lv_at hl 0 rfl) ?_
            refine f_imul X (z := nI (2 * t)) (pk_mul 2 t) dX5_tune_77 ?_
            refine lv_iconst (v := nI 1) X.x X.b dX5_tune_78 (by decide) ?_
            refine f_iadd X (z := nI (2 * t + 1)) (nI_add (2 * t) 1) dX5_tune_79 ?_
            refine f_ialdx X hh (j := 2 * t + 1) (y := nI (apg a (2 * t + 1))) (sh_138 G _) (by decide) rfl (by omega) (by decide) (by rw [mset_n (show 138 ≠ 135 by omega)]; exact (by rw [hv.2.2 138 (by decide)]; exact hR.1.2 _ (by omega))) dX5_tune_80 ?_
            refine lv_bipush (v := nI 48) X.x X.b dX5_tune_81 (by decide) ?_
            refine f_isub X (z := nI (apg a (2 * t + 1) - 48)) (pk_sub (a := apg a (2 * t + 1)) (b := 48) (by omega)) dX5_tune_83 ?_
            refine f_iast X hh (j := 105 + 11 * k + t) (sh_135 G) (by decide) rfl (by omega) (by decide) dX5_tune_84 (fun H locs hh => ?_)
            refine lv_iinc (v := nI (t + 1)) (lv' := [(3, .int (nI (t + 1))), (2, .int (nI (apn a / 2))), (0, .ref (gad G 134)), (1, .int (nI k))]) X.x X.b dX5_tune_85 hl (k := 0) rfl (nI_1 t) (by decide) rfl (fun ls hl => ?_)
            refine lv_goto (tgt := 28) X.x X.b dX5_tune_88 (by decide) ?_
            exact ih (apn a / 2 - (t + 1)) (by omega) (t + 1) rfl (by omega) _ (trj_s hv (by omega) (by omega)) ls H locs (lv_sub hl [0, 1, 2, 3] rfl) hh
      refine lv_aload_n X.x X.b dX5_tune_19 rfl (lv_at hl 0 rfl) ?_
      refine f_geti X hh (x := nI (apn a)) (sh_134 G _) (by decide) rfl in_X5 4 (by decide) kf_X5_54 rfl hR.1.1 dX5_tune_20 ?_
      refine lv_iconst (v := nI 2) X.x X.b dX5_tune_23 (by decide) ?_
      refine f_idiv X (z := nI (apn a / 2)) (by decide) (pk_div (a := apn a) (d := 2) (by omega) (by decide) (by decide)) dX5_tune_24 ?_
      refine lv_istore_n (lv' := [(2, .int (nI (apn a / 2))), (0, .ref (gad G 134)), (1, .int (nI k))]) X.x X.b dX5_tune_25 rfl hl (by decide) rfl (fun ls hl => ?_)
      refine lv_iconst (v := nI 0) X.x X.b dX5_tune_26 (by decide) ?_
      refine lv_istore_n (lv' := [(3, .int (nI 0)), (2, .int (nI (apn a / 2))), (0, .ref (gad G 134)), (1, .int (nI k))]) X.x X.b dX5_tune_27 rfl hl (by decide) rfl (fun ls hl => ?_)
      exact lp (apn a / 2) 0 rfl (by omega) σ ⟨fun i hi => absurd hi (Nat.not_lt_zero _), fun x _ _ => rfl, fun _ _ => rfl⟩ ls H locs (lv_sub hl [0, 1, 2, 3] rfl) hh
    · refine lv_bipush (v := (-7)) X.x X.b dX5_tune_16 (by decide) ?_
      exact f_iret X hh ⟨by unfold sp_tune; rw [if_pos c_1, if_neg (fun q9 => c_3 ((tans_lt hn).mpr q9))], by unfold ns_tune; rw [if_pos c_1, if_neg (fun q9 => c_3 ((tans_lt hn).mpr q9))]; exact hR, FrM.rf⟩ dX5_tune_18
  · rw [show (if inB x 0 3 then (1 : Int32) else 0) = 0 from if_neg c_1]
    refine lv_if_ne (tgt := 9) X.x X.b dX5_tune_4 (by decide) (fun h9 => absurd (show _ by decide) h9) (fun _ => ?_)
    refine lv_iconst (v := (-1)) X.x X.b dX5_tune_7 (by decide) ?_
    exact f_iret X hh ⟨(if_neg c_1).symm, by unfold ns_tune; rw [if_neg c_1]; exact hR, FrM.rf⟩ dX5_tune_8
set_option maxHeartbeats 4000000 in
set_option maxRecDepth 100000 in
theorem c5_image (l : Launch) (G : GG) {σ : Mem} {a : AS} (x : Int32) (hA : AOK a) (hR : RM σ a) : Ci l G yX5_image cX5_image 3 (some .int) 1 22 [.ref (gad G 134), .int x] σ (fun r τ => r = sp_image x a ∧ RM τ (ns_image x a) ∧ FrM σ τ) := by
  refine Ci.of (own := RX5) (by decide) rfl (Nat.le_of_ble_eq_true rfl) (fun p e s m args below meth c ls H locs X hl hh => ?_)
  have hl : lv_has ls 3 [(0, .ref (gad G 134)), (1, .int x)] := hl
  refine lv_iload_n X.x X.b dX5_image_0 rfl (lv_at hl 1 rfl) ?_
  refine lv_iconst (v := nI 0) X.x X.b dX5_image_1 (by decide) ?_
  refine lv_iconst (v := nI 1) X.x X.b dX5_image_2 (by decide) ?_
  refine f_scalli X hh (c5_inB l G x 0 1 (by decide) (by decide)) mf_yX5_in ks_yX5_in km_X5_50 rfl hl.1 [] rfl (Nat.le_of_ble_eq_true rfl) ⟨by decide, by decide⟩ ⟨Nat.zero_le _, Nat.zero_le _⟩ dX5_image_3 (fun r τ H locs hq hh => ?_)
  obtain ⟨rfl, hτ⟩ := hq
  rw [hτ] at hh
  clear hτ
  by_cases c_1 : inB x 0 1
  · rw [show (if inB x 0 1 then (1 : Int32) else 0) = 1 from if_pos c_1]
    obtain ⟨k, ha_k, hb_k, rfl⟩ := inB_of c_1 (by decide)
    refine lv_if_ne (tgt := 12) X.x X.b dX5_image_6 (by decide) (fun _ => ?_) (fun h9 => absurd h9 (by decide))
    have lp : ∀ (q t : Nat), 153 - t = q → t ≤ 153 → ∀ (υ : Mem), ((∀ x, x < t → υ 136 (153 * k + x) = σ 135 x) ∧ (∀ x, ¬ (153 * k ≤ x ∧ x < 153 * k + 153) → υ 136 x = σ 136 x) ∧ ∀ c, c ≠ 136 → υ c = σ c) → ∀ (ls : Array Slot) (H : Heap) (locs : List Loc), lv_has ls 3 [(2, .int (nI t)), (0, .ref (gad G 134)), (1, .int (nI k))] → HH G s υ H locs → WI l G p e s m args below meth c 1 22 (fun r τ => r = sp_image (nI k) a ∧ RM τ (ns_image (nI k) a) ∧ FrM σ τ) H locs (F0 m 14 ls []) := by
      intro km
      induction km using Nat.strongRecOn with
      | ind km ih =>
        intro t hk hi υ hv ls H locs hl hh
        refine lv_iload_n X.x X.b dX5_image_14 rfl (lv_at hl 0 rfl) ?_
        refine lv_sipush (v := nI 153) X.x X.b dX5_image_15 (by decide) ?_
        refine lv_icmp_ge (tgt := 45) X.x X.b dX5_image_18 (by decide) (fun c_3 => ?_) (fun c_3 => ?_)
        · have c_3 : 153 ≤ t := (nI_leI (a := 153) (b := t) (by omega) (by omega)).mp c_3
          refine lv_aload_n X.x X.b dX5_image_45 rfl (lv_at hl 1 rfl) ?_
          refine f_get X hh (v := .ref (gad G 137)) (sh_134 G _) (by decide) rfl in_X5 2 (by decide) kf_X5_16 rfl dX5_image_46 ?_
          refine lv_iload_n X.x X.b dX5_image_49 rfl (lv_at hl 2 rfl) ?_
          refine lv_iconst (v := nI 1) X.x X.b dX5_image_50 (by decide) ?_
          refine f_zast X hh (j := k) rfl (by omega) rfl dX5_image_51 (fun H locs hh => ?_)
          refine lv_iconst (v := nI 1) X.x X.b dX5_image_52 (by decide) ?_
          exact f_iret X hh ⟨(if_pos c_1).symm, by unfold ns_image; rw [if_pos c_1, ix_nI (by omega)]; exact hR.img hA (by omega) (fun x hx => hv.1 x (by omega)) hv.2.1 hv.2.2, fun k9 h9 => by rw [mset_n (by omega)]; exact hv.2.2 k9 (by omega)⟩ dX5_image_53
        · have c_3 : ¬ 153 ≤ t := fun q9 => c_3 ((nI_leI (a := 153) (b := t) (by omega) (by omega)).mpr q9)
          refine lv_aload_n X.x X.b dX5_image_21 rfl (lv_at hl 1 rfl) ?_
          refine f_get X hh (v := .ref (gad G 136)) (sh_134 G _) (by decide) rfl in_X5 1 (by decide) kf_X5_13 rfl dX5_image_22 ?_
          refine lv_sipush (v := nI 153) X.x X.b dX5_image_25 (by decide) ?_
          refine lv_iload_n X.x X.b dX5_image_28 rfl (lv_at hl 2 rfl) ?_
          refine f_imul X (z := nI (153 * k)) (pk_mul 153 k) dX5_image_29 ?_
          refine lv_iload_n X.x X.b dX5_image_30 rfl (lv_at hl 0 rfl) ?_
          refine f_iadd X (z := nI (153 * k + t)) (nI_add (153 * k) t) dX5_image_31 ?_
          refine lv_aload_n X.x X.b dX5_image_32 rfl (lv_at hl 1 rfl) ?_
          refine f_get X hh (v := .ref (gad G 135)) (sh_134 G _) (by decide) rfl in_X5 0 (by decide) kf_X5_7 rfl dX5_image_33 ?_
          refine lv_iload_n X.x X.b dX5_image_36 rfl (lv_at hl 0 rfl) ?_
          refine f_ialdx X hh (j := t) (y := σ 135 t) (sh_135 G _) (by decide) rfl (by omega) (by decide) (by rw [hv.2.2 135 (by decide)]) dX5_image_37 ?_
          refine f_iast X hh (j := 153 * k + t) (sh_136 G) (by decide) rfl (by omega) (by decide) dX5_image_38 (fun H locs hh => ?_)
          refine lv_iinc (v := nI (t + 1)) (lv' := [(2, .int (nI (t + 1))), (0, .ref (gad G 134)), (1, .int (nI k))]) X.x X.b dX5_image_39 hl (k := 0) rfl (nI_1 t) (by decide) rfl (fun ls hl => ?_)
          refine lv_goto (tgt := 14) X.x X.b dX5_image_42 (by decide) ?_
          refine ih (153 - (t + 1)) (by omega) (t + 1) rfl (by omega) _ ⟨fun x hx => ?_, fun x hx => ?_, fun c9 hc => by rw [mset_n hc]; exact hv.2.2 c9 hc⟩ ls H locs (lv_sub hl [0, 1, 2] rfl) hh
          · by_cases e9 : x = t
            · subst e9; exact mset_ss
            · rw [mset_sn (by omega)]; exact hv.1 x (by omega)
          · rw [mset_sn (by omega)]; exact hv.2.1 x hx
    refine lv_iconst (v := nI 0) X.x X.b dX5_image_12 (by decide) ?_
    refine lv_istore_n (lv' := [(2, .int (nI 0)), (0, .ref (gad G 134)), (1, .int (nI k))]) X.x X.b dX5_image_13 rfl hl (by decide) rfl (fun ls hl => ?_)
    exact lp 153 0 rfl (by omega) σ ⟨fun i hi => absurd hi (Nat.not_lt_zero _), fun _ _ => rfl, fun _ _ => rfl⟩ ls H locs (lv_sub hl [0, 1, 2] rfl) hh
  · rw [show (if inB x 0 1 then (1 : Int32) else 0) = 0 from if_neg c_1]
    refine lv_if_ne (tgt := 12) X.x X.b dX5_image_6 (by decide) (fun h9 => absurd (show _ by decide) h9) (fun _ => ?_)
    refine lv_bipush (v := (-2)) X.x X.b dX5_image_9 (by decide) ?_
    exact f_iret X hh ⟨(if_neg c_1).symm, by unfold ns_image; rw [if_neg c_1]; exact hR, FrM.rf⟩ dX5_image_11
set_option maxHeartbeats 4000000 in
set_option maxRecDepth 100000 in
theorem c5_restore (l : Launch) (G : GG) {σ : Mem} {a : AS} (x : Int32) (hA : AOK a) (hR : RM σ a) : Ci l G yX5_restore cX5_restore 3 (some .int) 1 22 [.ref (gad G 134), .int x] σ (fun r τ => r = sp_restore x a ∧ RM τ (ns_restore x a) ∧ FrM σ τ) := by
  refine Ci.of (own := RX5) (by decide) rfl (Nat.le_of_ble_eq_true rfl) (fun p e s m args below meth c ls H locs X hl hh => ?_)
  have hl : lv_has ls 3 [(0, .ref (gad G 134)), (1, .int x)] := hl
  refine lv_iload_n X.x X.b dX5_restore_0 rfl (lv_at hl 1 rfl) ?_
  refine lv_iconst (v := nI 0) X.x X.b dX5_restore_1 (by decide) ?_
  refine lv_iconst (v := nI 1) X.x X.b dX5_restore_2 (by decide) ?_
  refine f_scalli X hh (c5_inB l G x 0 1 (by decide) (by decide)) mf_yX5_in ks_yX5_in km_X5_50 rfl hl.1 [] rfl (Nat.le_of_ble_eq_true rfl) ⟨by decide, by decide⟩ ⟨Nat.zero_le _, Nat.zero_le _⟩ dX5_restore_3 (fun r τ H locs hq hh => ?_)
  obtain ⟨rfl, hτ⟩ := hq
  rw [hτ] at hh
  clear hτ
  by_cases c_1 : inB x 0 1
  · rw [show (if inB x 0 1 then (1 : Int32) else 0) = 1 from if_pos c_1]
    obtain ⟨k, ha_k, hb_k, rfl⟩ := inB_of c_1 (by decide)
    refine lv_if_ne (tgt := 12) X.x X.b dX5_restore_6 (by decide) (fun _ => ?_) (fun h9 => absurd h9 (by decide))
    refine lv_aload_n X.x X.b dX5_restore_12 rfl (lv_at hl 0 rfl) ?_
    refine f_get X hh (v := .ref (gad G 137)) (sh_134 G _) (by decide) rfl in_X5 2 (by decide) kf_X5_16 rfl dX5_restore_13 ?_
    refine lv_iload_n X.x X.b dX5_restore_16 rfl (lv_at hl 1 rfl) ?_
    refine f_zald X hh (j := k) rfl (by omega) dX5_restore_17 ?_
    rw [show σ 137 k = nI (if aK a k = true then 1 else 0) from (hR.2.2.2 _ (by omega))]
    have hk8 : (if aK a k = true then 1 else 0) ≤ 1 := by split <;> omega
    refine lv_if_ne (tgt := 24) X.x X.b dX5_restore_18 (by decide) (fun c_3 => ?_) (fun c_3 => ?_)
    · have c_3 : ¬ (if aK a k = true then 1 else 0) = 0 := fun q9 => c_3 ((nI_eq (a := (if aK a k = true then 1 else 0)) (b := 0) (by omega) (by omega)).mpr q9)
      have hK9 : aK a k = true := Classical.byContradiction (fun q9 => c_3 (if_neg q9))
      have lp : ∀ (q t : Nat), 153 - t = q → t ≤ 153 → ∀ (υ : Mem), ((∀ x, x < t → υ 135 x = σ 136 (153 * k + x)) ∧ ∀ c, c ≠ 135 → υ c = σ c) → ∀ (ls : Array Slot) (H : Heap) (locs : List Loc), lv_has ls 3 [(2, .int (nI t)), (0, .ref (gad G 134)), (1, .int (nI k))] → HH G s υ H locs → WI l G p e s m args below meth c 1 22 (fun r τ => r = sp_restore (nI k) a ∧ RM τ (ns_restore (nI k) a) ∧ FrM σ τ) H locs (F0 m 26 ls []) := by
        intro km
        induction km using Nat.strongRecOn with
        | ind km ih =>
          intro t hk hi υ hv ls H locs hl hh
          refine lv_iload_n X.x X.b dX5_restore_26 rfl (lv_at hl 0 rfl) ?_
          refine lv_sipush (v := nI 153) X.x X.b dX5_restore_27 (by decide) ?_
          refine lv_icmp_ge (tgt := 57) X.x X.b dX5_restore_30 (by decide) (fun c_4 => ?_) (fun c_4 => ?_)
          · have c_4 : 153 ≤ t := (nI_leI (a := 153) (b := t) (by omega) (by omega)).mp c_4
            refine lv_iconst (v := nI 1) X.x X.b dX5_restore_57 (by decide) ?_
            exact f_iret X hh ⟨by unfold sp_restore; rw [if_pos c_1, ix_nI (by omega), if_pos hK9], by unfold ns_restore; rw [if_pos c_1, ix_nI (by omega), if_pos hK9]; exact hR.rst hA (by omega) hK9 (fun x hx => hv.1 x (by omega)) hv.2, fun k9 h9 => hv.2 k9 (by omega)⟩ dX5_restore_58
          · have c_4 : ¬ 153 ≤ t := fun q9 => c_4 ((nI_leI (a := 153) (b := t) (by omega) (by omega)).mpr q9)
            refine lv_aload_n X.x X.b dX5_restore_33 rfl (lv_at hl 1 rfl) ?_
            refine f_get X hh (v := .ref (gad G 135)) (sh_134 G _) (by decide) rfl in_X5 0 (by decide) kf_X5_7 rfl dX5_restore_34 ?_
            refine lv_iload_n X.x X.b dX5_restore_37 rfl (lv_at hl 0 rfl) ?_
            refine lv_aload_n X.x X.b dX5_restore_38 rfl (lv_at hl 1 rfl) ?_
            refine f_get X hh (v := .ref (gad G 136)) (sh_134 G _) (by decide) rfl in_X5 1 (by decide) kf_X5_13 rfl dX5_restore_39 ?_
            refine lv_sipush (v := nI 153) X.x X.b dX5_restore_42 (by decide) ?_
            refine lv_iload_n X.x X.b dX5_restore_45 rfl (lv_at hl 2 rfl) ?_
            refine f_imul X (z := nI (153 * k)) (pk_mul 153 k) dX5_restore_46 ?_
            refine lv_iload_n X.x X.b dX5_restore_47 rfl (lv_at hl 0 rfl) ?_
            refine f_iadd X (z := nI (153 * k + t)) (nI_add (153 * k) t) dX5_restore_48 ?_
            refine f_ialdx X hh (j := 153 * k + t) (y := σ 136 (153 * k + t)) (sh_136 G _) (by decide) rfl (by omega) (by decide) (by rw [hv.2 136 (by decide)]) dX5_restore_49 ?_
            refine f_iast X hh (j := t) (sh_135 G) (by decide) rfl (by omega) (by decide) dX5_restore_50 (fun H locs hh => ?_)
            refine lv_iinc (v := nI (t + 1)) (lv' := [(2, .int (nI (t + 1))), (0, .ref (gad G 134)), (1, .int (nI k))]) X.x X.b dX5_restore_51 hl (k := 0) rfl (nI_1 t) (by decide) rfl (fun ls hl => ?_)
            refine lv_goto (tgt := 26) X.x X.b dX5_restore_54 (by decide) ?_
            refine ih (153 - (t + 1)) (by omega) (t + 1) rfl (by omega) _ ⟨fun x hx => ?_, fun c9 hc => by rw [mset_n hc]; exact hv.2 c9 hc⟩ ls H locs (lv_sub hl [0, 1, 2] rfl) hh
            by_cases e9 : x = t
            · subst e9; exact mset_ss
            · rw [mset_sn (by omega)]; exact hv.1 x (by omega)
      refine lv_iconst (v := nI 0) X.x X.b dX5_restore_24 (by decide) ?_
      refine lv_istore_n (lv' := [(2, .int (nI 0)), (0, .ref (gad G 134)), (1, .int (nI k))]) X.x X.b dX5_restore_25 rfl hl (by decide) rfl (fun ls hl => ?_)
      exact lp 153 0 rfl (by omega) σ ⟨fun i hi => absurd hi (Nat.not_lt_zero _), fun _ _ => rfl⟩ ls H locs (lv_sub hl [0, 1, 2] rfl) hh
    · have c_3 : (if aK a k = true then 1 else 0) = 0 := (nI_eq (a := (if aK a k = true then 1 else 0)) (b := 0) (by omega) (by omega)).mp c_3
      refine lv_bipush (v := (-3)) X.x X.b dX5_restore_21 (by decide) ?_
      exact f_iret X hh ⟨by unfold sp_restore; rw [if_pos c_1, ix_nI (by omega), if_neg (fun q9 => by rw [if_pos q9] at c_3; cases c_3)], by unfold ns_restore; rw [if_pos c_1, ix_nI (by omega), if_neg (fun q9 => by rw [if_pos q9] at c_3; cases c_3)]; exact hR, FrM.rf⟩ dX5_restore_23
  · rw [show (if inB x 0 1 then (1 : Int32) else 0) = 0 from if_neg c_1]
    refine lv_if_ne (tgt := 12) X.x X.b dX5_restore_6 (by decide) (fun h9 => absurd (show _ by decide) h9) (fun _ => ?_)
    refine lv_bipush (v := (-2)) X.x X.b dX5_restore_9 (by decide) ?_
    exact f_iret X hh ⟨(if_neg c_1).symm, by unfold ns_restore; rw [if_neg c_1]; exact hR, FrM.rf⟩ dX5_restore_11
set_option maxHeartbeats 4000000 in
set_option maxRecDepth 100000 in
theorem c5_sumOf (l : Launch) (G : GG) {σ : Mem} {o n : Nat} {f : Nat → Nat} (h : ∀ i, i < n → σ 135 (o + i) = nI (f i)) (hb : o + n ≤ 153) : Ci l G yX5_sumOf cX5_sumOf 5 (some .int) 0 0 [.ref (gad G 134), .int (nI o), .int (nI n)] σ (fun r τ => r = nI (sumN f n) ∧ τ = σ) := by
  refine Ci.of (own := RX5) (by decide) rfl (Nat.le_of_ble_eq_true rfl) (fun p e s m args below meth c ls H locs X hl hh => ?_)
  have lp : ∀ (q i : Nat), n - i = q → i ≤ n → ∀ (ls : Array Slot) (H : Heap) (locs : List Loc), lv_has ls 5 [(4, .int (nI i)), (3, .int (nI (sumN f i))), (0, .ref (gad G 134)), (1, .int (nI o)), (2, .int (nI n))] → HH G s σ H locs → WI l G p e s m args below meth c 0 0 (fun r τ => r = nI (sumN f n) ∧ τ = σ) H locs (F0 m 5 ls []) := by
    intro km
    induction km using Nat.strongRecOn with
    | ind km ih =>
      intro i hk hi ls H locs hl hh
      refine lv_iload X.x X.b dX5_sumOf_5 (lv_at hl 0 rfl) ?_
      refine lv_iload_n X.x X.b dX5_sumOf_7 rfl (lv_at hl 4 rfl) ?_
      refine lv_icmp_ge (tgt := 29) X.x X.b dX5_sumOf_8 (by decide) (fun c_1 => ?_) (fun c_1 => ?_)
      · have c_1 : n ≤ i := (nI_leI (a := n) (b := i) (by omega) (by omega)).mp c_1
        refine lv_iload_n X.x X.b dX5_sumOf_29 rfl (lv_at hl 1 rfl) ?_
        exact f_iret X hh ⟨by rw [show n = i by omega], rfl⟩ dX5_sumOf_30
      · have c_1 : ¬ n ≤ i := fun q9 => c_1 ((nI_leI (a := n) (b := i) (by omega) (by omega)).mpr q9)
        refine lv_iload_n X.x X.b dX5_sumOf_11 rfl (lv_at hl 1 rfl) ?_
        refine lv_aload_n X.x X.b dX5_sumOf_12 rfl (lv_at hl 2 rfl) ?_
        refine f_get X hh (v := .ref (gad G 135)) (sh_134 G _) (by decide) rfl in_X5 0 (by decide) kf_X5_7 rfl dX5_sumOf_13 ?_
        refine lv_iload_n X.x X.b dX5_sumOf_16 rfl (lv_at hl 3 rfl) ?_
        refine lv_iload X.x X.b dX5_sumOf_17 (lv_at hl 0 rfl) ?_
        refine f_iadd X (z := nI (o + i)) (nI_add o i) dX5_sumOf_19 ?_
        refine f_ialdx X hh (j := o + i) (y := nI (f i)) (sh_135 G _) (by decide) rfl (by omega) (by decide) (h _ (by omega)) dX5_sumOf_20 ?_
        refine f_iadd X (z := nI (sumN f i + f i)) (nI_add (sumN f i) (f i)) dX5_sumOf_21 ?_
        refine lv_istore_n (lv' := [(3, .int (nI (sumN f i + f i))), (4, .int (nI i)), (0, .ref (gad G 134)), (1, .int (nI o)), (2, .int (nI n))]) X.x X.b dX5_sumOf_22 rfl hl (by decide) rfl (fun ls hl => ?_)
        refine lv_iinc (v := nI (i + 1)) (lv' := [(4, .int (nI (i + 1))), (3, .int (nI (sumN f i + f i))), (0, .ref (gad G 134)), (1, .int (nI o)), (2, .int (nI n))]) X.x X.b dX5_sumOf_23 hl (k := 1) rfl (nI_1 i) (by decide) rfl (fun ls hl => ?_)
        refine lv_goto (tgt := 5) X.x X.b dX5_sumOf_26 (by decide) ?_
        exact ih (n - (i + 1)) (by omega) (i + 1) rfl (by omega) ls H locs (lv_sub hl [0, 1, 2, 3, 4] rfl) hh
  have hl : lv_has ls 5 [(0, .ref (gad G 134)), (1, .int (nI o)), (2, .int (nI n))] := hl
  refine lv_iconst (v := nI 0) X.x X.b dX5_sumOf_0 (by decide) ?_
  refine lv_istore_n (lv' := [(3, .int (nI 0)), (0, .ref (gad G 134)), (1, .int (nI o)), (2, .int (nI n))]) X.x X.b dX5_sumOf_1 rfl hl (by decide) rfl (fun ls hl => ?_)
  refine lv_iconst (v := nI 0) X.x X.b dX5_sumOf_2 (by decide) ?_
  refine lv_istore (lv' := [(4, .int (nI 0)), (3, .int (nI 0)), (0, .ref (gad G 134)), (1, .int (nI o)), (2, .int (nI n))]) X.x X.b dX5_sumOf_3 hl (by decide) rfl (fun ls hl => ?_)
  exact lp n 0 rfl (by omega) ls H locs (lv_sub hl [0, 1, 2, 3, 4] rfl) hh
set_option maxHeartbeats 4000000 in
set_option maxRecDepth 100000 in
theorem c5_lengths (l : Launch) (G : GG) {σ : Mem} {a : AS} (hA : AOK a) (hR : RM σ a) : Ci l G yX5_lengths cX5_lengths 3 (some .int) 1 24 [.ref (gad G 134)] σ (fun r τ => r = nI (sumN (fun j => sumN (bZ (aB a) (3 + j)) (bN (aB a) (3 + j))) 4) ∧ τ = σ) := by
  refine Ci.of (own := RX5) (by decide) rfl (Nat.le_of_ble_eq_true rfl) (fun p e s m args below meth c ls H locs X hl hh => ?_)
  have lp : ∀ (q i : Nat), 4 - i = q → i ≤ 4 → ∀ (ls : Array Slot) (H : Heap) (locs : List Loc), lv_has ls 3 [(2, .int (nI i)), (1, .int (nI (sumN (fun j => sumN (bZ (aB a) (3 + j)) (bN (aB a) (3 + j))) i))), (0, .ref (gad G 134))] → HH G s σ H locs → WI l G p e s m args below meth c 1 24 (fun r τ => r = nI (sumN (fun j => sumN (bZ (aB a) (3 + j)) (bN (aB a) (3 + j))) 4) ∧ τ = σ) H locs (F0 m 4 ls []) := by
    intro km
    induction km using Nat.strongRecOn with
    | ind km ih =>
      intro i hk hi ls H locs hl hh
      refine lv_iload_n X.x X.b dX5_lengths_4 rfl (lv_at hl 0 rfl) ?_
      refine lv_iconst (v := nI 4) X.x X.b dX5_lengths_5 (by decide) ?_
      refine lv_icmp_ge (tgt := 38) X.x X.b dX5_lengths_6 (by decide) (fun c_1 => ?_) (fun c_1 => ?_)
      · have c_1 : 4 ≤ i := (nI_leI (a := 4) (b := i) (by omega) (by omega)).mp c_1
        refine lv_iload_n X.x X.b dX5_lengths_38 rfl (lv_at hl 1 rfl) ?_
        exact f_iret X hh ⟨by rw [show 4 = i by omega], rfl⟩ dX5_lengths_39
      · have c_1 : ¬ 4 ≤ i := fun q9 => c_1 ((nI_leI (a := 4) (b := i) (by omega) (by omega)).mpr q9)
        refine lv_iload_n X.x X.b dX5_lengths_9 rfl (lv_at hl 1 rfl) ?_
        refine lv_aload_n X.x X.b dX5_lengths_10 rfl (lv_at hl 2 rfl) ?_
        refine lv_bipush (v := nI 105) X.x X.b dX5_lengths_11 (by decide) ?_
        refine lv_bipush (v := nI 11) X.x X.b dX5_lengths_13 (by decide) ?_
        refine lv_iload_n X.x X.b dX5_lengths_15 rfl (lv_at hl 0 rfl) ?_
        refine f_imul X (z := nI (11 * i)) (pk_mul 11 i) dX5_lengths_16 ?_
        refine f_iadd X (z := nI (105 + 11 * i)) (nI_add 105 (11 * i)) dX5_lengths_17 ?_
        refine lv_aload_n X.x X.b dX5_lengths_18 rfl (lv_at hl 2 rfl) ?_
        refine f_get X hh (v := .ref (gad G 135)) (sh_134 G _) (by decide) rfl in_X5 0 (by decide) kf_X5_7 rfl dX5_lengths_19 ?_
        refine lv_bipush (v := nI 57) X.x X.b dX5_lengths_22 (by decide) ?_
        refine lv_iload_n X.x X.b dX5_lengths_24 rfl (lv_at hl 0 rfl) ?_
        refine f_iadd X (z := nI (57 + i)) (nI_add 57 i) dX5_lengths_25 ?_
        refine f_ialdx X hh (j := 57 + i) (y := nI (bN (aB a) (3 + i))) (sh_135 G _) (by decide) rfl (by omega) (by decide) (hR.2.1.2.2.2.1 _ (by omega)) dX5_lengths_26 ?_
        have hb9 := (hA.2.2.1.2.1 (3 + i) (by omega) (by omega)).1
        refine f_calli X hh (c5_sumOf l G (o := 105 + 11 * i) (n := bN (aB a) (3 + i)) (f := bZ (aB a) (3 + i)) (fun j hj => hR.2.1.2.2.2.2.2.1 i (by omega) j hj) (by omega)) mf_yX5_sumOf ki_yX5_sumOf kl_yX5_sumOf km_X5_130 (sh_134 G _) (by decide) rfl rfl hl.1 [.int (nI (sumN (fun j => sumN (bZ (aB a) (3 + j)) (bN (aB a) (3 + j))) i))] rfl (Nat.le_of_ble_eq_true rfl) ⟨by decide, by decide⟩ ⟨Nat.zero_le _, Nat.zero_le _⟩ dX5_lengths_27 (fun r τ H locs hq hh => ?_)
        obtain ⟨rfl, hτ⟩ := hq
        rw [hτ] at hh
        clear hτ
        refine f_iadd X (z := nI (sumN (fun j => sumN (bZ (aB a) (3 + j)) (bN (aB a) (3 + j))) i + sumN (bZ (aB a) (3 + i)) (bN (aB a) (3 + i)))) (nI_add (sumN (fun j => sumN (bZ (aB a) (3 + j)) (bN (aB a) (3 + j))) i) (sumN (bZ (aB a) (3 + i)) (bN (aB a) (3 + i)))) dX5_lengths_30 ?_
        refine lv_istore_n (lv' := [(1, .int (nI (sumN (fun j => sumN (bZ (aB a) (3 + j)) (bN (aB a) (3 + j))) i + sumN (bZ (aB a) (3 + i)) (bN (aB a) (3 + i))))), (2, .int (nI i)), (0, .ref (gad G 134))]) X.x X.b dX5_lengths_31 rfl hl (by decide) rfl (fun ls hl => ?_)
        refine lv_iinc (v := nI (i + 1)) (lv' := [(2, .int (nI (i + 1))), (1, .int (nI (sumN (fun j => sumN (bZ (aB a) (3 + j)) (bN (aB a) (3 + j))) i + sumN (bZ (aB a) (3 + i)) (bN (aB a) (3 + i))))), (0, .ref (gad G 134))]) X.x X.b dX5_lengths_32 hl (k := 1) rfl (nI_1 i) (by decide) rfl (fun ls hl => ?_)
        refine lv_goto (tgt := 4) X.x X.b dX5_lengths_35 (by decide) ?_
        exact ih (4 - (i + 1)) (by omega) (i + 1) rfl (by omega) ls H locs (lv_sub hl [0, 1, 2] rfl) hh
  have hl : lv_has ls 3 [(0, .ref (gad G 134))] := hl
  refine lv_iconst (v := nI 0) X.x X.b dX5_lengths_0 (by decide) ?_
  refine lv_istore_n (lv' := [(1, .int (nI 0)), (0, .ref (gad G 134))]) X.x X.b dX5_lengths_1 rfl hl (by decide) rfl (fun ls hl => ?_)
  refine lv_iconst (v := nI 0) X.x X.b dX5_lengths_2 (by decide) ?_
  refine lv_istore_n (lv' := [(2, .int (nI 0)), (1, .int (nI 0)), (0, .ref (gad G 134))]) X.x X.b dX5_lengths_3 rfl hl (by decide) rfl (fun ls hl => ?_)
  exact lp 4 0 rfl (by omega) ls H locs (lv_sub hl [0, 1, 2] rfl) hh
set_option maxHeartbeats 4000000 in
set_option maxRecDepth 100000 in
theorem c5_count (l : Launch) (G : GG) {σ : Mem} {a : AS} (x : Int32) (hA : AOK a) (hR : RM σ a) : Ci l G yX5_count cX5_count 2 (some .int) 2 46 [.ref (gad G 134), .int x] σ (fun r τ => r = sp_count x a ∧ RM τ a ∧ FrM σ τ) := by
  refine Ci.of (own := RX5) (by decide) rfl (Nat.le_of_ble_eq_true rfl) (fun p e s m args below meth c ls H locs X hl hh => ?_)
  have hl : lv_has ls 2 [(0, .ref (gad G 134)), (1, .int x)] := hl
  refine lv_iload_n X.x X.b dX5_count_0 rfl (lv_at hl 1 rfl) ?_
  refine lv_bipush (v := nI 10) X.x X.b dX5_count_1 (by decide) ?_
  refine lv_bipush (v := nI 13) X.x X.b dX5_count_3 (by decide) ?_
  refine f_scalli X hh (c5_inB l G x 10 13 (by decide) (by decide)) mf_yX5_in ks_yX5_in km_X5_50 rfl hl.1 [] rfl (Nat.le_of_ble_eq_true rfl) ⟨by decide, by decide⟩ ⟨Nat.zero_le _, Nat.zero_le _⟩ dX5_count_5 (fun r τ H locs hq hh => ?_)
  obtain ⟨rfl, hτ⟩ := hq
  rw [hτ] at hh
  clear hτ
  by_cases c_1 : inB x 10 13
  · rw [show (if inB x 10 13 then (1 : Int32) else 0) = 1 from if_pos c_1]
    obtain ⟨k, ha_k, hb_k, rfl⟩ := inB_of c_1 (by decide)
    refine lv_if_eq (tgt := 25) X.x X.b dX5_count_8 (by decide) (fun h9 => absurd h9 (by decide)) (fun _ => ?_)
    refine lv_aload_n X.x X.b dX5_count_11 rfl (lv_at hl 0 rfl) ?_
    refine f_get X hh (v := .ref (gad G 135)) (sh_134 G _) (by decide) rfl in_X5 0 (by decide) kf_X5_7 rfl dX5_count_12 ?_
    refine lv_sipush (v := nI 149) X.x X.b dX5_count_15 (by decide) ?_
    refine lv_iload_n X.x X.b dX5_count_18 rfl (lv_at hl 1 rfl) ?_
    refine f_iadd X (z := nI (149 + k)) (nI_add 149 k) dX5_count_19 ?_
    refine lv_bipush (v := nI 10) X.x X.b dX5_count_20 (by decide) ?_
    refine f_isub X (z := nI (149 + (k - 10))) (by rw [pk_sub (by omega), show 149 + k - 10 = 149 + (k - 10) by omega]) dX5_count_22 ?_
    refine f_ialdx X hh (j := 149 + (k - 10)) (y := nI (bU (aB a) ((k - 10)))) (sh_135 G _) (by decide) rfl (by omega) (by decide) (hR.2.1.2.2.2.2.2.2 _ (by omega)) dX5_count_23 ?_
    exact f_iret X hh ⟨by unfold sp_count; rw [if_pos c_1, ix_nI (by omega)], hR, FrM.rf⟩ dX5_count_24
  · rw [show (if inB x 10 13 then (1 : Int32) else 0) = 0 from if_neg c_1]
    refine lv_if_eq (tgt := 25) X.x X.b dX5_count_8 (by decide) (fun _ => ?_) (fun h9 => absurd (show _ by decide) h9)
    by_cases hx : inB x 0 4
    · obtain ⟨k, ha_k, hb_k, rfl⟩ := inB_of hx (by decide)
      rcases (show k = 0 ∨ k = 1 ∨ k = 2 ∨ k = 3 ∨ k = 4 by omega) with rfl | rfl | rfl | rfl | rfl
      · refine lv_iload_n X.x X.b dX5_count_25 rfl (lv_at hl 1 rfl) ?_
        refine lv_tableIn (off := 34) (tgt := 60) X.x X.b dX5_count_26 (by decide) (by decide) (by decide +kernel) (by decide) ?_
        refine lv_aload_n X.x X.b dX5_count_60 rfl (lv_at hl 0 rfl) ?_
        refine lv_iconst (v := nI 0) X.x X.b dX5_count_61 (by decide) ?_
        refine lv_iconst (v := nI 3) X.x X.b dX5_count_62 (by decide) ?_
        refine f_calli X hh (c5_sumOf l G (o := 0) (n := 3) (f := fun j => bN (aB a) j) (fun j hj => hR.2.1.1 j hj) (by decide)) mf_yX5_sumOf ki_yX5_sumOf kl_yX5_sumOf km_X5_130 (sh_134 G _) (by decide) rfl rfl hl.1 [] rfl (Nat.le_of_ble_eq_true rfl) ⟨by decide, by decide⟩ ⟨Nat.zero_le _, Nat.zero_le _⟩ dX5_count_63 (fun r τ H locs hq hh => ?_)
        obtain ⟨rfl, hτ⟩ := hq
        rw [hτ] at hh
        clear hτ
        exact f_iret X hh ⟨by unfold sp_count; rw [if_neg c_1, if_pos (by decide)], hR, FrM.rf⟩ dX5_count_66
      · refine lv_iload_n X.x X.b dX5_count_25 rfl (lv_at hl 1 rfl) ?_
        refine lv_tableIn (off := 41) (tgt := 67) X.x X.b dX5_count_26 (by decide) (by decide) (by decide +kernel) (by decide) ?_
        refine lv_aload_n X.x X.b dX5_count_67 rfl (lv_at hl 0 rfl) ?_
        refine lv_bipush (v := nI 57) X.x X.b dX5_count_68 (by decide) ?_
        refine lv_iconst (v := nI 4) X.x X.b dX5_count_70 (by decide) ?_
        refine f_calli X hh (c5_sumOf l G (o := 57) (n := 4) (f := fun j => bN (aB a) (3 + j)) (fun j hj => hR.2.1.2.2.2.1 j hj) (by decide)) mf_yX5_sumOf ki_yX5_sumOf kl_yX5_sumOf km_X5_130 (sh_134 G _) (by decide) rfl rfl hl.1 [] rfl (Nat.le_of_ble_eq_true rfl) ⟨by decide, by decide⟩ ⟨Nat.zero_le _, Nat.zero_le _⟩ dX5_count_71 (fun r τ H locs hq hh => ?_)
        obtain ⟨rfl, hτ⟩ := hq
        rw [hτ] at hh
        clear hτ
        exact f_iret X hh ⟨by unfold sp_count; rw [if_neg c_1, if_neg (by decide), if_pos (by decide)], hR, FrM.rf⟩ dX5_count_74
      · refine lv_iload_n X.x X.b dX5_count_25 rfl (lv_at hl 1 rfl) ?_
        refine lv_tableIn (off := 49) (tgt := 75) X.x X.b dX5_count_26 (by decide) (by decide) (by decide +kernel) (by decide) ?_
        refine lv_aload_n X.x X.b dX5_count_75 rfl (lv_at hl 0 rfl) ?_
        refine f_geti X hh (x := nI (apn a)) (sh_134 G _) (by decide) rfl in_X5 4 (by decide) kf_X5_54 rfl hR.1.1 dX5_count_76 ?_
        exact f_iret X hh ⟨by unfold sp_count; rw [if_neg c_1, if_neg (by decide), if_neg (by decide), if_pos (by decide)], hR, FrM.rf⟩ dX5_count_79
      · refine lv_iload_n X.x X.b dX5_count_25 rfl (lv_at hl 1 rfl) ?_
        refine lv_tableIn (off := 54) (tgt := 80) X.x X.b dX5_count_26 (by decide) (by decide) (by decide +kernel) (by decide) ?_
        refine lv_aload_n X.x X.b dX5_count_80 rfl (lv_at hl 0 rfl) ?_
        refine f_calli X hh (c5_lengths l G hA hR) mf_yX5_lengths ki_yX5_lengths kl_yX5_lengths km_X5_133 (sh_134 G _) (by decide) rfl rfl hl.1 [] rfl (Nat.le_of_ble_eq_true rfl) ⟨by decide, by decide⟩ ⟨Nat.zero_le _, Nat.zero_le _⟩ dX5_count_81 (fun r τ H locs hq hh => ?_)
        obtain ⟨rfl, hτ⟩ := hq
        rw [hτ] at hh
        clear hτ
        exact f_iret X hh ⟨by unfold sp_count; rw [if_neg c_1, if_neg (by decide), if_neg (by decide), if_neg (by decide), if_pos (by decide)], hR, FrM.rf⟩ dX5_count_84
      · have hk8 : (if aK a 0 = true then 1 else 0) ≤ 1 := by split <;> omega
        have hk7 : (if aK a 1 = true then 1 else 0) ≤ 1 := by split <;> omega
        refine lv_iload_n X.x X.b dX5_count_25 rfl (lv_at hl 1 rfl) ?_
        refine lv_tableIn (off := 59) (tgt := 85) X.x X.b dX5_count_26 (by decide) (by decide) (by decide +kernel) (by decide) ?_
        refine lv_aload_n X.x X.b dX5_count_85 rfl (lv_at hl 0 rfl) ?_
        refine f_get X hh (v := .ref (gad G 137)) (sh_134 G _) (by decide) rfl in_X5 2 (by decide) kf_X5_16 rfl dX5_count_86 ?_
        refine lv_iconst (v := nI 0) X.x X.b dX5_count_89 (by decide) ?_
        refine f_zald X hh (j := 0) rfl (by omega) dX5_count_90 ?_
        rw [show σ 137 0 = nI (if aK a 0 = true then 1 else 0) from (hR.2.2.2 _ (by omega))]
        refine lv_if_eq (tgt := 98) X.x X.b dX5_count_91 (by decide) (fun c_4 => ?_) (fun c_4 => ?_)
        · have c_4 : (if aK a 0 = true then 1 else 0) = 0 := (nI_eq (a := (if aK a 0 = true then 1 else 0)) (b := 0) (by omega) (by omega)).mp c_4
          refine lv_iconst (v := nI 0) X.x X.b dX5_count_98 (by decide) ?_
          refine lv_aload_n X.x X.b dX5_count_99 rfl (lv_at hl 0 rfl) ?_
          refine f_get X hh (v := .ref (gad G 137)) (sh_134 G _) (by decide) rfl in_X5 2 (by decide) kf_X5_16 rfl dX5_count_100 ?_
          refine lv_iconst (v := nI 1) X.x X.b dX5_count_103 (by decide) ?_
          refine f_zald X hh (j := 1) rfl (by omega) dX5_count_104 ?_
          rw [show σ 137 1 = nI (if aK a 1 = true then 1 else 0) from (hR.2.2.2 _ (by omega))]
          refine lv_if_eq (tgt := 112) X.x X.b dX5_count_105 (by decide) (fun c_5 => ?_) (fun c_5 => ?_)
          · have c_5 : (if aK a 1 = true then 1 else 0) = 0 := (nI_eq (a := (if aK a 1 = true then 1 else 0)) (b := 0) (by omega) (by omega)).mp c_5
            refine lv_iconst (v := nI 0) X.x X.b dX5_count_112 (by decide) ?_
            refine f_iadd X (z := nI (0 + 0)) (nI_add 0 0) dX5_count_113 ?_
            exact f_iret X hh ⟨by unfold sp_count; rw [if_neg c_1, if_neg (by decide), if_neg (by decide), if_neg (by decide), if_neg (by decide), if_pos (by decide)]; unfold kbit; (by_cases h0 : aK a 0 = true) <;> (by_cases h1 : aK a 1 = true) <;> simp [h0, h1] at * <;> rfl, hR, FrM.rf⟩ dX5_count_114
          · have c_5 : ¬ (if aK a 1 = true then 1 else 0) = 0 := fun q9 => c_5 ((nI_eq (a := (if aK a 1 = true then 1 else 0)) (b := 0) (by omega) (by omega)).mpr q9)
            refine lv_iconst (v := nI 2) X.x X.b dX5_count_108 (by decide) ?_
            refine lv_goto (tgt := 113) X.x X.b dX5_count_109 (by decide) ?_
            refine f_iadd X (z := nI (0 + 2)) (nI_add 0 2) dX5_count_113 ?_
            exact f_iret X hh ⟨by unfold sp_count; rw [if_neg c_1, if_neg (by decide), if_neg (by decide), if_neg (by decide), if_neg (by decide), if_pos (by decide)]; unfold kbit; (by_cases h0 : aK a 0 = true) <;> (by_cases h1 : aK a 1 = true) <;> simp [h0, h1] at * <;> rfl, hR, FrM.rf⟩ dX5_count_114
        · have c_4 : ¬ (if aK a 0 = true then 1 else 0) = 0 := fun q9 => c_4 ((nI_eq (a := (if aK a 0 = true then 1 else 0)) (b := 0) (by omega) (by omega)).mpr q9)
          refine lv_iconst (v := nI 1) X.x X.b dX5_count_94 (by decide) ?_
          refine lv_goto (tgt := 99) X.x X.b dX5_count_95 (by decide) ?_
          refine lv_aload_n X.x X.b dX5_count_99 rfl (lv_at hl 0 rfl) ?_
          refine f_get X hh (v := .ref (gad G 137)) (sh_134 G _) (by decide) rfl in_X5 2 (by decide) kf_X5_16 rfl dX5_count_100 ?_
          refine lv_iconst (v := nI 1) X.x X.b dX5_count_103 (by decide) ?_
          refine f_zald X hh (j := 1) rfl (by omega) dX5_count_104 ?_
          rw [show σ 137 1 = nI (if aK a 1 = true then 1 else 0) from (hR.2.2.2 _ (by omega))]
          refine lv_if_eq (tgt := 112) X.x X.b dX5_count_105 (by decide) (fun c_6 => ?_) (fun c_6 => ?_)
          · have c_6 : (if aK a 1 = true then 1 else 0) = 0 := (nI_eq (a := (if aK a 1 = true then 1 else 0)) (b := 0) (by omega) (by omega)).mp c_6
            refine lv_iconst (v := nI 0) X.x X.b dX5_count_112 (by decide) ?_
            refine f_iadd X (z := nI (1 + 0)) (nI_add 1 0) dX5_count_113 ?_
            exact f_iret X hh ⟨by unfold sp_count; rw [if_neg c_1, if_neg (by decide), if_neg (by decide), if_neg (by decide), if_neg (by decide), if_pos (by decide)]; unfold kbit; (by_cases h0 : aK a 0 = true) <;> (by_cases h1 : aK a 1 = true) <;> simp [h0, h1] at * <;> rfl, hR, FrM.rf⟩ dX5_count_114
          · have c_6 : ¬ (if aK a 1 = true then 1 else 0) = 0 := fun q9 => c_6 ((nI_eq (a := (if aK a 1 = true then 1 else 0)) (b := 0) (by omega) (by omega)).mpr q9)
            refine lv_iconst (v := nI 2) X.x X.b dX5_count_108 (by decide) ?_
            refine lv_goto (tgt := 113) X.x X.b dX5_count_109 (by decide) ?_
            refine f_iadd X (z := nI (1 + 2)) (nI_add 1 2) dX5_count_113 ?_
            exact f_iret X hh ⟨by unfold sp_count; rw [if_neg c_1, if_neg (by decide), if_neg (by decide), if_neg (by decide), if_neg (by decide), if_pos (by decide)]; unfold kbit; (by_cases h0 : aK a 0 = true) <;> (by_cases h1 : aK a 1 = true) <;> simp [h0, h1] at * <;> rfl, hR, FrM.rf⟩ dX5_count_114
    · refine lv_iload_n X.x X.b dX5_count_25 rfl (lv_at hl 1 rfl) ?_
      refine lv_tableOut (tgt := 115) X.x X.b dX5_count_26 (by omega) (by decide) ?_
      refine lv_bipush (v := (-2)) X.x X.b dX5_count_115 (by decide) ?_
      exact f_iret X hh ⟨by unfold sp_count; rw [if_neg c_1, if_neg (fun q9 => hx (by rw [q9]; decide)), if_neg (fun q9 => hx (by rw [q9]; decide)), if_neg (fun q9 => hx (by rw [q9]; decide)), if_neg (fun q9 => hx (by rw [q9]; decide)), if_neg (fun q9 => hx (by rw [q9]; decide))], hR, FrM.rf⟩ dX5_count_117
