/-! the model: lay, go, the steps -/
def ML0 (σ υ : Mem) (a : AS) (k t u i j : Nat) : Prop := υ 134 9 = nI (bN (aB a) k) ∧ υ 134 10 = nI (bN (aB a) (3 + t)) ∧ FrN σ υ ∧ (∀ x, x < i → υ 139 x = nI (bW (aB a) k x) ∧ υ 140 x = nI (bZ (aB a) k x)) ∧ ∀ y, y < j → υ 141 y = nI (bW (aB a) (3 + t) ((y + u) % bN (aB a) (3 + t))) ∧ υ 142 y = nI (bZ (aB a) (3 + t) ((y + u) % bN (aB a) (3 + t)))
theorem FrN.set {σ υ : Mem} {c f : Nat} {x : Int32} (h : FrN σ υ) (hc : 139 ≤ c) : FrN σ (mset υ c f x) := ⟨fun k hk => by rw [mset_n (by omega)]; exact h.1 k hk, by rw [mset_n (by omega)]; exact h.2⟩
theorem FrN.setf {σ υ : Mem} {f : Nat} {x : Int32} (h : FrN σ υ) (hf : f ≠ 4) : FrN σ (mset υ 134 f x) := ⟨fun k hk => by rw [mset_n (by omega)]; exact h.1 k hk, by rw [mset_sn (by omega)]; exact h.2⟩
theorem ml0_a {σ υ : Mem} {a : AS} {k t u i j : Nat} (h : ML0 σ υ a k t u i j) : ML0 σ (mset (mset υ 139 i (nI (bW (aB a) k i))) 140 i (nI (bZ (aB a) k i))) a k t u (i + 1) j := by
  obtain ⟨h1, h2, h3, h4, h5⟩ := h
  refine ⟨by rw [mset_n (by decide), mset_n (by decide)]; exact h1, by rw [mset_n (by decide), mset_n (by decide)]; exact h2, (h3.set (by decide)).set (by decide), fun x hx => ⟨?_, ?_⟩, fun y hy => by rw [mset_n (by decide), mset_n (by decide), mset_n (by decide), mset_n (by decide)]; exact h5 y hy⟩
  · rw [mset_n (by decide)]
    by_cases e : x = i
    · subst e; exact mset_ss
    · rw [mset_sn e]; exact (h4 x (by omega)).1
  · by_cases e : x = i
    · subst e; exact mset_ss
    · rw [mset_sn e, mset_n (by decide)]; exact (h4 x (by omega)).2
theorem ml0_b {σ υ : Mem} {a : AS} {k t u i j : Nat} (h : ML0 σ υ a k t u i j) : ML0 σ (mset (mset υ 141 j (nI (bW (aB a) (3 + t) ((j + u) % bN (aB a) (3 + t))))) 142 j (nI (bZ (aB a) (3 + t) ((j + u) % bN (aB a) (3 + t))))) a k t u i (j + 1) := by
  obtain ⟨h1, h2, h3, h4, h5⟩ := h
  refine ⟨by rw [mset_n (by decide), mset_n (by decide)]; exact h1, by rw [mset_n (by decide), mset_n (by decide)]; exact h2, (h3.set (by decide)).set (by decide), fun y hy => by rw [mset_n (by decide), mset_n (by decide), mset_n (by decide), mset_n (by decide)]; exact h4 y hy, fun x hx => ⟨?_, ?_⟩⟩
  · rw [mset_n (by decide)]
    by_cases e : x = j
    · subst e; exact mset_ss
    · rw [mset_sn e]; exact (h5 x (by omega)).1
  · by_cases e : x = j
    · subst e; exact mset_ss
    · rw [mset_sn e, mset_n (by decide)]; exact (h5 x (by omega)).2
theorem ml0_m {σ υ : Mem} {a : AS} {k t u : Nat} (hR : RM σ a) (h : ML0 σ υ a k t u (bN (aB a) k) (bN (aB a) (3 + t))) : MLM υ (instT a k t u) := ⟨h.1, h.2.1, h.2.2.2.1, h.2.2.2.2, fun x hx => by rw [h.2.2.1.1 135 (by decide)]; exact hR.2.1.2.2.2.2.2.2 x hx⟩
theorem MLM.z {σ : Mem} {a : AS} {k t : Nat} (h : MLM σ (instT a k t 0)) : MLM σ (inst a k t) := by
  obtain ⟨h1, h2, h3, h4, h5⟩ := h
  refine ⟨h1, h2, h3, fun j hj => ?_, h5⟩
  have hj2 : j < bN (aB a) (3 + t) := hj
  have h6 := h4 j hj
  have e : (j + 0) % bN (aB a) (3 + t) = j := Nat.mod_eq_of_lt hj2
  have e1 : iV (instT a k t 0) j = bW (aB a) (3 + t) ((j + 0) % bN (aB a) (3 + t)) := rfl
  have e2 : iQ (instT a k t 0) j = bZ (aB a) (3 + t) ((j + 0) % bN (aB a) (3 + t)) := rfl
  rw [e1, e2, e] at h6
  exact h6
def sr6 (o : Option Nat) : Int32 := match o with
  | some st => nI st
  | none => -6
/-- the tables as layTable leaves them -/
abbrev MT (σ : Mem) (I : LI) : Prop := TP σ I (fun _ _ => True)
def MST (σ : Mem) (I : LI) (t : Nat) : Prop := σ 134 16 = nI t ∧ ∀ x, x < t → σ 147 x = nI (sta I x)
def Frx (σ τ : Mem) : Prop := (∀ k, k ≠ 134 → k ≠ 147 → τ k = σ k) ∧ ∀ f, f ≠ 16 → τ 134 f = σ 134 f
theorem Frx.n {σ τ : Mem} (h : Frx σ τ) : FrN σ τ := ⟨fun k hk => h.1 k (by omega) (by omega), h.2 4 (by decide)⟩
theorem MLM.kx {σ τ : Mem} {I : LI} (h : MLM σ I) (f : Frx σ τ) : MLM τ I := by
  obtain ⟨h1, h2, h3, h4, h5⟩ := h
  exact ⟨by rw [f.2 9 (by decide)]; exact h1, by rw [f.2 10 (by decide)]; exact h2, fun i hi => by rw [f.1 139 (by decide) (by decide), f.1 140 (by decide) (by decide)]; exact h3 i hi, fun i hi => by rw [f.1 141 (by decide) (by decide), f.1 142 (by decide) (by decide)]; exact h4 i hi, fun i hi => by rw [f.1 135 (by decide) (by decide)]; exact h5 i hi⟩
theorem MT.kx {σ τ : Mem} {I : LI} (h : MT σ I) (f : Frx σ τ) : MT τ I := fun a b h1 h2 _ => by
  obtain ⟨g1, g2, g3, g4⟩ := h a b h1 h2 trivial
  exact ⟨by rw [f.1 143 (by decide) (by decide)]; exact g1, by rw [f.1 144 (by decide) (by decide)]; exact g2, by rw [f.1 145 (by decide) (by decide)]; exact g3, by rw [f.1 146 (by decide) (by decide)]; exact g4⟩
set_option maxHeartbeats 4000000 in
set_option maxRecDepth 100000 in
theorem c5_lay (l : Launch) (G : GG) {σ : Mem} {a : AS} {k t u : Nat} (hA : AOK a) (hR : RM σ a) (hk0 : k < 3) (ht0 : t < 4) (hu : u ≤ 11) : Cv l G yX5_lay cX5_lay 6 0 0 [.ref (gad G 134), .int (nI k), .int (nI t), .int (nI u)] σ (fun τ => MLM τ (instT a k t u) ∧ FrN σ τ) := by
  refine Cv.of (own := RX5) (by decide) rfl (Nat.le_of_ble_eq_true rfl) (fun p e s m args below meth c ls H locs X hl hh => ?_)
  have hb1 := (hA.2.2.1.1 k hk0).1
  have hb2 := (hA.2.2.1.2.1 (3 + t) (by omega) (by omega)).1
  have lp2 : ∀ (q i : Nat), bN (aB a) (3 + t) - i = q → i ≤ bN (aB a) (3 + t) → ∀ (υ : Mem), ML0 σ υ a k t u (bN (aB a) k) i → ∀ (ls : Array Slot) (H : Heap) (locs : List Loc), lv_has ls 6 [(4, .int (nI i)), (0, .ref (gad G 134)), (1, .int (nI k)), (2, .int (nI t)), (3, .int (nI u))] → HH G s υ H locs → WV l G p e s m args below meth c 0 0 (fun τ => MLM τ (instT a k t u) ∧ FrN σ τ) H locs (F0 m 89 ls []) := by
    intro km
    induction km using Nat.strongRecOn with
    | ind km ih =>
      intro i hk hi υ hv ls H locs hl hh
      refine lv_iload X.x X.b dX5_lay_89 (lv_at hl 0 rfl) ?_
      refine lv_aload_n X.x X.b dX5_lay_91 rfl (lv_at hl 1 rfl) ?_
      refine f_geti X hh (x := nI (bN (aB a) (3 + t))) (sh_134 G _) (by decide) rfl in_X5 10 (by decide) kf_X5_78 rfl hv.2.1 dX5_lay_92 ?_
      refine lv_icmp_ge (tgt := 154) X.x X.b dX5_lay_95 (by decide) (fun c_1 => ?_) (fun c_1 => ?_)
      · have c_1 : (bN (aB a) (3 + t)) ≤ i := (nI_leI (a := (bN (aB a) (3 + t))) (b := i) (by omega) (by omega)).mp c_1
        exact f_vret X hh (by obtain rfl : i = bN (aB a) (3 + t) := (by omega); exact ⟨ml0_m hR hv, hv.2.2.1⟩) dX5_lay_154
      · have c_1 : ¬ (bN (aB a) (3 + t)) ≤ i := fun q9 => c_1 ((nI_leI (a := (bN (aB a) (3 + t))) (b := i) (by omega) (by omega)).mpr q9)
        refine lv_bipush (v := nI 11) X.x X.b dX5_lay_98 (by decide) ?_
        refine lv_iload_n X.x X.b dX5_lay_100 rfl (lv_at hl 3 rfl) ?_
        refine f_imul X (z := nI (11 * t)) (pk_mul 11 t) dX5_lay_101 ?_
        refine lv_iload X.x X.b dX5_lay_102 (lv_at hl 0 rfl) ?_
        refine lv_iload_n X.x X.b dX5_lay_104 rfl (lv_at hl 4 rfl) ?_
        refine f_iadd X (z := nI (i + u)) (nI_add i u) dX5_lay_105 ?_
        refine lv_aload_n X.x X.b dX5_lay_106 rfl (lv_at hl 1 rfl) ?_
        refine f_geti X hh (x := nI (bN (aB a) (3 + t))) (sh_134 G _) (by decide) rfl in_X5 10 (by decide) kf_X5_78 rfl hv.2.1 dX5_lay_107 ?_
        have hmod := Nat.mod_lt (i + u) (show 0 < bN (aB a) (3 + t) by omega)
        refine f_irem X (z := nI ((i + u) % bN (aB a) (3 + t))) (nI_ne0 (by omega) (by omega)) (pk_rem (a := i + u) (d := bN (aB a) (3 + t)) (by omega) (by omega) (by omega)) dX5_lay_110 ?_
        refine f_iadd X (z := nI (11 * t + (i + u) % bN (aB a) (3 + t))) (nI_add (11 * t) ((i + u) % bN (aB a) (3 + t))) dX5_lay_111 ?_
        refine lv_istore (lv' := [(5, .int (nI (11 * t + (i + u) % bN (aB a) (3 + t)))), (4, .int (nI i)), (0, .ref (gad G 134)), (1, .int (nI k)), (2, .int (nI t)), (3, .int (nI u))]) X.x X.b dX5_lay_112 hl (by decide) rfl (fun ls hl => ?_)
        refine lv_aload_n X.x X.b dX5_lay_114 rfl (lv_at hl 2 rfl) ?_
        refine f_get X hh (v := .ref (gad G 141)) (sh_134 G _) (by decide) rfl in_X5 7 (by decide) kf_X5_29 rfl dX5_lay_115 ?_
        refine lv_iload X.x X.b dX5_lay_118 (lv_at hl 1 rfl) ?_
        refine lv_aload_n X.x X.b dX5_lay_120 rfl (lv_at hl 2 rfl) ?_
        refine f_get X hh (v := .ref (gad G 135)) (sh_134 G _) (by decide) rfl in_X5 0 (by decide) kf_X5_7 rfl dX5_lay_121 ?_
        refine lv_bipush (v := nI 61) X.x X.b dX5_lay_124 (by decide) ?_
        refine lv_iload X.x X.b dX5_lay_126 (lv_at hl 0 rfl) ?_
        refine f_iadd X (z := nI (61 + (11 * t + (i + u) % bN (aB a) (3 + t)))) (nI_add 61 (11 * t + (i + u) % bN (aB a) (3 + t))) dX5_lay_128 ?_
        refine f_ialdx X hh (j := 61 + (11 * t + (i + u) % bN (aB a) (3 + t))) (y := nI (bW (aB a) (3 + t) ((i + u) % bN (aB a) (3 + t)))) (sh_135 G _) (by decide) rfl (by omega) (by decide) (by rw [hv.2.2.1.1 135 (by decide), ← Nat.add_assoc]; exact hR.2.1.2.2.2.2.1 _ ht0 _ hmod) dX5_lay_129 ?_
        refine f_iast X hh (j := i) (sh_141 G) (by decide) rfl (by omega) (by decide) dX5_lay_130 (fun H locs hh => ?_)
        refine lv_aload_n X.x X.b dX5_lay_131 rfl (lv_at hl 2 rfl) ?_
        refine f_get X hh (v := .ref (gad G 142)) (sh_134 G _) (by decide) rfl in_X5 8 (by decide) kf_X5_32 rfl dX5_lay_132 ?_
        refine lv_iload X.x X.b dX5_lay_135 (lv_at hl 1 rfl) ?_
        refine lv_aload_n X.x X.b dX5_lay_137 rfl (lv_at hl 2 rfl) ?_
        refine f_get X hh (v := .ref (gad G 135)) (sh_134 G _) (by decide) rfl in_X5 0 (by decide) kf_X5_7 rfl dX5_lay_138 ?_
        refine lv_bipush (v := nI 105) X.x X.b dX5_lay_141 (by decide) ?_
        refine lv_iload X.x X.b dX5_lay_143 (lv_at hl 0 rfl) ?_
        refine f_iadd X (z := nI (105 + (11 * t + (i + u) % bN (aB a) (3 + t)))) (nI_add 105 (11 * t + (i + u) % bN (aB a) (3 + t))) dX5_lay_145 ?_
        refine f_ialdx X hh (j := 105 + (11 * t + (i + u) % bN (aB a) (3 + t))) (y := nI (bZ (aB a) (3 + t) ((i + u) % bN (aB a) (3 + t)))) (sh_135 G _) (by decide) rfl (by omega) (by decide) (by rw [mset_n (show 135 ≠ 141 by omega)]; exact (by rw [hv.2.2.1.1 135 (by decide), ← Nat.add_assoc]; exact hR.2.1.2.2.2.2.2.1 _ ht0 _ hmod)) dX5_lay_146 ?_
        refine f_iast X hh (j := i) (sh_142 G) (by decide) rfl (by omega) (by decide) dX5_lay_147 (fun H locs hh => ?_)
        refine lv_iinc (v := nI (i + 1)) (lv' := [(4, .int (nI (i + 1))), (5, .int (nI (11 * t + (i + u) % bN (aB a) (3 + t)))), (0, .ref (gad G 134)), (1, .int (nI k)), (2, .int (nI t)), (3, .int (nI u))]) X.x X.b dX5_lay_148 hl (k := 1) rfl (nI_1 i) (by decide) rfl (fun ls hl => ?_)
        refine lv_goto (tgt := 89) X.x X.b dX5_lay_151 (by decide) ?_
        exact ih (bN (aB a) (3 + t) - (i + 1)) (by omega) (i + 1) rfl (by omega) _ (ml0_b hv) ls H locs (lv_sub hl [0, 2, 3, 4, 5] rfl) hh
  have lp1 : ∀ (q i : Nat), bN (aB a) k - i = q → i ≤ bN (aB a) k → ∀ (υ : Mem), ML0 σ υ a k t u i 0 → ∀ (ls : Array Slot) (H : Heap) (locs : List Loc), lv_has ls 6 [(4, .int (nI i)), (0, .ref (gad G 134)), (1, .int (nI k)), (2, .int (nI t)), (3, .int (nI u))] → HH G s υ H locs → WV l G p e s m args below meth c 0 0 (fun τ => MLM τ (instT a k t u) ∧ FrN σ τ) H locs (F0 m 28 ls []) := by
    intro km
    induction km using Nat.strongRecOn with
    | ind km ih =>
      intro i hk hi υ hv ls H locs hl hh
      refine lv_iload X.x X.b dX5_lay_28 (lv_at hl 0 rfl) ?_
      refine lv_aload_n X.x X.b dX5_lay_30 rfl (lv_at hl 1 rfl) ?_
      refine f_geti X hh (x := nI (bN (aB a) k)) (sh_134 G _) (by decide) rfl in_X5 9 (by decide) kf_X5_75 rfl hv.1 dX5_lay_31 ?_
      refine lv_icmp_ge (tgt := 86) X.x X.b dX5_lay_34 (by decide) (fun c_2 => ?_) (fun c_2 => ?_)
      · have c_2 : (bN (aB a) k) ≤ i := (nI_leI (a := (bN (aB a) k)) (b := i) (by omega) (by omega)).mp c_2
        refine lv_iconst (v := nI 0) X.x X.b dX5_lay_86 (by decide) ?_
        refine lv_istore (lv' := [(4, .int (nI 0)), (0, .ref (gad G 134)), (1, .int (nI k)), (2, .int (nI t)), (3, .int (nI u))]) X.x X.b dX5_lay_87 hl (by decide) rfl (fun ls hl => ?_)
        exact lp2 (bN (aB a) (3 + t)) 0 rfl (by omega) υ (by rw [show bN (aB a) k = i by omega]; exact hv) ls H locs (lv_sub hl [0, 1, 2, 3, 4] rfl) hh
      · have c_2 : ¬ (bN (aB a) k) ≤ i := fun q9 => c_2 ((nI_leI (a := (bN (aB a) k)) (b := i) (by omega) (by omega)).mpr q9)
        refine lv_aload_n X.x X.b dX5_lay_37 rfl (lv_at hl 1 rfl) ?_
        refine f_get X hh (v := .ref (gad G 139)) (sh_134 G _) (by decide) rfl in_X5 5 (by decide) kf_X5_23 rfl dX5_lay_38 ?_
        refine lv_iload X.x X.b dX5_lay_41 (lv_at hl 0 rfl) ?_
        refine lv_aload_n X.x X.b dX5_lay_43 rfl (lv_at hl 1 rfl) ?_
        refine f_get X hh (v := .ref (gad G 135)) (sh_134 G _) (by decide) rfl in_X5 0 (by decide) kf_X5_7 rfl dX5_lay_44 ?_
        refine lv_iconst (v := nI 3) X.x X.b dX5_lay_47 (by decide) ?_
        refine lv_bipush (v := nI 9) X.x X.b dX5_lay_48 (by decide) ?_
        refine lv_iload_n X.x X.b dX5_lay_50 rfl (lv_at hl 2 rfl) ?_
        refine f_imul X (z := nI (9 * k)) (pk_mul 9 k) dX5_lay_51 ?_
        refine f_iadd X (z := nI (3 + 9 * k)) (nI_add 3 (9 * k)) dX5_lay_52 ?_
        refine lv_iload X.x X.b dX5_lay_53 (lv_at hl 0 rfl) ?_
        refine f_iadd X (z := nI (3 + 9 * k + i)) (nI_add (3 + 9 * k) i) dX5_lay_55 ?_
        refine f_ialdx X hh (j := 3 + 9 * k + i) (y := nI (bW (aB a) k i)) (sh_135 G _) (by decide) rfl (by omega) (by decide) (by rw [hv.2.2.1.1 135 (by decide)]; exact (hR.2.1.2.1 _ (by omega) _ (by omega))) dX5_lay_56 ?_
        refine f_iast X hh (j := i) (sh_139 G) (by decide) rfl (by omega) (by decide) dX5_lay_57 (fun H locs hh => ?_)
        refine lv_aload_n X.x X.b dX5_lay_58 rfl (lv_at hl 1 rfl) ?_
        refine f_get X hh (v := .ref (gad G 140)) (sh_134 G _) (by decide) rfl in_X5 6 (by decide) kf_X5_26 rfl dX5_lay_59 ?_
        refine lv_iload X.x X.b dX5_lay_62 (lv_at hl 0 rfl) ?_
        refine lv_aload_n X.x X.b dX5_lay_64 rfl (lv_at hl 1 rfl) ?_
        refine f_get X hh (v := .ref (gad G 135)) (sh_134 G _) (by decide) rfl in_X5 0 (by decide) kf_X5_7 rfl dX5_lay_65 ?_
        refine lv_bipush (v := nI 30) X.x X.b dX5_lay_68 (by decide) ?_
        refine lv_bipush (v := nI 9) X.x X.b dX5_lay_70 (by decide) ?_
        refine lv_iload_n X.x X.b dX5_lay_72 rfl (lv_at hl 2 rfl) ?_
        refine f_imul X (z := nI (9 * k)) (pk_mul 9 k) dX5_lay_73 ?_
        refine f_iadd X (z := nI (30 + 9 * k)) (nI_add 30 (9 * k)) dX5_lay_74 ?_
        refine lv_iload X.x X.b dX5_lay_75 (lv_at hl 0 rfl) ?_
        refine f_iadd X (z := nI (30 + 9 * k + i)) (nI_add (30 + 9 * k) i) dX5_lay_77 ?_
        refine f_ialdx X hh (j := 30 + 9 * k + i) (y := nI (bZ (aB a) k i)) (sh_135 G _) (by decide) rfl (by omega) (by decide) (by rw [mset_n (show 135 ≠ 139 by omega)]; exact (by rw [hv.2.2.1.1 135 (by decide)]; exact (hR.2.1.2.2.1 _ (by omega) _ (by omega)))) dX5_lay_78 ?_
        refine f_iast X hh (j := i) (sh_140 G) (by decide) rfl (by omega) (by decide) dX5_lay_79 (fun H locs hh => ?_)
        refine lv_iinc (v := nI (i + 1)) (lv' := [(4, .int (nI (i + 1))), (0, .ref (gad G 134)), (1, .int (nI k)), (2, .int (nI t)), (3, .int (nI u))]) X.x X.b dX5_lay_80 hl (k := 0) rfl (nI_1 i) (by decide) rfl (fun ls hl => ?_)
        refine lv_goto (tgt := 28) X.x X.b dX5_lay_83 (by decide) ?_
        exact ih (bN (aB a) k - (i + 1)) (by omega) (i + 1) rfl (by omega) _ (ml0_a hv) ls H locs (lv_sub hl [0, 1, 2, 3, 4] rfl) hh
  have hl : lv_has ls 6 [(0, .ref (gad G 134)), (1, .int (nI k)), (2, .int (nI t)), (3, .int (nI u))] := hl
  refine lv_aload_n X.x X.b dX5_lay_0 rfl (lv_at hl 0 rfl) ?_
  refine lv_aload_n X.x X.b dX5_lay_1 rfl (lv_at hl 0 rfl) ?_
  refine f_get X hh (v := .ref (gad G 135)) (sh_134 G _) (by decide) rfl in_X5 0 (by decide) kf_X5_7 rfl dX5_lay_2 ?_
  refine lv_iconst (v := nI 0) X.x X.b dX5_lay_5 (by decide) ?_
  refine lv_iload_n X.x X.b dX5_lay_6 rfl (lv_at hl 1 rfl) ?_
  refine f_iadd X (z := nI (0 + k)) (nI_add 0 k) dX5_lay_7 ?_
  refine f_ialdx X hh (j := 0 + k) (y := nI (bN (aB a) k)) (sh_135 G _) (by decide) rfl (by omega) (by decide) (hR.2.1.1 _ (by omega)) dX5_lay_8 ?_
  refine f_put X hh (x := nI (bN (aB a) k)) (sh_134 G _) (by decide) rfl in_X5 9 (sh_134 G _) tyX5 tyX5_ok nmX5 (by decide) kf_X5_75 rfl (by decide +kernel) (Nat.le_of_ble_eq_true rfl) dX5_lay_9 (fun H locs hh => ?_)
  refine lv_aload_n X.x X.b dX5_lay_12 rfl (lv_at hl 0 rfl) ?_
  refine lv_aload_n X.x X.b dX5_lay_13 rfl (lv_at hl 0 rfl) ?_
  refine f_get X hh (v := .ref (gad G 135)) (sh_134 G _) (by decide) rfl in_X5 0 (by decide) kf_X5_7 rfl dX5_lay_14 ?_
  refine lv_bipush (v := nI 57) X.x X.b dX5_lay_17 (by decide) ?_
  refine lv_iload_n X.x X.b dX5_lay_19 rfl (lv_at hl 2 rfl) ?_
  refine f_iadd X (z := nI (57 + t)) (nI_add 57 t) dX5_lay_20 ?_
  refine f_ialdx X hh (j := 57 + t) (y := nI (bN (aB a) (3 + t))) (sh_135 G _) (by decide) rfl (by omega) (by decide) (by rw [mset_n (show 135 ≠ 134 by omega)]; exact (hR.2.1.2.2.2.1 _ (by omega))) dX5_lay_21 ?_
  refine f_put X hh (x := nI (bN (aB a) (3 + t))) (sh_134 G _) (by decide) rfl in_X5 10 (sh_134 G _) tyX5 tyX5_ok nmX5 (by decide) kf_X5_78 rfl (by decide +kernel) (Nat.le_of_ble_eq_true rfl) dX5_lay_22 (fun H locs hh => ?_)
  refine lv_iconst (v := nI 0) X.x X.b dX5_lay_25 (by decide) ?_
  refine lv_istore (lv' := [(4, .int (nI 0)), (0, .ref (gad G 134)), (1, .int (nI k)), (2, .int (nI t)), (3, .int (nI u))]) X.x X.b dX5_lay_26 hl (by decide) rfl (fun ls hl => ?_)
  exact lp1 (bN (aB a) k) 0 rfl (by omega) _ ⟨by rw [mset_sn (by decide), mset_ss], mset_ss, (FrN.rf.setf (by decide)).setf (by decide), fun x hx => absurd hx (Nat.not_lt_zero _), fun x hx => absurd hx (Nat.not_lt_zero _)⟩ ls H locs (lv_sub hl [0, 1, 2, 3, 4] rfl) hh
set_option maxHeartbeats 4000000 in
set_option maxRecDepth 100000 in
theorem c5_go (l : Launch) (G : GG) {σ : Mem} {a : AS} {k t u : Nat} (hA : AOK a) (hR : RM σ a) (hk0 : k < 3) (ht0 : t < 4) (hu : u ≤ 11) : Cv l G yX5_go cX5_go 4 4 96 [.ref (gad G 134), .int (nI k), .int (nI t), .int (nI u)] σ (fun τ => MLM τ (instT a k t u) ∧ MT τ (instT a k t u) ∧ FrN σ τ) := by
  refine Cv.of (own := RX5) (by decide) rfl (Nat.le_of_ble_eq_true rfl) (fun p e s m args below meth c ls H locs X hl hh => ?_)
  have hl : lv_has ls 4 [(0, .ref (gad G 134)), (1, .int (nI k)), (2, .int (nI t)), (3, .int (nI u))] := hl
  refine lv_aload_n X.x X.b dX5_go_0 rfl (lv_at hl 0 rfl) ?_
  refine lv_iload_n X.x X.b dX5_go_1 rfl (lv_at hl 1 rfl) ?_
  refine lv_iload_n X.x X.b dX5_go_2 rfl (lv_at hl 2 rfl) ?_
  refine lv_iload_n X.x X.b dX5_go_3 rfl (lv_at hl 3 rfl) ?_
  refine f_callv X hh (c5_lay l G hA hR hk0 ht0 hu) mf_yX5_lay ki_yX5_lay kl_yX5_lay km_X5_106 (sh_134 G _) (by decide) rfl rfl hl.1 [] rfl (Nat.le_of_ble_eq_true rfl) ⟨by decide, by decide⟩ ⟨Nat.zero_le _, Nat.zero_le _⟩ dX5_go_4 (fun τ H locs hq hh => ?_)
  obtain ⟨hM1, hf1⟩ := hq
  refine lv_aload_n X.x X.b dX5_go_7 rfl (lv_at hl 0 rfl) ?_
  refine f_callv X hh (c5_layTable l G (instT_ok hA hk0 ht0) hM1) mf_yX5_layTable ki_yX5_layTable kl_yX5_layTable km_X5_109 (sh_134 G _) (by decide) rfl rfl hl.1 [] rfl (Nat.le_of_ble_eq_true rfl) ⟨by decide, by decide⟩ ⟨Nat.zero_le _, Nat.zero_le _⟩ dX5_go_8 (fun τ H locs hq hh => ?_)
  obtain ⟨hT2, hf2⟩ := hq
  exact f_vret X hh ⟨hM1.ku hf2, hT2, hf1.tr hf2.n⟩ dX5_go_11
set_option maxHeartbeats 4000000 in
set_option maxRecDepth 100000 in
theorem c5_nextStep (l : Launch) (G : GG) {σ : Mem} {I : LI} {i j : Nat} (hB : LB I) (hM : MLM σ I) (hT : MT σ I) (hd : dmn I i j) : Ci l G yX5_nextStep cX5_nextStep 5 (some .int) 2 46 [.ref (gad G 134), .int (nI i), .int (nI j)] σ (fun r τ => r = sr6 (snx I i j) ∧ τ = σ) := by
  refine Ci.of (own := RX5) (by decide) rfl (Nat.le_of_ble_eq_true rfl) (fun p e s m args below meth c ls H locs X hl hh => ?_)
  have hb1 := hB.1
  have hb2 := hB.2.1
  have hi := (dmn_le hd).1
  have hj := (dmn_le hd).2
  have hbb := TT_b hB hi hj
  have lp : ∀ (k st : Nat), (∀ k9, k9 < st → nxok I i j k9 = false) → 3 - st = k → st ≤ 3 → ∀ (ls : Array Slot) (H : Heap) (locs : List Loc), lv_has ls 5 [(3, .int (nI st)), (0, .ref (gad G 134)), (1, .int (nI i)), (2, .int (nI j))] → HH G s σ H locs → WI l G p e s m args below meth c 2 46 (fun r τ => r = sr6 (snx I i j) ∧ τ = σ) H locs (F0 m 2 ls []) := by
    intro km
    induction km using Nat.strongRecOn with
    | ind km ih =>
      intro st hb hk hst ls H locs hl hh
      refine lv_iload_n X.x X.b dX5_nextStep_2 rfl (lv_at hl 0 rfl) ?_
      refine lv_iconst (v := nI 3) X.x X.b dX5_nextStep_3 (by decide) ?_
      refine lv_icmp_ge (tgt := 80) X.x X.b dX5_nextStep_4 (by decide) (fun c_1 => ?_) (fun c_1 => ?_)
      · have c_1 : 3 ≤ st := (nI_leI (a := 3) (b := st) (by omega) (by omega)).mp c_1
        refine lv_bipush (v := (-6)) X.x X.b dX5_nextStep_80 (by decide) ?_
        exact f_iret X hh ⟨by rw [snx_n (fun k9 hk9 => hb k9 (by omega))]; rfl, rfl⟩ dX5_nextStep_82
      · have c_1 : ¬ 3 ≤ st := fun q9 => c_1 ((nI_leI (a := 3) (b := st) (by omega) (by omega)).mpr q9)
        refine lv_aload_n X.x X.b dX5_nextStep_7 rfl (lv_at hl 1 rfl) ?_
        refine lv_iload_n X.x X.b dX5_nextStep_8 rfl (lv_at hl 0 rfl) ?_
        refine lv_iload_n X.x X.b dX5_nextStep_9 rfl (lv_at hl 2 rfl) ?_
        refine lv_iload_n X.x X.b dX5_nextStep_10 rfl (lv_at hl 3 rfl) ?_
        refine f_calli X hh (c5_canStep l G (st := st) (i := i) (j := j) hB hM (by omega) (by omega) (by omega)) mf_yX5_canStep ki_yX5_canStep kl_yX5_canStep km_X5_99 (sh_134 G _) (by decide) rfl rfl hl.1 [] rfl (Nat.le_of_ble_eq_true rfl) ⟨by decide, by decide⟩ ⟨Nat.zero_le _, Nat.zero_le _⟩ dX5_nextStep_11 (fun r τ H locs hq hh => ?_)
        obtain ⟨rfl, hτ⟩ := hq
        rw [hτ] at hh
        clear hτ
        by_cases c_2 : can I st i j = true
        · rw [show (if can I st i j = true then (1 : Int32) else 0) = 1 from if_pos c_2]
          have hnx := can_next (by omega) c_2 hi hj
          have hT9 := hT (i + di st) (j + dj st) hnx.1 hnx.2 trivial
          have hb9 := TT_b hB hnx.1 hnx.2
          have hc9 := cst_le hB (by omega) c_2 hi hj
          have hp9 := TT_dn hB (by omega) hd c_2
          have hd9 := dij (st := st)
          have hw9 := TT_w19 hB hnx.1 hnx.2 (by omega)
          refine lv_if_eq (tgt := 74) X.x X.b dX5_nextStep_14 (by decide) (fun h9 => absurd h9 (by decide)) (fun _ => ?_)
          refine lv_iload_n X.x X.b dX5_nextStep_17 rfl (lv_at hl 2 rfl) ?_
          refine lv_iload_n X.x X.b dX5_nextStep_18 rfl (lv_at hl 0 rfl) ?_
          refine f_scalli X hh (c5_syllablesOf l G (st := st) (by omega)) mf_yX5_syllablesOf ks_yX5_syllablesOf km_X5_88 rfl hl.1 [.int (nI i)] rfl (Nat.le_of_ble_eq_true rfl) ⟨by decide, by decide⟩ ⟨Nat.zero_le _, Nat.zero_le _⟩ dX5_nextStep_19 (fun r τ H locs hq hh => ?_)
          obtain ⟨rfl, hτ⟩ := hq
          rw [hτ] at hh
          clear hτ
          refine f_iadd X (z := nI (i + di st)) (nI_add i (di st)) dX5_nextStep_22 ?_
          refine lv_iload_n X.x X.b dX5_nextStep_23 rfl (lv_at hl 3 rfl) ?_
          refine lv_iload_n X.x X.b dX5_nextStep_24 rfl (lv_at hl 0 rfl) ?_
          refine f_scalli X hh (c5_notesOf l G (st := st) (by omega)) mf_yX5_notesOf ks_yX5_notesOf km_X5_92 rfl hl.1 [.int (nI j), .int (nI (i + di st))] rfl (Nat.le_of_ble_eq_true rfl) ⟨by decide, by decide⟩ ⟨Nat.zero_le _, Nat.zero_le _⟩ dX5_nextStep_25 (fun r τ H locs hq hh => ?_)
          obtain ⟨rfl, hτ⟩ := hq
          rw [hτ] at hh
          clear hτ
          refine f_iadd X (z := nI (j + dj st)) (nI_add j (dj st)) dX5_nextStep_28 ?_
          refine f_scalli X hh (c5_at l G (i := i + di st) (j := j + dj st)) mf_yX5_at ks_yX5_at km_X5_85 rfl hl.1 [] rfl (Nat.le_of_ble_eq_true rfl) ⟨by decide, by decide⟩ ⟨Nat.zero_le _, Nat.zero_le _⟩ dX5_nextStep_29 (fun r τ H locs hq hh => ?_)
          obtain ⟨rfl, hτ⟩ := hq
          rw [hτ] at hh
          clear hτ
          refine lv_istore (lv' := [(4, .int (nI (12 * (i + di st) + (j + dj st)))), (3, .int (nI st)), (0, .ref (gad G 134)), (1, .int (nI i)), (2, .int (nI j))]) X.x X.b dX5_nextStep_32 hl (by decide) rfl (fun ls hl => ?_)
          refine lv_aload_n X.x X.b dX5_nextStep_34 rfl (lv_at hl 2 rfl) ?_
          refine f_get X hh (v := .ref (gad G 145)) (sh_134 G _) (by decide) rfl in_X5 13 (by decide) kf_X5_41 rfl dX5_nextStep_35 ?_
          refine lv_iload X.x X.b dX5_nextStep_38 (lv_at hl 0 rfl) ?_
          refine f_ialdx X hh (j := 12 * (i + di st) + (j + dj st)) (y := nI ((TT I (i + di st) (j + dj st)).2.2.1)) (sh_145 G _) (by decide) rfl (by omega) (by decide) hT9.2.2.1 dX5_nextStep_40 ?_
          refine lv_if_le (tgt := 74) X.x X.b dX5_nextStep_41 (by decide) (fun h9 => absurd h9 (nI_nle (by omega) hw9)) (fun _ => ?_)
          refine lv_aload_n X.x X.b dX5_nextStep_44 rfl (lv_at hl 2 rfl) ?_
          refine lv_iload_n X.x X.b dX5_nextStep_45 rfl (lv_at hl 1 rfl) ?_
          refine lv_iload_n X.x X.b dX5_nextStep_46 rfl (lv_at hl 3 rfl) ?_
          refine lv_iload_n X.x X.b dX5_nextStep_47 rfl (lv_at hl 4 rfl) ?_
          refine f_calli X hh (c5_costOf l G (st := st) (i := i) (j := j) hB hM (by omega) c_2 (by omega) (by omega)) mf_yX5_costOf ki_yX5_costOf kl_yX5_costOf km_X5_95 (sh_134 G _) (by decide) rfl rfl hl.1 [] rfl (Nat.le_of_ble_eq_true rfl) ⟨by decide, by decide⟩ ⟨Nat.zero_le _, Nat.zero_le _⟩ dX5_nextStep_48 (fun r τ H locs hq hh => ?_)
          obtain ⟨rfl, hτ⟩ := hq
          rw [hτ] at hh
          clear hτ
          refine lv_aload_n X.x X.b dX5_nextStep_51 rfl (lv_at hl 2 rfl) ?_
          refine f_get X hh (v := .ref (gad G 143)) (sh_134 G _) (by decide) rfl in_X5 11 (by decide) kf_X5_35 rfl dX5_nextStep_52 ?_
          refine lv_iload X.x X.b dX5_nextStep_55 (lv_at hl 0 rfl) ?_
          refine f_ialdx X hh (j := 12 * (i + di st) + (j + dj st)) (y := nI ((TT I (i + di st) (j + dj st)).1)) (sh_143 G _) (by decide) rfl (by omega) (by decide) hT9.1 dX5_nextStep_57 ?_
          refine f_iadd X (z := nI (cst I st i j + (TT I (i + di st) (j + dj st)).1)) (nI_add (cst I st i j) ((TT I (i + di st) (j + dj st)).1)) dX5_nextStep_58 ?_
          refine lv_aload_n X.x X.b dX5_nextStep_59 rfl (lv_at hl 2 rfl) ?_
          refine f_get X hh (v := .ref (gad G 143)) (sh_134 G _) (by decide) rfl in_X5 11 (by decide) kf_X5_35 rfl dX5_nextStep_60 ?_
          refine lv_iload_n X.x X.b dX5_nextStep_63 rfl (lv_at hl 3 rfl) ?_
          refine lv_iload_n X.x X.b dX5_nextStep_64 rfl (lv_at hl 4 rfl) ?_
          refine f_scalli X hh (c5_at l G (i := i) (j := j)) mf_yX5_at ks_yX5_at km_X5_85 rfl hl.1 [.ref (gad G 143), .int (nI (cst I st i j + (TT I (i + di st) (j + dj st)).1))] rfl (Nat.le_of_ble_eq_true rfl) ⟨by decide, by decide⟩ ⟨Nat.zero_le _, Nat.zero_le _⟩ dX5_nextStep_65 (fun r τ H locs hq hh => ?_)
          obtain ⟨rfl, hτ⟩ := hq
          rw [hτ] at hh
          clear hτ
          refine f_ialdx X hh (j := 12 * i + j) (y := nI ((TT I i j).1)) (sh_143 G _) (by decide) rfl (by omega) (by decide) (hT i j hi hj trivial).1 dX5_nextStep_68 ?_
          refine lv_icmp_ne (tgt := 74) X.x X.b dX5_nextStep_69 (by decide) (fun c_5 => ?_) (fun c_5 => ?_)
          · have c_5 : ¬ (cst I st i j + (TT I (i + di st) (j + dj st)).1) = ((TT I i j).1) := fun q9 => c_5 ((nI_eq (a := (cst I st i j + (TT I (i + di st) (j + dj st)).1)) (b := ((TT I i j).1)) (by omega) (by omega)).mpr q9)
            refine lv_iinc (v := nI (st + 1)) (lv' := [(3, .int (nI (st + 1))), (4, .int (nI (12 * (i + di st) + (j + dj st)))), (0, .ref (gad G 134)), (1, .int (nI i)), (2, .int (nI j))]) X.x X.b dX5_nextStep_74 hl (k := 1) rfl (nI_1 st) (by decide) rfl (fun ls hl => ?_)
            refine lv_goto (tgt := 2) X.x X.b dX5_nextStep_77 (by decide) ?_
            refine ih (3 - (st + 1)) (by omega) (st + 1) (fun k9 hk9 => ?_) rfl (by omega) ls H locs (lv_sub hl [0, 2, 3, 4] rfl) hh
            by_cases e9 : k9 = st
            · subst e9; simp [nxok, c_2]; omega
            · exact hb k9 (by omega)
          · have c_5 : (cst I st i j + (TT I (i + di st) (j + dj st)).1) = ((TT I i j).1) := (nI_eq (a := (cst I st i j + (TT I (i + di st) (j + dj st)).1)) (b := ((TT I i j).1)) (by omega) (by omega)).mp c_5
            refine lv_iload_n X.x X.b dX5_nextStep_72 rfl (lv_at hl 1 rfl) ?_
            exact f_iret X hh ⟨by rw [snx_i (st := st) (by omega) (by simp [nxok, c_2]; omega) hb]; rfl, rfl⟩ dX5_nextStep_73
        · rw [show (if can I st i j = true then (1 : Int32) else 0) = 0 from if_neg c_2]
          refine lv_if_eq (tgt := 74) X.x X.b dX5_nextStep_14 (by decide) (fun _ => ?_) (fun h9 => absurd (show _ by decide) h9)
          refine lv_iinc (v := nI (st + 1)) (lv' := [(3, .int (nI (st + 1))), (0, .ref (gad G 134)), (1, .int (nI i)), (2, .int (nI j))]) X.x X.b dX5_nextStep_74 hl (k := 0) rfl (nI_1 st) (by decide) rfl (fun ls hl => ?_)
          refine lv_goto (tgt := 2) X.x X.b dX5_nextStep_77 (by decide) ?_
          refine ih (3 - (st + 1)) (by omega) (st + 1) (fun k9 hk9 => ?_) rfl (by omega) ls H locs (lv_sub hl [0, 1, 2, 3] rfl) hh
          by_cases e9 : k9 = st
          · subst e9; simp [nxok, c_2]
          · exact hb k9 (by omega)
  have hl : lv_has ls 5 [(0, .ref (gad G 134)), (1, .int (nI i)), (2, .int (nI j))] := hl
  refine lv_iconst (v := nI 0) X.x X.b dX5_nextStep_0 (by decide) ?_
  refine lv_istore_n (lv' := [(3, .int (nI 0)), (0, .ref (gad G 134)), (1, .int (nI i)), (2, .int (nI j))]) X.x X.b dX5_nextStep_1 rfl hl (by decide) rfl (fun ls hl => ?_)
  exact lp 3 0 (fun k9 hk9 => absurd hk9 (Nat.not_lt_zero _)) rfl (by omega) ls H locs (lv_sub hl [0, 1, 2, 3] rfl) hh
set_option maxHeartbeats 4000000 in
set_option maxRecDepth 100000 in
theorem c5_laySteps (l : Launch) (G : GG) {σ : Mem} {I : LI} (hB : LB I) (hL : hasL I) (hM : MLM σ I) (hT : MT σ I) : Cv l G yX5_laySteps cX5_laySteps 4 3 70 [.ref (gad G 134)] σ (fun τ => MST τ I (tln I) ∧ Frx σ τ) := by
  refine Cv.of (own := RX5) (by decide) rfl (Nat.le_of_ble_eq_true rfl) (fun p e s m args below meth c ls H locs X hl hh => ?_)
  have hb1 := hB.1
  have hb2 := hB.2.1
  have lp : ∀ (k t : Nat), 20 - t = k → t ≤ 20 → (∀ x, x < t → snx I (pth I x).1 (pth I x).2 ≠ none) → ∀ (υ : Mem), MST υ I t → Frx σ υ → ∀ (ls : Array Slot) (H : Heap) (locs : List Loc), lv_has ls 4 [(2, .int (nI ((pth I t).2))), (1, .int (nI ((pth I t).1))), (0, .ref (gad G 134))] → HH G s υ H locs → WV l G p e s m args below meth c 3 70 (fun τ => MST τ I (tln I) ∧ Frx σ τ) H locs (F0 m 9 ls []) := by
    intro km
    induction km using Nat.strongRecOn with
    | ind km ih =>
      intro t hk ht hx υ hv hf ls H locs hl hh
      have hpd := dmn_le (pth_d (I := I) t)
      refine lv_iload_n X.x X.b dX5_laySteps_9 rfl (lv_at hl 1 rfl) ?_
      refine lv_aload_n X.x X.b dX5_laySteps_10 rfl (lv_at hl 2 rfl) ?_
      refine f_geti X hh (x := nI (iN I)) (sh_134 G _) (by decide) rfl in_X5 9 (by decide) kf_X5_75 rfl (hM.kx hf).1 dX5_laySteps_11 ?_
      refine lv_icmp_lt (tgt := 25) X.x X.b dX5_laySteps_14 (by decide) (fun c_1 => ?_) (fun c_1 => ?_)
      · have c_1 : ((pth I t).1) < (iN I) := (nI_ltI (a := ((pth I t).1)) (b := (iN I)) (by omega) (by omega)).mp c_1
        refine lv_aload_n X.x X.b dX5_laySteps_25 rfl (lv_at hl 2 rfl) ?_
        refine lv_iload_n X.x X.b dX5_laySteps_26 rfl (lv_at hl 1 rfl) ?_
        refine lv_iload_n X.x X.b dX5_laySteps_27 rfl (lv_at hl 0 rfl) ?_
        have hnn := snx_ne hB hL (pth_d (I := I) t) (by omega)
        obtain ⟨st, hs9⟩ : ∃ st, snx I (pth I t).1 (pth I t).2 = some st := by cases h9 : snx I (pth I t).1 (pth I t).2 with | none => exact absurd h9 hnn | some z => exact ⟨z, rfl⟩
        have hs8 := snx_s hs9
        have ht9 : t + 1 ≤ 20 := pth_end hB (k := t + 1) (fun x h9 => if e8 : x = t then (by subst e8; exact hnn) else hx x (by omega))
        refine f_calli X hh (c5_nextStep l G (i := (pth I t).1) (j := (pth I t).2) hB (hM.kx hf) (hT.kx hf) (pth_d t)) mf_yX5_nextStep ki_yX5_nextStep kl_yX5_nextStep km_X5_118 (sh_134 G _) (by decide) rfl rfl hl.1 [] rfl (Nat.le_of_ble_eq_true rfl) ⟨by decide, by decide⟩ ⟨Nat.zero_le _, Nat.zero_le _⟩ dX5_laySteps_28 (fun r τ H locs hq hh => ?_)
        obtain ⟨rfl, hτ⟩ := hq
        rw [hτ] at hh
        clear hτ
        rw [hs9]
        refine lv_istore_n (lv' := [(3, .int (nI st)), (2, .int (nI ((pth I t).2))), (1, .int (nI ((pth I t).1))), (0, .ref (gad G 134))]) X.x X.b dX5_laySteps_31 rfl hl (by decide) rfl (fun ls hl => ?_)
        refine lv_aload_n X.x X.b dX5_laySteps_32 rfl (lv_at hl 3 rfl) ?_
        refine f_get X hh (v := .ref (gad G 147)) (sh_134 G _) (by decide) rfl in_X5 15 (by decide) kf_X5_47 rfl dX5_laySteps_33 ?_
        refine lv_aload_n X.x X.b dX5_laySteps_36 rfl (lv_at hl 3 rfl) ?_
        refine f_geti X hh (x := nI t) (sh_134 G _) (by decide) rfl in_X5 16 (by decide) kf_X5_115 rfl hv.1 dX5_laySteps_37 ?_
        refine lv_iload_n X.x X.b dX5_laySteps_40 rfl (lv_at hl 0 rfl) ?_
        refine f_iast X hh (j := t) (sh_147 G) (by decide) rfl (by omega) (by decide) dX5_laySteps_41 (fun H locs hh => ?_)
        refine lv_aload_n X.x X.b dX5_laySteps_42 rfl (lv_at hl 3 rfl) ?_
        refine lv_dup X.x X.b dX5_laySteps_43 rfl ?_
        refine f_geti X hh (x := nI t) (sh_134 G _) (by decide) rfl in_X5 16 (by decide) kf_X5_115 rfl (by rw [mset_n (show 134 ≠ 147 by omega)]; exact hv.1) dX5_laySteps_44 ?_
        refine lv_iconst (v := nI 1) X.x X.b dX5_laySteps_47 (by decide) ?_
        refine f_iadd X (z := nI (t + 1)) (nI_add t 1) dX5_laySteps_48 ?_
        refine f_put X hh (x := nI (t + 1)) (sh_134 G _) (by decide) rfl in_X5 16 (sh_134 G _) tyX5 tyX5_ok nmX5 (by decide) kf_X5_115 rfl (by decide +kernel) (Nat.le_of_ble_eq_true rfl) dX5_laySteps_49 (fun H locs hh => ?_)
        refine lv_iload_n X.x X.b dX5_laySteps_52 rfl (lv_at hl 2 rfl) ?_
        refine lv_iload_n X.x X.b dX5_laySteps_53 rfl (lv_at hl 0 rfl) ?_
        refine f_scalli X hh (c5_syllablesOf l G (st := st) (by omega)) mf_yX5_syllablesOf ks_yX5_syllablesOf km_X5_88 rfl hl.1 [.int (nI ((pth I t).1))] rfl (Nat.le_of_ble_eq_true rfl) ⟨by decide, by decide⟩ ⟨Nat.zero_le _, Nat.zero_le _⟩ dX5_laySteps_54 (fun r τ H locs hq hh => ?_)
        obtain ⟨rfl, hτ⟩ := hq
        rw [hτ] at hh
        clear hτ
        refine f_iadd X (z := nI ((pth I t).1 + di st)) (nI_add ((pth I t).1) (di st)) dX5_laySteps_57 ?_
        refine lv_istore_n (lv' := [(1, .int (nI ((pth I t).1 + di st))), (3, .int (nI st)), (2, .int (nI ((pth I t).2))), (0, .ref (gad G 134))]) X.x X.b dX5_laySteps_58 rfl hl (by decide) rfl (fun ls hl => ?_)
        refine lv_iload_n X.x X.b dX5_laySteps_59 rfl (lv_at hl 2 rfl) ?_
        refine lv_iload_n X.x X.b dX5_laySteps_60 rfl (lv_at hl 1 rfl) ?_
        refine f_scalli X hh (c5_notesOf l G (st := st) (by omega)) mf_yX5_notesOf ks_yX5_notesOf km_X5_92 rfl hl.1 [.int (nI ((pth I t).2))] rfl (Nat.le_of_ble_eq_true rfl) ⟨by decide, by decide⟩ ⟨Nat.zero_le _, Nat.zero_le _⟩ dX5_laySteps_61 (fun r τ H locs hq hh => ?_)
        obtain ⟨rfl, hτ⟩ := hq
        rw [hτ] at hh
        clear hτ
        refine f_iadd X (z := nI ((pth I t).2 + dj st)) (nI_add ((pth I t).2) (dj st)) dX5_laySteps_64 ?_
        refine lv_istore_n (lv' := [(2, .int (nI ((pth I t).2 + dj st))), (1, .int (nI ((pth I t).1 + di st))), (3, .int (nI st)), (0, .ref (gad G 134))]) X.x X.b dX5_laySteps_65 rfl hl (by decide) rfl (fun ls hl => ?_)
        refine lv_goto (tgt := 9) X.x X.b dX5_laySteps_66 (by decide) ?_
        refine ih (20 - (t + 1)) (by omega) (t + 1) rfl (by omega) (fun x h9 => ?_) _ ⟨mset_ss, fun x h9 => ?_⟩ ⟨fun k9 h1 h2 => by rw [mset_n h1, mset_n h2]; exact hf.1 k9 h1 h2, fun f9 h1 => by rw [mset_sn h1, mset_n (by decide)]; exact hf.2 f9 h1⟩ ls H locs ?_ hh
        · by_cases e8 : x = t
          · subst e8; exact hnn
          · exact hx x (by omega)
        · rw [mset_n (by decide)]
          by_cases e8 : x = t
          · subst e8; rw [mset_ss]; unfold sta; rw [hs9]; rfl
          · rw [mset_sn e8]; exact hv.2 x (by omega)
        · rw [pth_s hs9]; exact lv_sub hl [0, 1, 3] rfl
      · have c_1 : ¬ ((pth I t).1) < (iN I) := fun q9 => c_1 ((nI_ltI (a := ((pth I t).1)) (b := (iN I)) (by omega) (by omega)).mpr q9)
        refine lv_iload_n X.x X.b dX5_laySteps_17 rfl (lv_at hl 0 rfl) ?_
        refine lv_aload_n X.x X.b dX5_laySteps_18 rfl (lv_at hl 2 rfl) ?_
        refine f_geti X hh (x := nI (iM I)) (sh_134 G _) (by decide) rfl in_X5 10 (by decide) kf_X5_78 rfl (hM.kx hf).2.1 dX5_laySteps_19 ?_
        refine lv_icmp_ge (tgt := 69) X.x X.b dX5_laySteps_22 (by decide) (fun c_2 => ?_) (fun c_2 => ?_)
        · have c_2 : (iM I) ≤ ((pth I t).2) := (nI_leI (a := (iM I)) (b := ((pth I t).2)) (by omega) (by omega)).mp c_2
          exact f_vret X hh (by rw [tln_at (by omega) hx (snx_end (by omega))]; exact ⟨hv, hf⟩) dX5_laySteps_69
        · have c_2 : ¬ (iM I) ≤ ((pth I t).2) := fun q9 => c_2 ((nI_leI (a := (iM I)) (b := ((pth I t).2)) (by omega) (by omega)).mpr q9)
          refine lv_aload_n X.x X.b dX5_laySteps_25 rfl (lv_at hl 2 rfl) ?_
          refine lv_iload_n X.x X.b dX5_laySteps_26 rfl (lv_at hl 1 rfl) ?_
          refine lv_iload_n X.x X.b dX5_laySteps_27 rfl (lv_at hl 0 rfl) ?_
          have hnn := snx_ne hB hL (pth_d (I := I) t) (by omega)
          obtain ⟨st, hs9⟩ : ∃ st, snx I (pth I t).1 (pth I t).2 = some st := by cases h9 : snx I (pth I t).1 (pth I t).2 with | none => exact absurd h9 hnn | some z => exact ⟨z, rfl⟩
          have hs8 := snx_s hs9
          have ht9 : t + 1 ≤ 20 := pth_end hB (k := t + 1) (fun x h9 => if e8 : x = t then (by subst e8; exact hnn) else hx x (by omega))
          refine f_calli X hh (c5_nextStep l G (i := (pth I t).1) (j := (pth I t).2) hB (hM.kx hf) (hT.kx hf) (pth_d t)) mf_yX5_nextStep ki_yX5_nextStep kl_yX5_nextStep km_X5_118 (sh_134 G _) (by decide) rfl rfl hl.1 [] rfl (Nat.le_of_ble_eq_true rfl) ⟨by decide, by decide⟩ ⟨Nat.zero_le _, Nat.zero_le _⟩ dX5_laySteps_28 (fun r τ H locs hq hh => ?_)
          obtain ⟨rfl, hτ⟩ := hq
          rw [hτ] at hh
          clear hτ
          rw [hs9]
          refine lv_istore_n (lv' := [(3, .int (nI st)), (2, .int (nI ((pth I t).2))), (1, .int (nI ((pth I t).1))), (0, .ref (gad G 134))]) X.x X.b dX5_laySteps_31 rfl hl (by decide) rfl (fun ls hl => ?_)
          refine lv_aload_n X.x X.b dX5_laySteps_32 rfl (lv_at hl 3 rfl) ?_
          refine f_get X hh (v := .ref (gad G 147)) (sh_134 G _) (by decide) rfl in_X5 15 (by decide) kf_X5_47 rfl dX5_laySteps_33 ?_
          refine lv_aload_n X.x X.b dX5_laySteps_36 rfl (lv_at hl 3 rfl) ?_
          refine f_geti X hh (x := nI t) (sh_134 G _) (by decide) rfl in_X5 16 (by decide) kf_X5_115 rfl hv.1 dX5_laySteps_37 ?_
          refine lv_iload_n X.x X.b dX5_laySteps_40 rfl (lv_at hl 0 rfl) ?_
          refine f_iast X hh (j := t) (sh_147 G) (by decide) rfl (by omega) (by decide) dX5_laySteps_41 (fun H locs hh => ?_)
          refine lv_aload_n X.x X.b dX5_laySteps_42 rfl (lv_at hl 3 rfl) ?_
          refine lv_dup X.x X.b dX5_laySteps_43 rfl ?_
          refine f_geti X hh (x := nI t) (sh_134 G _) (by decide) rfl in_X5 16 (by decide) kf_X5_115 rfl (by rw [mset_n (show 134 ≠ 147 by omega)]; exact hv.1) dX5_laySteps_44 ?_
          refine lv_iconst (v := nI 1) X.x X.b dX5_laySteps_47 (by decide) ?_
          refine f_iadd X (z := nI (t + 1)) (nI_add t 1) dX5_laySteps_48 ?_
          refine f_put X hh (x := nI (t + 1)) (sh_134 G _) (by decide) rfl in_X5 16 (sh_134 G _) tyX5 tyX5_ok nmX5 (by decide) kf_X5_115 rfl (by decide +kernel) (Nat.le_of_ble_eq_true rfl) dX5_laySteps_49 (fun H locs hh => ?_)
          refine lv_iload_n X.x X.b dX5_laySteps_52 rfl (lv_at hl 2 rfl) ?_
          refine lv_iload_n X.x X.b dX5_laySteps_53 rfl (lv_at hl 0 rfl) ?_
          refine f_scalli X hh (c5_syllablesOf l G (st := st) (by omega)) mf_yX5_syllablesOf ks_yX5_syllablesOf km_X5_88 rfl hl.1 [.int (nI ((pth I t).1))] rfl (Nat.le_of_ble_eq_true rfl) ⟨by decide, by decide⟩ ⟨Nat.zero_le _, Nat.zero_le _⟩ dX5_laySteps_54 (fun r τ H locs hq hh => ?_)
          obtain ⟨rfl, hτ⟩ := hq
          rw [hτ] at hh
          clear hτ
          refine f_iadd X (z := nI ((pth I t).1 + di st)) (nI_add ((pth I t).1) (di st)) dX5_laySteps_57 ?_
          refine lv_istore_n (lv' := [(1, .int (nI ((pth I t).1 + di st))), (3, .int (nI st)), (2, .int (nI ((pth I t).2))), (0, .ref (gad G 134))]) X.x X.b dX5_laySteps_58 rfl hl (by decide) rfl (fun ls hl => ?_)
          refine lv_iload_n X.x X.b dX5_laySteps_59 rfl (lv_at hl 2 rfl) ?_
          refine lv_iload_n X.x X.b dX5_laySteps_60 rfl (lv_at hl 1 rfl) ?_
          refine f_scalli X hh (c5_notesOf l G (st := st) (by omega)) mf_yX5_notesOf ks_yX5_notesOf km_X5_92 rfl hl.1 [.int (nI ((pth I t).2))] rfl (Nat.le_of_ble_eq_true rfl) ⟨by decide, by decide⟩ ⟨Nat.zero_le _, Nat.zero_le _⟩ dX5_laySteps_61 (fun r τ H locs hq hh => ?_)
          obtain ⟨rfl, hτ⟩ := hq
          rw [hτ] at hh
          clear hτ
          refine f_iadd X (z := nI ((pth I t).2 + dj st)) (nI_add ((pth I t).2) (dj st)) dX5_laySteps_64 ?_
          refine lv_istore_n (lv' := [(2, .int (nI ((pth I t).2 + dj st))), (1, .int (nI ((pth I t).1 + di st))), (3, .int (nI st)), (0, .ref (gad G 134))]) X.x X.b dX5_laySteps_65 rfl hl (by decide) rfl (fun ls hl => ?_)
          refine lv_goto (tgt := 9) X.x X.b dX5_laySteps_66 (by decide) ?_
          refine ih (20 - (t + 1)) (by omega) (t + 1) rfl (by omega) (fun x h9 => ?_) _ ⟨mset_ss, fun x h9 => ?_⟩ ⟨fun k9 h1 h2 => by rw [mset_n h1, mset_n h2]; exact hf.1 k9 h1 h2, fun f9 h1 => by rw [mset_sn h1, mset_n (by decide)]; exact hf.2 f9 h1⟩ ls H locs ?_ hh
          · by_cases e8 : x = t
            · subst e8; exact hnn
            · exact hx x (by omega)
          · rw [mset_n (by decide)]
            by_cases e8 : x = t
            · subst e8; rw [mset_ss]; unfold sta; rw [hs9]; rfl
            · rw [mset_sn e8]; exact hv.2 x (by omega)
          · rw [pth_s hs9]; exact lv_sub hl [0, 1, 3] rfl
  have hl : lv_has ls 4 [(0, .ref (gad G 134))] := hl
  refine lv_iconst (v := nI 0) X.x X.b dX5_laySteps_0 (by decide) ?_
  refine lv_istore_n (lv' := [(1, .int (nI 0)), (0, .ref (gad G 134))]) X.x X.b dX5_laySteps_1 rfl hl (by decide) rfl (fun ls hl => ?_)
  refine lv_iconst (v := nI 0) X.x X.b dX5_laySteps_2 (by decide) ?_
  refine lv_istore_n (lv' := [(2, .int (nI 0)), (1, .int (nI 0)), (0, .ref (gad G 134))]) X.x X.b dX5_laySteps_3 rfl hl (by decide) rfl (fun ls hl => ?_)
  refine lv_aload_n X.x X.b dX5_laySteps_4 rfl (lv_at hl 2 rfl) ?_
  refine lv_iconst (v := nI 0) X.x X.b dX5_laySteps_5 (by decide) ?_
  refine f_put X hh (x := nI 0) (sh_134 G _) (by decide) rfl in_X5 16 (sh_134 G _) tyX5 tyX5_ok nmX5 (by decide) kf_X5_115 rfl (by decide +kernel) (Nat.le_of_ble_eq_true rfl) dX5_laySteps_6 (fun H locs hh => ?_)
  exact lp 20 0 rfl (by omega) (fun x h9 => absurd h9 (Nat.not_lt_zero _)) _ ⟨mset_ss, fun x h9 => absurd h9 (Nat.not_lt_zero _)⟩ ⟨fun k9 h1 h2 => mset_n h1, fun f9 h1 => mset_sn h1⟩ ls H locs (lv_sub hl [0, 1, 2] rfl) hh
