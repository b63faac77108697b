/-! the state as the document has it, and what each call answers -/
abbrev BKs : Type := (Nat → Nat) × (Nat → Nat → Nat) × (Nat → Nat → Nat) × (Nat → Nat)
def bN (B : BKs) : Nat → Nat := B.1
def bW (B : BKs) : Nat → Nat → Nat := B.2.1
def bZ (B : BKs) : Nat → Nat → Nat := B.2.2.1
def bU (B : BKs) : Nat → Nat := B.2.2.2
abbrev AS : Type := (Nat × (Nat → Nat)) × BKs × (Nat → BKs) × (Nat → Bool)
def apn (a : AS) : Nat := a.1.1
def apg (a : AS) : Nat → Nat := a.1.2
def aB (a : AS) : BKs := a.2.1
def aI (a : AS) : Nat → BKs := a.2.2.1
def aK (a : AS) : Nat → Bool := a.2.2.2
def BBd (B : BKs) : Prop := (∀ q, q < 3 → bN B q ≤ 9 ∧ ∀ i, i < bN B q → bW B q i ≤ 2 ∧ bZ B q i ≤ 1) ∧ (∀ q, 3 ≤ q → q < 7 → bN B q ≤ 11 ∧ ∀ i, i < bN B q → bW B q i ≤ 2 ∧ bZ B q i ≤ 4) ∧ ∀ k, k < 4 → bU B k ≤ 9
def AOK (a : AS) : Prop := apn a ≤ 22 ∧ (∀ i, i < apn a → 33 ≤ apg a i ∧ apg a i ≤ 126) ∧ BBd (aB a) ∧ ∀ k, k < 2 → aK a k = true → BBd (aI a k)
def kbit (a : AS) : Nat := (if aK a 0 = true then 1 else 0) + (if aK a 1 = true then 2 else 0)
def inst (a : AS) (i j : Nat) : LI := ((bN (aB a) i, bW (aB a) i, bZ (aB a) i), (bN (aB a) (3 + j), bW (aB a) (3 + j), bZ (aB a) (3 + j)), bU (aB a))
def instT (a : AS) (i j k : Nat) : LI := ((bN (aB a) i, bW (aB a) i, bZ (aB a) i), (bN (aB a) (3 + j), (fun x => bW (aB a) (3 + j) ((x + k) % bN (aB a) (3 + j))), (fun x => bZ (aB a) (3 + j) ((x + k) % bN (aB a) (3 + j)))), bU (aB a))
def instA (a : AS) (i j s v : Nat) : LI := ((bN (aB a) i, (fun x => if x = s then v else bW (aB a) i x), bZ (aB a) i), (bN (aB a) (3 + j), bW (aB a) (3 + j), bZ (aB a) (3 + j)), bU (aB a))
theorem inst_ok {a : AS} (h : AOK a) {i j : Nat} (hi : i < 3) (hj : j < 4) : LB (inst a i j) := by
  obtain ⟨-, -, ⟨h1, h2, h3⟩, -⟩ := h
  exact ⟨(h1 i hi).1, (h2 (3 + j) (by omega) (by omega)).1, fun x hx => ((h1 i hi).2 x hx).1, fun x hx => ((h2 (3 + j) (by omega) (by omega)).2 x hx).1, h3, fun x hx => ((h1 i hi).2 x hx).2, fun x hx => ((h2 (3 + j) (by omega) (by omega)).2 x hx).2⟩
theorem instT_ok {a : AS} (h : AOK a) {i j k : Nat} (hi : i < 3) (hj : j < 4) : LB (instT a i j k) := by
  obtain ⟨-, -, ⟨h1, h2, h3⟩, -⟩ := h
  refine ⟨(h1 i hi).1, (h2 (3 + j) (by omega) (by omega)).1, fun x hx => ((h1 i hi).2 x hx).1, fun x hx => ?_, h3, fun x hx => ((h1 i hi).2 x hx).2, fun x hx => ?_⟩
  · exact ((h2 (3 + j) (by omega) (by omega)).2 _ (Nat.mod_lt _ (Nat.lt_of_le_of_lt (Nat.zero_le x) hx))).1
  · exact ((h2 (3 + j) (by omega) (by omega)).2 _ (Nat.mod_lt _ (Nat.lt_of_le_of_lt (Nat.zero_le x) hx))).2
theorem instA_ok {a : AS} (h : AOK a) {i j s v : Nat} (hi : i < 3) (hj : j < 4) (hv : v ≤ 2) : LB (instA a i j s v) := by
  obtain ⟨-, -, ⟨h1, h2, h3⟩, -⟩ := h
  refine ⟨(h1 i hi).1, (h2 (3 + j) (by omega) (by omega)).1, fun x hx => ?_, fun x hx => ((h2 (3 + j) (by omega) (by omega)).2 x hx).1, h3, fun x hx => ((h1 i hi).2 x hx).2, fun x hx => ((h2 (3 + j) (by omega) (by omega)).2 x hx).2⟩
  show (if x = s then v else bW (aB a) i x) ≤ 2
  split
  · exact hv
  · exact ((h1 i hi).2 x hx).1
/-- numbers from a to b -/
abbrev inB (x : Int32) (a b : Nat) : Prop := (a : Int) ≤ x.toInt ∧ x.toInt ≤ (b : Int)
def ix (x : Int32) : Nat := x.toNatClampNeg
theorem ix_nI {k : Nat} (h : k < 2 ^ 31) : ix (nI k) = k := nI_clamp h
theorem inB_of {x : Int32} {a b : Nat} (h : inB x a b) (hb : b < 2 ^ 30) : ∃ k, a ≤ k ∧ k ≤ b ∧ x = nI k := by
  obtain ⟨k, h1, h2⟩ := vp_in_of (x := x) (n := b + 1) (vp_in_iff.mpr ⟨by omega, by omega⟩) (by omega)
  subst h2
  have := nI_toInt (n := k) (by omega)
  exact ⟨k, by omega, by omega, rfl⟩
theorem inB_nI {k a b : Nat} (hk : k < 2 ^ 31) : inB (nI k) a b ↔ a ≤ k ∧ k ≤ b := by
  unfold inB
  rw [nI_toInt hk]
  omega
theorem inB_w (x : Int32) {a b : Nat} (ha : a < 2 ^ 31) (hb : b < 2 ^ 31) : (nI a ≤ x ∧ x ≤ nI b) = inB x a b := by
  rw [Int32.le_iff_toInt_le, Int32.le_iff_toInt_le, nI_toInt ha, nI_toInt hb]
theorem inB_R (x : Int32) (n : Nat) : inB x 0 n ↔ inR x (n + 1) := by
  unfold inB inR
  omega
theorem c_withinB (l : Launch) (G : GG) {σ : Mem} (x : Int32) (a b : Nat) (ha : a < 2 ^ 31) (hb : b < 2 ^ 31) : Ci l G yX4_isWithin cX4_isWithin 3 (some .boolean) 0 0 [.int x, .int (nI a), .int (nI b)] σ (fun r τ => r = (if inB x a b then 1 else 0) ∧ τ = σ) := by
  have h := c_isWithin l G (σ := σ) x (nI a) (nI b)
  simp only [inB_w x ha hb] at h
  exact h
/-- the first of the least, as one goes through the places -/
def bst (f : Nat → Int32) : Nat → Int32 × Int32
  | 0 => (-6, -6)
  | k + 1 => if f k ≠ -6 ∧ ((bst f k).2 = -6 ∨ f k < (bst f k).2) then (nI k, f k) else bst f k
def anw (f : Nat → Nat → Int32) (c0 : Int32) : Nat → Int32 × Int32 × Int32
  | 0 => (-6, -6, c0)
  | e + 1 => if f (e / 3) (e % 3) ≠ -6 ∧ ((anw f c0 e).2.2 = -6 ∨ f (e / 3) (e % 3) < (anw f c0 e).2.2) then (nI (e / 3), nI (e % 3), f (e / 3) (e % 3)) else anw f c0 e
def vsum (a : AS) (j : Nat) : Nat → Nat := sumN (fun i => if bN (aB a) i = 0 then 0 else (TT (inst a i j) 0 0).1)
def vsN (a : AS) (j : Nat) : Int32 := if bN (aB a) (3 + j) = 0 ∨ sumN (fun i => bN (aB a) i) 3 = 0 then -6 else nI (vsum a j 3)
-- answers
def sp_say (x : Int32) (a : AS) : Int32 := if inB x 33 126 then (if 22 ≤ apn a then -4 else nI (apn a + 1)) else -2
def ns_say (x : Int32) (a : AS) : AS := if inB x 33 126 then (if 22 ≤ apn a then a else ((apn a + 1, fun i => if i = apn a then ix x else apg a i), a.2)) else a
def ns_wipe (a : AS) : AS := ((0, apg a), a.2)
def sp_fault (x : Int32) (a : AS) : Int32 := if inB x 0 1 then (if x = 0 then lans (apg a) (apn a) else tans (apg a) (apn a)) else -2
def bset (B : BKs) (q n : Nat) (w z : Nat → Nat) : BKs := ((fun k => if k = q then n else bN B k), (fun k => if k = q then w else bW B k), (fun k => if k = q then z else bZ B k), bU B)
def sp_line (x : Int32) (a : AS) : Int32 := if inB x 0 2 then (if lans (apg a) (apn a) = -6 then nI (rdn (apg a) (apn a)) else -7) else -1
def ns_line (x : Int32) (a : AS) : AS := if inB x 0 2 then (if lans (apg a) (apn a) = -6 then ((0, apg a), bset (aB a) (ix x) (rdn (apg a) (apn a)) (rdw (apg a) (apn a)) (rdz (apg a) (apn a)), a.2.2) else a) else a
def sp_tune (x : Int32) (a : AS) : Int32 := if inB x 0 3 then (if tans (apg a) (apn a) = -6 then nI (apn a / 2) else -7) else -1
def ns_tune (x : Int32) (a : AS) : AS := if inB x 0 3 then (if tans (apg a) (apn a) = -6 then ((0, apg a), bset (aB a) (3 + ix x) (apn a / 2) (fun j => apg a (2 * j) - 48) (fun j => apg a (2 * j + 1) - 48), a.2.2) else a) else a
def sp_rule (x v : Int32) (a : AS) : Int32 := if inB x 0 3 ∧ inB v 0 9 then nI (bU (aB a) (ix x)) else -2
def ns_rule (x v : Int32) (a : AS) : AS := if inB x 0 3 ∧ inB v 0 9 then (a.1, (bN (aB a), bW (aB a), bZ (aB a), fun k => if k = ix x then ix v else bU (aB a) k), a.2.2) else a
def prt (n : Nat) (w z : Nat → Nat) (i x : Int32) : Int32 := if inB x 0 1 then (if i = -1 then nI n else if inR i n then (if x = 0 then nI (w (ix i)) else nI (z (ix i))) else -6) else -2
def sp_syllable (l i x : Int32) (a : AS) : Int32 := if inB l 0 2 then prt (bN (aB a) (ix l)) (bW (aB a) (ix l)) (bZ (aB a) (ix l)) i x else -1
def sp_note (l i x : Int32) (a : AS) : Int32 := if inB l 0 3 then prt (bN (aB a) (3 + ix l)) (bW (aB a) (3 + ix l)) (bZ (aB a) (3 + ix l)) i x else -1
abbrev kno (l t : Int32) : Prop := inB l 0 2 ∧ inB t 0 3
def sp_cost (l t : Int32) (a : AS) : Int32 := if kno l t then (if ∀ i, i < apn a → isS (apg a i) = true then cres (inst a (ix l) (ix t)) (apg a) (apn a) else -7) else -1
def sp_least (l t i : Int32) (a : AS) : Int32 := if kno l t then (if i < -1 then -2 else if i = -1 then lcN (inst a (ix l) (ix t)) else lsN (inst a (ix l) (ix t)) (ix i)) else -1
def wy0 (I : LI) : Int32 := if (iN I = 0 ↔ iM I = 0) then nI (TT I 0 0).2.2.1 else nI 0
def lw0 (I : LI) : Int32 := if (iN I = 0 ↔ iM I = 0) then nI (TT I 0 0).2.2.2 else nI 0
def mo0 (I : LI) : Int32 := if (iN I = 0 ↔ iM I = 0) then nI (TT I 0 0).2.1 else -6
def sp_ways (l t x : Int32) (a : AS) : Int32 := if kno l t then (if inB x 0 2 then (if x = 0 then wy0 (inst a (ix l) (ix t)) else if x = 1 then lw0 (inst a (ix l) (ix t)) else mo0 (inst a (ix l) (ix t))) else -2) else -1
def fo0 (I : LI) (y : Nat) : Int32 := if (iN I = 0 ↔ iM I = 0) then fores (fo I y (tln I)) else -6
def ho0 (I : LI) (y : Nat) : Int32 := if (iN I = 0 ↔ iM I = 0) then nI (ho I y (tln I)) else -6
def sp_sung (l t j x : Int32) (a : AS) : Int32 := if kno l t then (if inR j (bN (aB a) (3 + ix t)) ∧ inB x 0 1 then (if x = 0 then fo0 (inst a (ix l) (ix t)) (ix j) else ho0 (inst a (ix l) (ix t)) (ix j)) else -2) else -1
def sp_verse (t : Int32) (a : AS) : Int32 := if inB t 0 3 then vsN a (ix t) else -1
def sp_best (x : Int32) (a : AS) : Int32 := if inB x 0 1 then (if x = 0 then (bst (vsN a) 4).1 else (bst (vsN a) 4).2) else -2
def tur (a : AS) (i j : Nat) : Nat → Int32 × Int32 := bst (fun k => lcN (instT a i j k))
def sp_turned (l t x : Int32) (a : AS) : Int32 := if kno l t then (if inB x 0 1 then (if x = 0 then (tur a (ix l) (ix t) (bN (aB a) (3 + ix t))).1 else (tur a (ix l) (ix t) (bN (aB a) (3 + ix t))).2) else -2) else -1
def anN (a : AS) (i j : Nat) : Nat → Int32 × Int32 × Int32 := anw (fun s v => lcN (instA a i j s v)) (lcN (inst a i j))
def anr (p : Int32 × Int32 × Int32) (x : Int32) : Int32 := if x = 2 then (if p.1 = -6 then -6 else p.2.2) else if x = 0 then p.1 else p.2.1
def sp_anew (l t x : Int32) (a : AS) : Int32 := if kno l t then (if inB x 0 2 then anr (anN a (ix l) (ix t) (3 * bN (aB a) (ix l))) x else -2) else -1
def sp_image (k : Int32) (_ : AS) : Int32 := if inB k 0 1 then nI 1 else -2
def ns_image (k : Int32) (a : AS) : AS := if inB k 0 1 then (a.1, aB a, (fun q => if q = ix k then aB a else aI a q), fun q => if q = ix k then true else aK a q) else a
def sp_restore (k : Int32) (a : AS) : Int32 := if inB k 0 1 then (if aK a (ix k) = true then nI 1 else -3) else -2
def ns_restore (k : Int32) (a : AS) : AS := if inB k 0 1 then (if aK a (ix k) = true then (a.1, aI a (ix k), a.2.2) else a) else a
def sp_count (x : Int32) (a : AS) : Int32 := if inB x 10 13 then nI (bU (aB a) (ix x - 10)) else if x = 0 then nI (sumN (fun j => bN (aB a) j) 3) else if x = 1 then nI (sumN (fun j => bN (aB a) (3 + j)) 4) else if x = 2 then nI (apn a) else if x = 3 then nI (sumN (fun j => sumN (bZ (aB a) (3 + j)) (bN (aB a) (3 + j))) 4) else if x = 4 then nI (kbit a) else -2
-- the class's cells that hold a state
def RC (σ : Mem) (a : AS) : Prop := PD σ (apn a) (apg a) ∧ BK σ 0 (bN (aB a)) (bW (aB a)) (bZ (aB a)) (bU (aB a)) ∧ (∀ k, k < 2 → aK a k = true → BK σ (1 + k) (bN (aI a k)) (bW (aI a k)) (bZ (aI a k)) (bU (aI a k))) ∧ σ 81 4 = nI (kbit a)
/-- what the class's methods leave: the model's cells -/
def FrC (σ τ : Mem) : Prop := ∀ k, 134 ≤ k → τ k = σ k
/-- only the loom's cells change -/
def FrT (σ τ : Mem) : Prop := ∀ k, (k < 63 ∨ (69 ≤ k ∧ k < 85) ∨ 134 ≤ k) → τ k = σ k
theorem FrT.rf {σ : Mem} : FrT σ σ := fun _ _ => rfl
theorem FrT.tr {σ τ υ : Mem} (h : FrT σ τ) (g : FrT τ υ) : FrT σ υ := fun k a => (g k a).trans (h k a)
theorem FrT.c {σ τ : Mem} (h : FrT σ τ) : FrC σ τ := fun k hk => h k (by omega)
theorem Frs.t {σ τ : Mem} (h : Frs σ τ) : FrT σ τ := fun k hk => h k (by omega)
theorem Frl.t {σ τ : Mem} (h : Frl σ τ) : FrT σ τ := fun k hk => h k (by omega) (by omega) (by omega)
theorem Frr.t {σ τ : Mem} {r : Nat} (hr : r = 21 ∨ r = 22) (h : Frr r σ τ) : FrT σ τ := fun k hk => h k (by omega)
theorem FrC.rf {σ : Mem} : FrC σ σ := fun _ _ => rfl
theorem RW.kk {σ τ : Mem} {r n : Nat} {w z : Nat → Nat} (h : RW σ r n w z) (hk : ∀ k, k / 3 = r → τ k = σ k) : RW τ r n w z := by
  obtain ⟨h1, h2, h3, h4⟩ := h
  refine ⟨?_, h2, fun i hi => ?_, fun i hi => ?_⟩
  · rw [hk _ (by omega)]; exact h1
  · rw [hk _ (by omega)]; exact h3 i hi
  · rw [hk _ (by omega)]; exact h4 i hi
theorem BK.kk {σ τ : Mem} {b : Nat} {N : Nat → Nat} {W Z : Nat → Nat → Nat} {U : Nat → Nat} (h : BK σ b N W Z U) (hk : ∀ k, k / 21 = b ∨ k = 69 + 4 * b + 3 → τ k = σ k) : BK τ b N W Z U := ⟨fun q hq => (h.1 q hq).kk (fun k h9 => hk k (by omega)), fun k h9 => by rw [hk _ (by omega)]; exact h.2 k h9⟩
theorem RC.kt {σ τ : Mem} {a : AS} (h : RC σ a) (f : FrT σ τ) : RC τ a := by
  obtain ⟨h1, h2, h3, h4⟩ := h
  refine ⟨h1.keep (f _ (by omega)) (f _ (by omega)), h2.kk (fun k hk => f k (by omega)), fun k hk h9 => (h3 k hk h9).kk (fun q hq => f q (by omega)), ?_⟩
  rw [f _ (by omega)]; exact h4
theorem LM.kk {σ τ : Mem} {I : LI} (h : LM σ I) (hk : ∀ k, k / 3 = 21 ∨ k / 3 = 22 ∨ k = 86 → τ k = σ k) : LM τ I := h.keep hk
