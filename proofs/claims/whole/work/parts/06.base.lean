/-! The heap as a function of numbers: after the two constructors no cell is made and no reference changes; all that changes are int fields and int arrays. Mem: cell index, slot ↦ int. -/
abbrev Mem : Type := Nat → Nat → Int32
def mrow (σ : Mem) (k : Nat) (g : Nat → Int32) : Mem := fun j => if j = k then g else σ j
def mset (σ : Mem) (k f : Nat) (x : Int32) : Mem := mrow σ k (upd (σ k) f x)
theorem mrow_s {σ : Mem} {k : Nat} {g : Nat → Int32} : mrow σ k g k = g := if_pos rfl
theorem mrow_n {σ : Mem} {k j : Nat} {g : Nat → Int32} (h : j ≠ k) : mrow σ k g j = σ j := if_neg h
theorem mset_s {σ : Mem} {k f : Nat} {x : Int32} : mset σ k f x k = upd (σ k) f x := if_pos rfl
theorem mset_n {σ : Mem} {k f j : Nat} {x : Int32} (h : j ≠ k) : mset σ k f x j = σ j := if_neg h
theorem mset_ss {σ : Mem} {k f : Nat} {x : Int32} : mset σ k f x k f = x := by rw [mset_s]; exact if_pos rfl
theorem mset_sn {σ : Mem} {k f g : Nat} {x : Int32} (h : g ≠ f) : mset σ k f x k g = σ k g := by rw [mset_s]; exact if_neg h
theorem mset_nn {σ : Mem} {k f j g : Nat} {x : Int32} (h : ¬ (j = k ∧ g = f)) : mset σ k f x j g = σ j g := by
  by_cases hj : j = k
  · subst hj
    exact mset_sn (fun e => h ⟨rfl, e⟩)
  · rw [mset_n hj]
theorem mset_if {σ : Mem} {k f j g : Nat} {x : Int32} : mset σ k f x j g = if j = k ∧ g = f then x else σ j g := by
  by_cases h : j = k ∧ g = f
  · rw [if_pos h, h.1, h.2]; exact mset_ss
  · rw [if_neg h]; exact mset_nn h
abbrev GG : Type := va_G × (Nat → Nat) × (Nat → Prop) × (ClassId × ClassId × ClassId × ClassId × ClassId) × (Nat × Nat)
def gD (G : GG) : va_G := G.1
def gad (G : GG) : Nat → Nat := G.2.1
def gA (G : GG) : Nat → Prop := G.2.2.1
def gI (G : GG) : ClassId := G.2.2.2.1.1
def gZ (G : GG) : ClassId := G.2.2.2.1.2.1
def gR (G : GG) : ClassId := G.2.2.2.1.2.2.1
def gB (G : GG) : ClassId := G.2.2.2.1.2.2.2.1
def gQ (G : GG) : ClassId := G.2.2.2.1.2.2.2.2
def gs (G : GG) : Nat := G.2.2.2.2.1
def gn (G : GG) : Nat := G.2.2.2.2.2
/-- rows: 7 b + l (line l of book b), 7 b + 3 + t (tune t), 21 the loom's words, 22 its melody -/
def roomN (r : Nat) : Nat := if r = 22 then 11 else if r % 7 < 3 then 9 else 11
def mlen (k : Nat) : Nat := if k = 135 then 153 else if k = 136 then 306 else if k = 138 then 22 else if k < 141 then 9 else if k < 143 then 11 else if k < 147 then 120 else 20
abbrev rfs (f : Nat → Nat) : (Nat → Int32) ⊕ (Nat → Int64) ⊕ (Nat → UInt32) ⊕ (Nat → UInt64) ⊕ (Nat → Option Nat) := .inr (.inr (.inr (.inr (fun j => some (f j)))))
/-- the cells by index: 0..68 rows (object, weights, spans), 69..80 books (object, lines, tunes, rules), 81 the class's object, 82 its images, 83 pad, 84 signs, 85 loom, 86 its rules, 87 steps, 88 firstOn, 89 howManyOn, 90..93 tables, 94..133 their rows, 134 the model, 135.. its arrays -/
def shp (G : GG) (k : Nat) (m : Nat → Int32) : va_E :=
  if k < 69 then
    (if k % 3 = 0 then .inr (3, [.int (nI (roomN (k / 3))), .ref (gad G (k + 1)), .ref (gad G (k + 2)), .int (m 3)])
     else .inl (gI G, roomN (k / 3), .inl m))
  else if k < 81 then
    (if (k - 69) % 4 = 0 then .inr (0, [.ref (gad G (k + 1)), .ref (gad G (k + 2)), .ref (gad G (k + 3))])
     else if (k - 69) % 4 = 1 then .inl (gR G, 3, rfs (fun j => gad G (3 * (7 * ((k - 69) / 4) + j))))
     else if (k - 69) % 4 = 2 then .inl (gR G, 4, rfs (fun j => gad G (3 * (7 * ((k - 69) / 4) + (3 + j)))))
     else .inl (gI G, 4, .inl m))
  else if k < 90 then
    (if k = 81 then .inr (4, [.ref (gad G 83), .ref (gad G 69), .ref (gad G 82), .ref (gad G 85), .int (m 4)])
     else if k = 82 then .inl (gB G, 2, rfs (fun j => gad G (69 + 4 * (1 + j))))
     else if k = 83 then .inr (2, [.ref (gad G 84), .int (m 1)])
     else if k = 85 then .inr (1, [.ref (gad G 63), .ref (gad G 66), .ref (gad G 86), .ref (gad G 90), .ref (gad G 91), .ref (gad G 92), .ref (gad G 93), .ref (gad G 87), .int (m 8), .ref (gad G 88), .ref (gad G 89)])
     else .inl (gI G, (if k = 84 then 22 else if k = 86 then 4 else if k = 87 then 20 else 11), .inl m))
  else if k < 94 then .inl (gQ G, 10, rfs (fun j => gad G (94 + 10 * (k - 90) + j)))
  else if k < 134 then .inl (gI G, 12, .inl m)
  else if k = 134 then .inr (5, [.ref (gad G 135), .ref (gad G 136), .ref (gad G 137), .ref (gad G 138), .int (m 4), .ref (gad G 139), .ref (gad G 140), .ref (gad G 141), .ref (gad G 142), .int (m 9), .int (m 10), .ref (gad G 143), .ref (gad G 144), .ref (gad G 145), .ref (gad G 146), .ref (gad G 147), .int (m 16)])
  else if k = 137 then .inl (gZ G, 2, .inl m)
  else .inl (gI G, mlen k, .inl m)
-- shapes where they are read
theorem sh_row (G : GG) {r : Nat} (h : r < 23) (m : Nat → Int32) : shp G (3 * r) m = .inr (3, [.int (nI (roomN r)), .ref (gad G (3 * r + 1)), .ref (gad G (3 * r + 2)), .int (m 3)]) := by
  unfold shp
  rw [if_pos (by omega), if_pos (by omega), show 3 * r / 3 = r by omega]
theorem sh_rw (G : GG) {r : Nat} (h : r < 23) (m : Nat → Int32) : shp G (3 * r + 1) m = .inl (gI G, roomN r, .inl m) := by
  unfold shp
  rw [if_pos (by omega), if_neg (by omega), show (3 * r + 1) / 3 = r by omega]
theorem sh_rs (G : GG) {r : Nat} (h : r < 23) (m : Nat → Int32) : shp G (3 * r + 2) m = .inl (gI G, roomN r, .inl m) := by
  unfold shp
  rw [if_pos (by omega), if_neg (by omega), show (3 * r + 2) / 3 = r by omega]
theorem sh_book (G : GG) {b : Nat} (h : b < 3) (m : Nat → Int32) : shp G (69 + 4 * b) m = .inr (0, [.ref (gad G (69 + 4 * b + 1)), .ref (gad G (69 + 4 * b + 2)), .ref (gad G (69 + 4 * b + 3))]) := by
  unfold shp
  rw [if_neg (by omega), if_pos (by omega), if_pos (by omega)]
theorem sh_bl (G : GG) {b : Nat} (h : b < 3) (m : Nat → Int32) : shp G (69 + 4 * b + 1) m = .inl (gR G, 3, rfs (fun j => gad G (3 * (7 * b + j)))) := by
  unfold shp
  rw [if_neg (by omega), if_pos (by omega), if_neg (by omega), if_pos (by omega), show (69 + 4 * b + 1 - 69) / 4 = b by omega]
theorem sh_bt (G : GG) {b : Nat} (h : b < 3) (m : Nat → Int32) : shp G (69 + 4 * b + 2) m = .inl (gR G, 4, rfs (fun j => gad G (3 * (7 * b + (3 + j))))) := by
  unfold shp
  rw [if_neg (by omega), if_pos (by omega), if_neg (by omega), if_neg (by omega), if_pos (by omega), show (69 + 4 * b + 2 - 69) / 4 = b by omega]
theorem sh_br (G : GG) {b : Nat} (h : b < 3) (m : Nat → Int32) : shp G (69 + 4 * b + 3) m = .inl (gI G, 4, .inl m) := by
  unfold shp
  rw [if_neg (by omega), if_pos (by omega), if_neg (by omega), if_neg (by omega), if_neg (by omega)]
theorem sh_63 (G : GG) (m : Nat → Int32) : shp G 63 m = .inr (3, [.int (nI 9), .ref (gad G 64), .ref (gad G 65), .int (m 3)]) := rfl
theorem sh_64 (G : GG) (m : Nat → Int32) : shp G 64 m = .inl (gI G, 9, .inl m) := rfl
theorem sh_65 (G : GG) (m : Nat → Int32) : shp G 65 m = .inl (gI G, 9, .inl m) := rfl
theorem sh_66 (G : GG) (m : Nat → Int32) : shp G 66 m = .inr (3, [.int (nI 11), .ref (gad G 67), .ref (gad G 68), .int (m 3)]) := rfl
theorem sh_67 (G : GG) (m : Nat → Int32) : shp G 67 m = .inl (gI G, 11, .inl m) := rfl
theorem sh_68 (G : GG) (m : Nat → Int32) : shp G 68 m = .inl (gI G, 11, .inl m) := rfl
theorem sh_69 (G : GG) (m : Nat → Int32) : shp G 69 m = .inr (0, [.ref (gad G 70), .ref (gad G 71), .ref (gad G 72)]) := rfl
theorem sh_70 (G : GG) (m : Nat → Int32) : shp G 70 m = .inl (gR G, 3, rfs (fun j => gad G (3 * (7 * 0 + j)))) := rfl
theorem sh_71 (G : GG) (m : Nat → Int32) : shp G 71 m = .inl (gR G, 4, rfs (fun j => gad G (3 * (7 * 0 + (3 + j))))) := rfl
theorem sh_72 (G : GG) (m : Nat → Int32) : shp G 72 m = .inl (gI G, 4, .inl m) := rfl
theorem sh_90 (G : GG) (m : Nat → Int32) : shp G 90 m = .inl (gQ G, 10, rfs (fun j => gad G (94 + 10 * 0 + j))) := rfl
theorem sh_91 (G : GG) (m : Nat → Int32) : shp G 91 m = .inl (gQ G, 10, rfs (fun j => gad G (94 + 10 * 1 + j))) := rfl
theorem sh_92 (G : GG) (m : Nat → Int32) : shp G 92 m = .inl (gQ G, 10, rfs (fun j => gad G (94 + 10 * 2 + j))) := rfl
theorem sh_93 (G : GG) (m : Nat → Int32) : shp G 93 m = .inl (gQ G, 10, rfs (fun j => gad G (94 + 10 * 3 + j))) := rfl
theorem sh_81 (G : GG) (m : Nat → Int32) : shp G 81 m = .inr (4, [.ref (gad G 83), .ref (gad G 69), .ref (gad G 82), .ref (gad G 85), .int (m 4)]) := rfl
theorem sh_82 (G : GG) (m : Nat → Int32) : shp G 82 m = .inl (gB G, 2, rfs (fun j => gad G (69 + 4 * (1 + j)))) := rfl
theorem sh_83 (G : GG) (m : Nat → Int32) : shp G 83 m = .inr (2, [.ref (gad G 84), .int (m 1)]) := rfl
theorem sh_84 (G : GG) (m : Nat → Int32) : shp G 84 m = .inl (gI G, 22, .inl m) := rfl
theorem sh_85 (G : GG) (m : Nat → Int32) : shp G 85 m = .inr (1, [.ref (gad G 63), .ref (gad G 66), .ref (gad G 86), .ref (gad G 90), .ref (gad G 91), .ref (gad G 92), .ref (gad G 93), .ref (gad G 87), .int (m 8), .ref (gad G 88), .ref (gad G 89)]) := rfl
theorem sh_86 (G : GG) (m : Nat → Int32) : shp G 86 m = .inl (gI G, 4, .inl m) := rfl
theorem sh_87 (G : GG) (m : Nat → Int32) : shp G 87 m = .inl (gI G, 20, .inl m) := rfl
theorem sh_88 (G : GG) (m : Nat → Int32) : shp G 88 m = .inl (gI G, 11, .inl m) := rfl
theorem sh_89 (G : GG) (m : Nat → Int32) : shp G 89 m = .inl (gI G, 11, .inl m) := rfl
theorem sh_tab (G : GG) {q : Nat} (h : q < 4) (m : Nat → Int32) : shp G (90 + q) m = .inl (gQ G, 10, rfs (fun j => gad G (94 + 10 * q + j))) := by
  unfold shp
  rw [if_neg (by omega), if_neg (by omega), if_neg (by omega), if_pos (by omega), show 90 + q - 90 = q by omega]
theorem sh_in (G : GG) {q i : Nat} (h : q < 4) (hi : i < 10) (m : Nat → Int32) : shp G (94 + 10 * q + i) m = .inl (gI G, 12, .inl m) := by
  unfold shp
  rw [if_neg (by omega), if_neg (by omega), if_neg (by omega), if_neg (by omega), if_pos (by omega)]
theorem sh_134 (G : GG) (m : Nat → Int32) : shp G 134 m = .inr (5, [.ref (gad G 135), .ref (gad G 136), .ref (gad G 137), .ref (gad G 138), .int (m 4), .ref (gad G 139), .ref (gad G 140), .ref (gad G 141), .ref (gad G 142), .int (m 9), .int (m 10), .ref (gad G 143), .ref (gad G 144), .ref (gad G 145), .ref (gad G 146), .ref (gad G 147), .int (m 16)]) := rfl
theorem sh_135 (G : GG) (m : Nat → Int32) : shp G 135 m = .inl (gI G, 153, .inl m) := rfl
theorem sh_136 (G : GG) (m : Nat → Int32) : shp G 136 m = .inl (gI G, 306, .inl m) := rfl
theorem sh_137 (G : GG) (m : Nat → Int32) : shp G 137 m = .inl (gZ G, 2, .inl m) := rfl
theorem sh_138 (G : GG) (m : Nat → Int32) : shp G 138 m = .inl (gI G, 22, .inl m) := rfl
theorem sh_139 (G : GG) (m : Nat → Int32) : shp G 139 m = .inl (gI G, 9, .inl m) := rfl
theorem sh_140 (G : GG) (m : Nat → Int32) : shp G 140 m = .inl (gI G, 9, .inl m) := rfl
theorem sh_141 (G : GG) (m : Nat → Int32) : shp G 141 m = .inl (gI G, 11, .inl m) := rfl
theorem sh_142 (G : GG) (m : Nat → Int32) : shp G 142 m = .inl (gI G, 11, .inl m) := rfl
theorem sh_143 (G : GG) (m : Nat → Int32) : shp G 143 m = .inl (gI G, 120, .inl m) := rfl
theorem sh_144 (G : GG) (m : Nat → Int32) : shp G 144 m = .inl (gI G, 120, .inl m) := rfl
theorem sh_145 (G : GG) (m : Nat → Int32) : shp G 145 m = .inl (gI G, 120, .inl m) := rfl
theorem sh_146 (G : GG) (m : Nat → Int32) : shp G 146 m = .inl (gI G, 120, .inl m) := rfl
theorem sh_147 (G : GG) (m : Nat → Int32) : shp G 147 m = .inl (gI G, 20, .inl m) := rfl
-- the world
def GOK (G : GG) : Prop := (∀ i j, i < 148 → j < 148 → gad G i = gad G j → i = j) ∧ ∀ k, k < 148 → gA G (gad G k)
abbrev gtys (G : GG) : List (ClassId × FieldType) := [(gI G, .int), (gZ G, .boolean), (gR G, .object RX3), (gB G, .object RX0), (gQ G, .array .int)]
def sOn : Nat → Value := fun k => if k = 1 then .int 0 else .int 1
def nOn : Nat → Value := fun k => if k = 2 then .int 0 else .int 1
abbrev nw1 : Cond := .methodLinkNest RX2 19 yX4_isWithin RX4
abbrev nw2 : Cond := .methodLinkNest RX1 148 yX4_isCheaper RX4
abbrev nw3 : Cond := .methodLinkNest RX1 84 yX4_isWithin RX4
abbrev nw4 : Cond := .fieldLinkNest RX1 105 RX4 "SYLLABLES_ON" "[I" RX4
abbrev nw5 : Cond := .fieldLinkNest RX1 108 RX4 "NOTES_ON" "[I" RX4
def KS (G : GG) (U : State) : Prop := va_K (gD G) classes (gtys G) U ∧ (va_Z RX4 "SYLLABLES_ON" "[I" (.ref (gs G)) (gA G) U U.heap ∧ va_T .int (gs G) 3 sOn (gA G) U U.heap) ∧ (va_Z RX4 "NOTES_ON" "[I" (.ref (gn G)) (gA G) U U.heap ∧ va_T .int (gn G) 3 nOn (gA G) U U.heap) ∧ va_Nw nw1 U ∧ va_Nw nw2 U ∧ va_Nw nw3 U ∧ va_Nw nw4 U ∧ va_Nw nw5 U
def MP (G : GG) (σ : Mem) (H : Heap) : Prop := ∀ k, k < 148 → va_at (gD G) classes (gad G k, shp G k (σ k)) H
def WD (G : GG) (σ : Mem) (U : State) : Prop := GOK G ∧ KS G U ∧ MP G σ U.heap
def HH (G : GG) (s : State) (σ : Mem) (H : Heap) (locs : List Loc) : Prop := MP G σ H ∧ va_S (gA G) s.heap H locs
theorem KS.to {G : GG} {s U : State} {H : Heap} {locs : List Loc} (h : KS G s) (hS : va_S (gA G) s.heap H locs) (hU : U.heap = H) (hW : s.WarmedH U.vm) : KS G U := by
  obtain ⟨h1, ⟨h2, h3⟩, ⟨h4, h5⟩, h6, h7, h8, h9, h10⟩ := h
  have hq : ∀ a : Nat, a < s.heap.size → ¬ gA G a → U.heap[a]? = s.heap[a]? := fun a x y => by rw [hU]; exact hS.2.1 a x y
  exact ⟨va_K.moved hW.alike h1, ⟨va_Z.moved hW.alike (h2.kept hq), va_T.moved hW.alike (h3.kept hq)⟩, ⟨va_Z.moved hW.alike (h4.kept hq), va_T.moved hW.alike (h5.kept hq)⟩, va_Nw.warmM hW h6, va_Nw.warmM hW h7, va_Nw.warmM hW h8, va_Nw.warmF hW h9, va_Nw.warmF hW h10⟩
theorem KS.calling {G : GG} {U : State} (h : KS G U) (g : JFrame) (mk : MethodId) (a : Array Value) : KS G (U.calling g mk a) := by
  obtain ⟨h1, ⟨h2, h3⟩, ⟨h4, h5⟩, h6, h7, h8, h9, h10⟩ := h
  exact ⟨va_K.moved (u := U) (U := U.calling g mk a) (Vm.Alike.refl U.vm) h1, ⟨va_Z.moved (u := U) (U := U.calling g mk a) (Vm.Alike.refl U.vm) h2, va_T.moved (u := U) (U := U.calling g mk a) (Vm.Alike.refl U.vm) h3⟩, ⟨va_Z.moved (u := U) (U := U.calling g mk a) (Vm.Alike.refl U.vm) h4, va_T.moved (u := U) (U := U.calling g mk a) (Vm.Alike.refl U.vm) h5⟩, va_Nw.same rfl rfl h6, va_Nw.same rfl rfl h7, va_Nw.same rfl rfl h8, va_Nw.same rfl rfl h9, va_Nw.same rfl rfl h10⟩
theorem wd_blind (G : GG) (σ : Mem) (As : List Value) : FrameBlind (va_Pc As (WD G σ)) := fun a U g mk q => by
  obtain ⟨q0, q1, q2, q3⟩ := q
  exact ⟨q0, q1, q2.calling g mk a, q3⟩
def wl (G : GG) (σ : Mem) : va_W := (List.range 148).map (fun k => (gad G k, shp G k (σ k)))
theorem wl_at {G : GG} {σ : Mem} {k : Nat} {e : va_E} (hk : k < 148) (h : shp G k (σ k) = e) : (wl G σ)[k]? = some (gad G k, e) := by
  unfold wl
  rw [List.getElem?_map, List.getElem?_range hk, ← h]
  rfl
theorem wl_of {G : GG} {σ : Mem} {k : Nat} {q : Nat × va_E} (h : (wl G σ)[k]? = some q) : k < 148 ∧ q = (gad G k, shp G k (σ k)) := by
  have hk : k < 148 := by
    have := (List.getElem?_eq_some_iff.mp h).1
    simpa [wl] using this
  rw [wl_at hk rfl] at h
  exact ⟨hk, (Option.some.inj h).symm⟩
theorem wl_P {G : GG} {σ : Mem} {H : Heap} (h : MP G σ H) : va_P (gD G) classes (wl G σ) H := fun k q hq => by
  obtain ⟨hk, rfl⟩ := wl_of hq
  exact h k hk
theorem wl_P' {G : GG} {σ : Mem} {H : Heap} (h : va_P (gD G) classes (wl G σ) H) : MP G σ H := fun k hk => h k _ (wl_at hk rfl)
theorem wl_D {G : GG} {σ : Mem} (h : GOK G) : va_D (gA G) (wl G σ) := ⟨fun i j p q hi hj hpq => by
  obtain ⟨h1, rfl⟩ := wl_of hi
  obtain ⟨h2, rfl⟩ := wl_of hj
  exact h.1 i j h1 h2 hpq, fun k q hq => by
  obtain ⟨h1, rfl⟩ := wl_of hq
  exact h.2 k h1⟩
theorem wl_set {G : GG} {σ τ : Mem} {k : Nat} {e : va_E} (h1 : ∀ j, j ≠ k → τ j = σ j) (h2 : shp G k (τ k) = e) : (wl G σ).set k (gad G k, e) = wl G τ := by
  apply List.ext_getElem?
  intro j
  by_cases hk : j = k
  · subst hk
    by_cases hj : j < 148
    · rw [List.getElem?_set_self (by simpa [wl] using hj), wl_at hj h2]
    · rw [List.getElem?_eq_none (by simp [wl]; omega), List.getElem?_eq_none (by simp [wl]; omega)]
  · rw [List.getElem?_set_ne (Ne.symm hk)]
    unfold wl
    rw [List.getElem?_map, List.getElem?_map]
    cases hr : (List.range 148)[j]? with
    | none => rfl
    | some x =>
      have hx : x = j := by
        have := List.getElem?_eq_some_iff.mp hr
        obtain ⟨a, b⟩ := this
        rw [List.getElem_range] at b
        exact b.symm
      subst hx
      show some (gad G x, shp G x (σ x)) = some (gad G x, shp G x (τ x))
      rw [h1 x hk]
-- contracts
def Ci (l : Launch) (G : GG) (y : MethodName) (b : ByteArray) (nl : Nat) (ret : Option FieldType) (fr lo : Nat) (As : List Value) (σ : Mem) (Q : Int32 → Mem → Prop) : Prop :=
  Met l y (.code y b nl ret :: TBG) { frames := fr, cells := 0, slots := 0, locals := lo } (va_Pc As (WD G σ)) (va_Qi (S := Mem) Q (fun τ t => MP G τ t.heap) (gA G)) 0 0 (gA G)
def Cv (l : Launch) (G : GG) (y : MethodName) (b : ByteArray) (nl : Nat) (fr lo : Nat) (As : List Value) (σ : Mem) (Q : Mem → Prop) : Prop :=
  Met l y (.code y b nl none :: TBG) { frames := fr, cells := 0, slots := 0, locals := lo } (va_Pc As (WD G σ)) (va_Qv (S := Mem) Q (fun τ t => MP G τ t.heap) (gA G)) 0 0 (gA G)
def FX (G : GG) (p : Program) (s : State) (m : MethodId) (args : Array Value) (meth : Method) (c : Code) (b : ByteArray) (nl : Nat) (ret : Option FieldType) (own : String) : Prop :=
  CallFix p m c b nl s args TBG own ∧ meth.sig.returnType = ret ∧ meth.locks = false ∧ GOK G ∧ KS G s
abbrev WI (l : Launch) (G : GG) (p : Program) (e : Env) (s : State) (m : MethodId) (args : Array Value) (below : List Frame) (meth : Method) (c : Code) (fr lo : Nat) (Q : Int32 → Mem → Prop) (H : Heap) (locs : List Loc) (g : JFrame) : Prop :=
  W p l e { frames := fr, cells := 0, slots := 0, locals := lo } s m args below meth c H locs 0 0 (MQ below (va_Qi (S := Mem) Q (fun τ t => MP G τ t.heap) (gA G)) args s 0 0 (gA G)) g
abbrev WV (l : Launch) (G : GG) (p : Program) (e : Env) (s : State) (m : MethodId) (args : Array Value) (below : List Frame) (meth : Method) (c : Code) (fr lo : Nat) (Q : Mem → Prop) (H : Heap) (locs : List Loc) (g : JFrame) : Prop :=
  W p l e { frames := fr, cells := 0, slots := 0, locals := lo } s m args below meth c H locs 0 0 (MQ below (va_Qv (S := Mem) Q (fun τ t => MP G τ t.heap) (gA G)) args s 0 0 (gA G)) g
theorem Ci.of {l : Launch} {G : GG} {y : MethodName} {b : ByteArray} {nl : Nat} {ret : Option FieldType} {fr lo : Nat} {As : List Value} {σ : Mem} {Q : Int32 → Mem → Prop} {own : String} (hy : plainName y.cls = true) (ho : y.cls = own) (hn : (lg_sl As).length ≤ nl)
    (body : ∀ (p : Program) (e : Env) (s : State) (m : MethodId) (args : Array Value) (below : List Frame) (meth : Method) (c : Code) (ls : Array Slot) (H : Heap) (locs : List Loc), FX G p s m args meth c b nl ret own → lv_has ls nl (lv_args 0 As) → HH G s σ H locs → WI l G p e s m args below meth c fr lo Q H locs (F0 m 0 ls [])) : Ci l G y b nl ret fr lo As σ Q := by
  refine Met.ofW (cc := b) (maxL := nl) (ret := ret) hy rfl ?_
  intro p e s m args below meth c s₁ B hml hv
  obtain ⟨rfl, hG, hK, hP⟩ := hv
  have hts := atoms_spec (ws := .code y b nl ret :: TBG) B.pre
  have hown : s.vm.findClass y.cls = some m.cls := findClass_of_methodNamed B.named
  rw [ho] at hown
  have hl := lv_entry As (n := nl) hn
  rw [lg_entry_eq]
  exact body p e s m _ below meth c _ s.heap [] ⟨⟨B.exec, B.bytes, hml, hown, fun w h => hts w (List.mem_cons_of_mem _ h)⟩, B.returns, B.notSynchronized, hG, hK⟩ hl ⟨hP, va_S.rf⟩
theorem Cv.of {l : Launch} {G : GG} {y : MethodName} {b : ByteArray} {nl : Nat} {fr lo : Nat} {As : List Value} {σ : Mem} {Q : Mem → Prop} {own : String} (hy : plainName y.cls = true) (ho : y.cls = own) (hn : (lg_sl As).length ≤ nl)
    (body : ∀ (p : Program) (e : Env) (s : State) (m : MethodId) (args : Array Value) (below : List Frame) (meth : Method) (c : Code) (ls : Array Slot) (H : Heap) (locs : List Loc), FX G p s m args meth c b nl none own → lv_has ls nl (lv_args 0 As) → HH G s σ H locs → WV l G p e s m args below meth c fr lo Q H locs (F0 m 0 ls [])) : Cv l G y b nl fr lo As σ Q := by
  refine Met.ofW (cc := b) (maxL := nl) (ret := none) hy rfl ?_
  intro p e s m args below meth c s₁ B hml hv
  obtain ⟨rfl, hG, hK, hP⟩ := hv
  have hts := atoms_spec (ws := .code y b nl none :: TBG) B.pre
  have hown : s.vm.findClass y.cls = some m.cls := findClass_of_methodNamed B.named
  rw [ho] at hown
  have hl := lv_entry As (n := nl) hn
  rw [lg_entry_eq]
  exact body p e s m _ below meth c _ s.heap [] ⟨⟨B.exec, B.bytes, hml, hown, fun w h => hts w (List.mem_cons_of_mem _ h)⟩, B.returns, B.notSynchronized, hG, hK⟩ hl ⟨hP, va_S.rf⟩
theorem FX.x {G : GG} {p : Program} {s : State} {m : MethodId} {args : Array Value} {meth : Method} {c : Code} {b : ByteArray} {nl : Nat} {ret : Option FieldType} {own : String} (X : FX G p s m args meth c b nl ret own) : p.tables.exec = Jvm.exec := X.1.1
theorem FX.b {G : GG} {p : Program} {s : State} {m : MethodId} {args : Array Value} {meth : Method} {c : Code} {b : ByteArray} {nl : Nat} {ret : Option FieldType} {own : String} (X : FX G p s m args meth c b nl ret own) : c.code = b := X.1.2.1
section BASE
variable {p : Program} {l : Launch} {e : Env} {R : Room} {s : State} {m : MethodId} {args : Array Value} {below : List Frame} {meth : Method} {c : Code} {H : Heap} {locs : List Loc} {cells slots : Nat} {Q : State → Prop} {b : ByteArray} {nl : Nat} {ret : Option FieldType} {own : String} {G : GG} {σ : Mem} {pc : Nat} {ls : Array Slot} {rest : List Value}
theorem f_iret {fr lo : Nat} {Q : Int32 → Mem → Prop} {v : Int32} (X : FX G p s m args meth c b nl (some .int) own) (hh : HH G s σ H locs) (hq : Q v σ) (d : decode b pc = .ok (.ireturn, 1)) : WI l G p e s m args below meth c fr lo Q H locs (F0 m pc ls [.int v]) :=
  W.iret X.1.1 X.1.2.1 X.2.1 (fun t ht _ => ⟨⟨v, σ, rfl, hq, by show MP G σ t.heap; rw [ht]; exact hh.1⟩, hh.2.F ht⟩) hh.2.2.2 d X.2.2.1
theorem f_zret {fr lo : Nat} {Q : Int32 → Mem → Prop} {v : Int32} (X : FX G p s m args meth c b nl (some .boolean) own) (hh : HH G s σ H locs) (hz : narrow .boolean (.int v) = .int v) (hq : Q v σ) (d : decode b pc = .ok (.ireturn, 1)) : WI l G p e s m args below meth c fr lo Q H locs (F0 m pc ls [.int v]) :=
  W.zret X.1.1 X.1.2.1 X.2.1 hz (fun t ht _ => ⟨⟨v, σ, rfl, hq, by show MP G σ t.heap; rw [ht]; exact hh.1⟩, hh.2.F ht⟩) hh.2.2.2 d X.2.2.1
theorem f_vret {fr lo : Nat} {Q : Mem → Prop} (X : FX G p s m args meth c b nl none own) (hh : HH G s σ H locs) (hq : Q σ) (d : decode b pc = .ok (.return_, 1)) : WV l G p e s m args below meth c fr lo Q H locs (F0 m pc ls []) :=
  W.vret X.1.1 X.1.2.1 X.2.1 (fun t ht _ => ⟨⟨σ, rfl, hq, by show MP G σ t.heap; rw [ht]; exact hh.1⟩, hh.2.F ht⟩) hh.2.2.2 d X.2.2.1
theorem f_get (X : FX G p s m args meth c b nl ret own) (hh : HH G s σ H locs) {k ci N idx : Nat} {C : String} {T : u_T} {fs : List Value} (hs : shp G k (σ k) = .inr (ci, fs)) (hk : k < 148) (hc : classes[ci]? = some (C, T, N)) (hin : ∀ w ∈ u_ws C T N, w ∈ TBG) (f : Nat) (hf : f < N) (hl : Cond.fieldLink own idx (T f).1 (T f).2.1 (T f).2.2.1 ∈ TBG) {v : Value} (hv : fs[f]? = some v) (d : decode b pc = .ok (.getfield idx, 3))
    (kk : W p l e R s m args below meth c H locs cells slots Q (F0 m (pc + 3) ls (v :: rest))) : W p l e R s m args below meth c H locs cells slots Q (F0 m pc ls (.ref (gad G k) :: rest)) :=
  va_get (D := gD G) (tys := gtys G) (Ts := TBG) X.1.1 X.1.2.1 X.1.2.2.2.2 hin X.1.2.2.2.1 X.2.2.2.2.1 (wl_P hh.1) k (wl_at hk hs) hc f hf (X.1.2.2.2.2 _ hl) (fun _ h => h) hv d kk
theorem f_put (X : FX G p s m args meth c b nl ret own) (hh : HH G s σ H locs) {k ci N idx : Nat} {C : String} {T : u_T} {fs : List Value} {x : Int32} (hs : shp G k (σ k) = .inr (ci, fs)) (hk : k < 148) (hc : classes[ci]? = some (C, T, N)) (hin : ∀ w ∈ u_ws C T N, w ∈ TBG) (f : Nat) (hs2 : shp G k (upd (σ k) f x) = .inr (ci, fs.set f (.int x))) (ty0 : Nat → FieldType) (hty : ∀ k, k < N → parseFieldDescriptor (T k).2.2.1 = some (ty0 k)) (hnm : ∀ a, a < N → ∀ b, b < N → a ≠ b → (T a).2.1 ≠ (T b).2.1) (hf : f < N) (hl : Cond.fieldLink own idx (T f).1 (T f).2.1 (T f).2.2.1 ∈ TBG) (hfin : (T f).2.2.2 = false) (hd : parseFieldDescriptor (T f).2.2.1 = some .int) (hlen : f < fs.length) (d : decode b pc = .ok (.putfield idx, 3))
    (kk : ∀ (H1 : Heap) (locs1 : List Loc), HH G s (mset σ k f x) H1 locs1 → W p l e R s m args below meth c H1 locs1 cells slots Q (F0 m (pc + 3) ls rest)) : W p l e R s m args below meth c H locs cells slots Q (F0 m pc ls (.int x :: .ref (gad G k) :: rest)) := by
  have hset := wl_set (G := G) (σ := σ) (τ := mset σ k f x) (k := k) (e := .inr (ci, fs.set f (.int x))) (fun j hj => mset_n hj) (by rw [mset_s]; exact hs2)
  refine va_put (D := gD G) (tys := gtys G) (Ts := TBG) (ty := .int) X.1.1 X.1.2.1 X.1.2.2.2.2 hin ty0 hty hnm X.1.2.2.2.1 X.2.2.2.2.1 (wl_P hh.1) (wl_D X.2.2.2.1) hh.2 k (wl_at hk hs) hc f hf (X.1.2.2.2.2 _ hl) (fun _ h => h) hfin hd rfl rfl hlen d (fun H1 locs1 hP hD hS => ?_)
  rw [hset] at hP
  exact kk H1 locs1 ⟨wl_P' hP, hS⟩
theorem f_iald (X : FX G p s m args meth c b nl ret own) (hh : HH G s σ H locs) {k n j : Nat} {x : Int32} (hs : shp G k (σ k) = .inl (gI G, n, .inl (σ k))) (hk : k < 148) (hx : x = nI j) (hj : j < n) (hn : n < 2 ^ 31) (d : decode b pc = .ok (.iaload, 1))
    (kk : W p l e R s m args below meth c H locs cells slots Q (F0 m (pc + 1) ls (.int (σ k j) :: rest))) : W p l e R s m args below meth c H locs cells slots Q (F0 m pc ls (.int x :: .ref (gad G k) :: rest)) := by
  subst hx
  refine va_iald (D := gD G) (tys := gtys G) X.1.1 X.1.2.1 X.2.2.2.2.1 (wl_P hh.1) k 0 (wl_at hk hs) rfl (vp_in_nI hj hn) d ?_
  rw [nI_clamp (Nat.lt_trans hj hn)]
  exact kk
theorem f_iast (X : FX G p s m args meth c b nl ret own) (hh : HH G s σ H locs) {k n j : Nat} {x v : Int32} (hs : ∀ g, shp G k g = .inl (gI G, n, .inl g)) (hk : k < 148) (hx : x = nI j) (hj : j < n) (hn : n < 2 ^ 31) (d : decode b pc = .ok (.iastore, 1))
    (kk : ∀ (H1 : Heap) (locs1 : List Loc), HH G s (mset σ k j v) H1 locs1 → W p l e R s m args below meth c H1 locs1 cells slots Q (F0 m (pc + 1) ls rest)) : W p l e R s m args below meth c H locs cells slots Q (F0 m pc ls (.int v :: .int x :: .ref (gad G k) :: rest)) := by
  subst hx
  have hset := wl_set (G := G) (σ := σ) (τ := mset σ k j v) (k := k) (e := .inl (gI G, n, .inl (upd (σ k) j v))) (fun j hj => mset_n hj) (by rw [mset_s]; exact hs _)
  refine va_iast (D := gD G) (tys := gtys G) X.1.1 X.1.2.1 X.2.2.2.2.1 (wl_P hh.1) (wl_D X.2.2.2.1) hh.2 k 0 (wl_at hk (hs _)) rfl (vp_in_nI hj hn) d (fun H1 locs1 hP hD hS => ?_)
  rw [nI_clamp (Nat.lt_trans hj hn), hset] at hP
  exact kk H1 locs1 ⟨wl_P' hP, hS⟩
theorem f_zald (X : FX G p s m args meth c b nl ret own) (hh : HH G s σ H locs) {j : Nat} {x : Int32} (hx : x = nI j) (hj : j < 2) (d : decode b pc = .ok (.baload, 1))
    (kk : W p l e R s m args below meth c H locs cells slots Q (F0 m (pc + 1) ls (.int (σ 137 j) :: rest))) : W p l e R s m args below meth c H locs cells slots Q (F0 m pc ls (.int x :: .ref (gad G 137) :: rest)) := by
  subst hx
  refine va_zald (D := gD G) (tys := gtys G) X.1.1 X.1.2.1 X.2.2.2.2.1 (wl_P hh.1) 137 1 (wl_at (by decide) (sh_137 G _)) rfl (vp_in_nI hj (by decide)) d ?_
  rw [nI_clamp (Nat.lt_trans hj (by decide))]
  exact kk
theorem f_zast (X : FX G p s m args meth c b nl ret own) (hh : HH G s σ H locs) {j : Nat} {x v : Int32} (hx : x = nI j) (hj : j < 2) (hz : vp_nar .boolean v = v) (d : decode b pc = .ok (.bastore, 1))
    (kk : ∀ (H1 : Heap) (locs1 : List Loc), HH G s (mset σ 137 j v) H1 locs1 → W p l e R s m args below meth c H1 locs1 cells slots Q (F0 m (pc + 1) ls rest)) : W p l e R s m args below meth c H locs cells slots Q (F0 m pc ls (.int v :: .int x :: .ref (gad G 137) :: rest)) := by
  subst hx
  have hset := wl_set (G := G) (σ := σ) (τ := mset σ 137 j v) (k := 137) (e := .inl (gZ G, 2, .inl (upd (σ 137) j v))) (fun j hj => mset_n hj) (by rw [mset_s]; exact sh_137 G _)
  refine va_zast (D := gD G) (tys := gtys G) X.1.1 X.1.2.1 X.2.2.2.2.1 (wl_P hh.1) (wl_D X.2.2.2.1) hh.2 137 1 (wl_at (by decide) (sh_137 G _)) rfl (vp_in_nI hj (by decide)) d (fun H1 locs1 hP hD hS => ?_)
  rw [nI_clamp (Nat.lt_trans hj (by decide)), hz, hset] at hP
  exact kk H1 locs1 ⟨wl_P' hP, hS⟩
theorem f_aald (X : FX G p s m args meth c b nl ret own) (hh : HH G s σ H locs) {k n j : Nat} {x : Int32} {cA : ClassId} {ty : FieldType} {f : Nat → Nat} (t0 : Nat) (hs : shp G k (σ k) = .inl (cA, n, rfs f)) (ht : (gtys G)[t0]? = some (cA, ty)) (hty : ty.isReference = true) (hk : k < 148) (hx : x = nI j) (hj : j < n) (hn : n < 2 ^ 31) (d : decode b pc = .ok (.aaload, 1))
    (kk : W p l e R s m args below meth c H locs cells slots Q (F0 m (pc + 1) ls (.ref (f j) :: rest))) : W p l e R s m args below meth c H locs cells slots Q (F0 m pc ls (.int x :: .ref (gad G k) :: rest)) := by
  subst hx
  have hc : (nI j).toNatClampNeg = j := nI_clamp (Nat.lt_trans hj hn)
  have hat := wl_P hh.1 k _ (wl_at hk hs)
  refine W.aald (v := .ref (f j)) (ty := ty) X.1.1 X.1.2.1 hat ((X.2.2.2.2.1.2 t0 _ ht).1 n (fun j => va_rf (some (f j)))) hty (fun q => by cases q) (by show ¬ (nI j < 0 ∨ (arrV _ _ _).slots.size ≤ _); rw [arrV_size]; exact vp_in_nI hj hn) (by show (arrV _ _ _).slots[_]? = _; rw [hc, arrV_read _ _ hj]; rfl) rfl rfl d kk
theorem f_get1 (X : FX G p s m args meth c b nl ret RX1) (hh : HH G s σ H locs) (d : decode b pc = .ok (.getstatic 105, 3))
    (kk : W p l e R s m args below meth c H locs cells slots Q (F0 m (pc + 3) ls (.ref (gs G) :: rest))) : W p l e R s m args below meth c H locs cells slots Q (F0 m pc ls rest) :=
  va_getsN X.1.1 X.1.2.1 X.2.2.2.2.2.1.1 hh.2 X.1.2.2.2.1 (va_Nw.use rfl X.2.2.2.2.2.2.2.2.2.2.1) (fun _ h => h) d kk
theorem f_get2 (X : FX G p s m args meth c b nl ret RX1) (hh : HH G s σ H locs) (d : decode b pc = .ok (.getstatic 108, 3))
    (kk : W p l e R s m args below meth c H locs cells slots Q (F0 m (pc + 3) ls (.ref (gn G) :: rest))) : W p l e R s m args below meth c H locs cells slots Q (F0 m pc ls rest) :=
  va_getsN X.1.1 X.1.2.1 X.2.2.2.2.2.2.1.1 hh.2 X.1.2.2.2.1 (va_Nw.use rfl X.2.2.2.2.2.2.2.2.2.2.2) (fun _ h => h) d kk
theorem f_ti1 (X : FX G p s m args meth c b nl ret own) (hh : HH G s σ H locs) {j : Nat} {x : Int32} (hx : x = nI j) (hj : j < 3) {v : Value} (hv : sOn j = v) (d : decode b pc = .ok (.iaload, 1))
    (kk : W p l e R s m args below meth c H locs cells slots Q (F0 m (pc + 1) ls (v :: rest))) : W p l e R s m args below meth c H locs cells slots Q (F0 m pc ls (.int x :: .ref (gs G) :: rest)) := by
  subst hx
  exact va_ti X.1.1 X.1.2.1 X.2.2.2.2.2.1.2 hh.2 (vp_in_nI hj (by decide)) (by rw [nI_clamp (Nat.lt_trans hj (by decide))]; exact hv) d kk
theorem f_ti2 (X : FX G p s m args meth c b nl ret own) (hh : HH G s σ H locs) {j : Nat} {x : Int32} (hx : x = nI j) (hj : j < 3) {v : Value} (hv : nOn j = v) (d : decode b pc = .ok (.iaload, 1))
    (kk : W p l e R s m args below meth c H locs cells slots Q (F0 m (pc + 1) ls (v :: rest))) : W p l e R s m args below meth c H locs cells slots Q (F0 m pc ls (.int x :: .ref (gn G) :: rest)) := by
  subst hx
  exact va_ti X.1.1 X.1.2.1 X.2.2.2.2.2.2.1.2 hh.2 (vp_in_nI hj (by decide)) (by rw [nI_clamp (Nat.lt_trans hj (by decide))]; exact hv) d kk
theorem f_cb {y : MethodName} {b2 : ByteArray} {nl2 n idx fr2 lo2 : Nat} {ret2 : Option FieldType} (X : FX G p s m args meth c b nl ret own) (hF : MF y b2 nl2 ret2 n) (hl : Cond.methodLink own idx y ∈ TBG) (hR : fr2 + 1 ≤ R.frames ∧ 8 + (nl2 + 11) + lo2 ≤ R.locals) : CallB R s args own idx y b2 nl2 ret2 (.code y b2 nl2 ret2 :: TBG) { frames := fr2, cells := 0, slots := 0, locals := lo2 } 0 0 n :=
  callB_of n X.1.2.2.2.2 (tb_gi hF.1) rfl rfl rfl (X.1.2.2.2.2 _ hF.2.1) (X.1.2.2.2.2 _ hl) hF.2.2 hR
theorem f_pre (X : FX G p s m args meth c b nl ret own) (hh : HH G s σ H locs) (As : List Value) : ∀ U : State, U.heap = H → s.WarmedH U.vm → va_Pc As (WD G σ) As.toArray U := fun U hU hW => ⟨rfl, X.2.2.2.1, X.2.2.2.2.to hh.2 hU hW, by rw [hU]; exact hh.1⟩
theorem f_recv (X : FX G p s m args meth c b nl ret own) (hh : HH G s σ H locs) {k ci N : Nat} {C : String} {T : u_T} {fs : List Value} (hs : shp G k (σ k) = .inr (ci, fs)) (hk : k < 148) (hc : classes[ci]? = some (C, T, N)) : ∃ cell : Cell, H[gad G k]? = some cell ∧ cell.vm.isStatics = false ∧ s.vm.findClass C = some cell.cls :=
  va_recv (q := (C, T, N)) X.2.2.2.2.1 (wl_P hh.1) hc (wl_at hk hs)
theorem f_calli (X : FX G p s m args meth c b nl ret own) (hh : HH G s σ H locs) {y : MethodName} {b2 : ByteArray} {nl2 n idx fr2 lo2 k ci N : Nat} {ret2 : Option FieldType} {T : u_T} {fs As st : List Value} {Q2 : Int32 → Mem → Prop} (hM : Ci l G y b2 nl2 ret2 fr2 lo2 (.ref (gad G k) :: As) σ Q2) (hF : MF y b2 nl2 ret2 n) (hi : Cond.instanceMethod y ∈ TBG) (hse : Cond.selects y.cls y y ∈ TBG) (hl : Cond.methodLink own idx y ∈ TBG) (hs : shp G k (σ k) = .inr (ci, fs)) (hk : k < 148) (hc : classes[ci]? = some (y.cls, T, N)) (hn : As.length = n) (hls : ls.size = nl) (rest : List Value) (hst : st = As.reverse ++ .ref (gad G k) :: rest) (hcat : (rest.map fun v => v.category).sum ≤ 8) (hR : fr2 + 1 ≤ R.frames ∧ 8 + (nl2 + 11) + lo2 ≤ R.locals) (hz : cells ≤ R.cells ∧ slots ≤ R.slots) (d : decode b pc = .ok (.invokevirtual idx, 3))
    (kk : ∀ (r : Int32) (τ : Mem) (H1 : Heap) (locs1 : List Loc), Q2 r τ → HH G s τ H1 locs1 → W p l e R s m args below meth c H1 locs1 cells slots Q (F0 m (pc + 3) ls (.int r :: rest))) : W p l e R s m args below meth c H locs cells slots Q (F0 m pc ls st) := by
  subst hst
  exact va_calli (va_runV (As := As) (rest := rest) X.1 hM ⟨f_cb X hF hl hR, X.1.2.2.2.2 _ hi, X.1.2.2.2.2 _ hse⟩ ⟨wd_blind G σ _, f_recv X hh hs hk hc, f_pre X hh _⟩ rfl hn hls rfl (lv_room hcat) d hz) hh.2 (fun _ _ h => h) (fun _ h => h) (fun r u t H1 locs1 ht hvm hq hB hz1 hk1 hS1 => kk r u H1 locs1 hq ⟨by rw [← ht]; exact hB, hS1⟩)
theorem f_callv (X : FX G p s m args meth c b nl ret own) (hh : HH G s σ H locs) {y : MethodName} {b2 : ByteArray} {nl2 n idx fr2 lo2 k ci N : Nat} {T : u_T} {fs As st : List Value} {Q2 : Mem → Prop} (hM : Cv l G y b2 nl2 fr2 lo2 (.ref (gad G k) :: As) σ Q2) (hF : MF y b2 nl2 none n) (hi : Cond.instanceMethod y ∈ TBG) (hse : Cond.selects y.cls y y ∈ TBG) (hl : Cond.methodLink own idx y ∈ TBG) (hs : shp G k (σ k) = .inr (ci, fs)) (hk : k < 148) (hc : classes[ci]? = some (y.cls, T, N)) (hn : As.length = n) (hls : ls.size = nl) (rest : List Value) (hst : st = As.reverse ++ .ref (gad G k) :: rest) (hcat : (rest.map fun v => v.category).sum ≤ 8) (hR : fr2 + 1 ≤ R.frames ∧ 8 + (nl2 + 11) + lo2 ≤ R.locals) (hz : cells ≤ R.cells ∧ slots ≤ R.slots) (d : decode b pc = .ok (.invokevirtual idx, 3))
    (kk : ∀ (τ : Mem) (H1 : Heap) (locs1 : List Loc), Q2 τ → HH G s τ H1 locs1 → W p l e R s m args below meth c H1 locs1 cells slots Q (F0 m (pc + 3) ls rest)) : W p l e R s m args below meth c H locs cells slots Q (F0 m pc ls st) := by
  subst hst
  exact va_callv (va_runV (As := As) (rest := rest) X.1 hM ⟨f_cb X hF hl hR, X.1.2.2.2.2 _ hi, X.1.2.2.2.2 _ hse⟩ ⟨wd_blind G σ _, f_recv X hh hs hk hc, f_pre X hh _⟩ rfl hn hls rfl (lv_room hcat) d hz) hh.2 (fun _ _ h => h) (fun _ h => h) (fun u t H1 locs1 ht hvm hq hB hz1 hk1 hS1 => kk u H1 locs1 hq ⟨by rw [← ht]; exact hB, hS1⟩)
theorem f_scalli (X : FX G p s m args meth c b nl ret own) (hh : HH G s σ H locs) {y : MethodName} {b2 : ByteArray} {nl2 n idx fr2 lo2 : Nat} {ret2 : Option FieldType} {As st : List Value} {Q2 : Int32 → Mem → Prop} (hM : Ci l G y b2 nl2 ret2 fr2 lo2 As σ Q2) (hF : MF y b2 nl2 ret2 n) (hi : Cond.static y ∈ TBG) (hl : Cond.methodLink own idx y ∈ TBG) (hn : As.length = n) (hls : ls.size = nl) (rest : List Value) (hst : st = As.reverse ++ rest) (hcat : (rest.map fun v => v.category).sum ≤ 8) (hR : fr2 + 1 ≤ R.frames ∧ 8 + (nl2 + 11) + lo2 ≤ R.locals) (hz : cells ≤ R.cells ∧ slots ≤ R.slots) (d : decode b pc = .ok (.invokestatic idx, 3))
    (kk : ∀ (r : Int32) (τ : Mem) (H1 : Heap) (locs1 : List Loc), Q2 r τ → HH G s τ H1 locs1 → W p l e R s m args below meth c H1 locs1 cells slots Q (F0 m (pc + 3) ls (.int r :: rest))) : W p l e R s m args below meth c H locs cells slots Q (F0 m pc ls st) := by
  subst hst
  exact va_calli (va_runS (As := As) (rest := rest) X.1 hM ⟨f_cb X hF hl hR, X.1.2.2.2.2 _ hi⟩ ⟨wd_blind G σ _, f_pre X hh _⟩ rfl hn hls rfl (lv_room hcat) d hz) hh.2 (fun _ _ h => h) (fun _ h => h) (fun r u t H1 locs1 ht hvm hq hB hz1 hk1 hS1 => kk r u H1 locs1 hq ⟨by rw [← ht]; exact hB, hS1⟩)
/-- a static call of a nest mate's private method: its link stands in KS -/
theorem f_ncalli (X : FX G p s m args meth c b nl ret own) (hh : HH G s σ H locs) {y : MethodName} {b2 : ByteArray} {nl2 n idx fr2 lo2 : Nat} {host : String} {ret2 : Option FieldType} {As st : List Value} {Q2 : Int32 → Mem → Prop} (hM : Ci l G y b2 nl2 ret2 fr2 lo2 As σ Q2) (hF : MF y b2 nl2 ret2 n) (hi : Cond.static y ∈ TBG) (hl : va_Nw (.methodLinkNest own idx y host) s) (hn : As.length = n) (hls : ls.size = nl) (rest : List Value) (hst : st = As.reverse ++ rest) (hcat : (rest.map fun v => v.category).sum ≤ 8) (hR : fr2 + 1 ≤ R.frames ∧ 8 + (nl2 + 11) + lo2 ≤ R.locals) (hz : cells ≤ R.cells ∧ slots ≤ R.slots) (d : decode b pc = .ok (.invokestatic idx, 3))
    (kk : ∀ (r : Int32) (τ : Mem) (H1 : Heap) (locs1 : List Loc), Q2 r τ → HH G s τ H1 locs1 → W p l e R s m args below meth c H1 locs1 cells slots Q (F0 m (pc + 3) ls (.int r :: rest))) : W p l e R s m args below meth c H locs cells slots Q (F0 m pc ls st) := by
  subst hst
  exact va_calli (va_runSN (As := As) (rest := rest) X.1 hM ⟨va_cnB n X.1.2.2.2.2 (tb_gi hF.1) rfl rfl rfl hl (X.1.2.2.2.2 _ hF.2.1) hF.2.2 hR, X.1.2.2.2.2 _ hi, trivial⟩ ⟨wd_blind G σ _, f_pre X hh _⟩ rfl hn hls rfl (lv_room hcat) d hz) hh.2 (fun _ _ h => h) (fun _ h => h) (fun r u t H1 locs1 ht hvm hq hB hz1 hk1 hS1 => kk r u H1 locs1 hq ⟨by rw [← ht]; exact hB, hS1⟩)
theorem f_geti (X : FX G p s m args meth c b nl ret own) (hh : HH G s σ H locs) {k ci N idx : Nat} {C : String} {T : u_T} {fs : List Value} {x : Int32} (hs : shp G k (σ k) = .inr (ci, fs)) (hk : k < 148) (hc : classes[ci]? = some (C, T, N)) (hin : ∀ w ∈ u_ws C T N, w ∈ TBG) (f : Nat) (hf : f < N) (hl : Cond.fieldLink own idx (T f).1 (T f).2.1 (T f).2.2.1 ∈ TBG) (hv : fs[f]? = some (.int (σ k f))) (hx : σ k f = x) (d : decode b pc = .ok (.getfield idx, 3))
    (kk : W p l e R s m args below meth c H locs cells slots Q (F0 m (pc + 3) ls (.int x :: rest))) : W p l e R s m args below meth c H locs cells slots Q (F0 m pc ls (.ref (gad G k) :: rest)) := by
  rw [hx] at hv
  exact f_get X hh hs hk hc hin f hf hl hv d kk
theorem f_ialdx (X : FX G p s m args meth c b nl ret own) (hh : HH G s σ H locs) {k n j : Nat} {x y : Int32} (hs : shp G k (σ k) = .inl (gI G, n, .inl (σ k))) (hk : k < 148) (hx : x = nI j) (hj : j < n) (hn : n < 2 ^ 31) (hy : σ k j = y) (d : decode b pc = .ok (.iaload, 1))
    (kk : W p l e R s m args below meth c H locs cells slots Q (F0 m (pc + 1) ls (.int y :: rest))) : W p l e R s m args below meth c H locs cells slots Q (F0 m pc ls (.int x :: .ref (gad G k) :: rest)) := by
  rw [← hy] at kk
  exact f_iald X hh hs hk hx hj hn d kk
theorem f_iadd (X : FX G p s m args meth c b nl ret own) {x y z : Int32} (hz : x + y = z) (d : decode b pc = .ok (.iadd, 1))
    (kk : W p l e R s m args below meth c H locs cells slots Q (F0 m (pc + 1) ls (.int z :: rest))) : W p l e R s m args below meth c H locs cells slots Q (F0 m pc ls (.int y :: .int x :: rest)) := by
  subst hz
  exact lv_iadd X.1.1 X.1.2.1 d kk
theorem f_isub (X : FX G p s m args meth c b nl ret own) {x y z : Int32} (hz : x - y = z) (d : decode b pc = .ok (.isub, 1))
    (kk : W p l e R s m args below meth c H locs cells slots Q (F0 m (pc + 1) ls (.int z :: rest))) : W p l e R s m args below meth c H locs cells slots Q (F0 m pc ls (.int y :: .int x :: rest)) := by
  subst hz
  exact lv_isub X.1.1 X.1.2.1 d kk
theorem f_imul (X : FX G p s m args meth c b nl ret own) {x y z : Int32} (hz : x * y = z) (d : decode b pc = .ok (.imul, 1))
    (kk : W p l e R s m args below meth c H locs cells slots Q (F0 m (pc + 1) ls (.int z :: rest))) : W p l e R s m args below meth c H locs cells slots Q (F0 m pc ls (.int y :: .int x :: rest)) := by
  subst hz
  exact lv_imul X.1.1 X.1.2.1 d kk
theorem f_mmax (X : FX G p s m args meth c b nl ret own) {idx : Nat} {x y z : Int32} (hz : (if x < y then y else x) = z) (hl : Cond.methodLink own idx Lib.Math.max.name ∈ TBG) (hls : ls.size = nl) (hR : 1 ≤ R.frames) (hlo : (rest.map fun v => v.category).sum + 13 ≤ R.locals) (hc : cells ≤ R.cells ∧ slots ≤ R.slots) (h1 : Cond.static Lib.Math.max.name ∈ TBG) (h2 : Cond.initialized "java/lang/Math" ∈ TBG) (h3 : Cond.code Lib.Math.max.name Lib.Math.max.code 2 (some .int) ∈ TBG) (d : decode b pc = .ok (.invokestatic idx, 3))
    (kk : W p l e R s m args below meth c H locs cells slots Q (F0 m (pc + 3) ls (.int z :: rest))) : W p l e R s m args below meth c H locs cells slots Q (F0 m pc ls (.int y :: .int x :: rest)) := by
  subst hz
  exact va_mmax X.1.1 X.1.2.1 (X.1.2.2.1.trans hls.symm) X.1.2.2.2.1 (X.1.2.2.2.2 _ hl) (X.1.2.2.2.2 _ h1) (X.1.2.2.2.2 _ h2) (X.1.2.2.2.2 _ h3) hR hlo hc.1 hc.2 d kk
theorem f_mmin (X : FX G p s m args meth c b nl ret own) {idx : Nat} {x y z : Int32} (hz : (if y < x then y else x) = z) (hl : Cond.methodLink own idx Lib.Math.min.name ∈ TBG) (hls : ls.size = nl) (hR : 1 ≤ R.frames) (hlo : (rest.map fun v => v.category).sum + 13 ≤ R.locals) (hc : cells ≤ R.cells ∧ slots ≤ R.slots) (h1 : Cond.static Lib.Math.min.name ∈ TBG) (h2 : Cond.initialized "java/lang/Math" ∈ TBG) (h3 : Cond.code Lib.Math.min.name Lib.Math.min.code 2 (some .int) ∈ TBG) (d : decode b pc = .ok (.invokestatic idx, 3))
    (kk : W p l e R s m args below meth c H locs cells slots Q (F0 m (pc + 3) ls (.int z :: rest))) : W p l e R s m args below meth c H locs cells slots Q (F0 m pc ls (.int y :: .int x :: rest)) := by
  subst hz
  exact va_mmin X.1.1 X.1.2.1 (X.1.2.2.1.trans hls.symm) X.1.2.2.2.1 (X.1.2.2.2.2 _ hl) (X.1.2.2.2.2 _ h1) (X.1.2.2.2.2 _ h2) (X.1.2.2.2.2 _ h3) hR hlo hc.1 hc.2 d kk
theorem f_mabs (X : FX G p s m args meth c b nl ret own) {idx : Nat} {x z : Int32} (hz : (if 0 ≤ x then x else 0 - x) = z) (hl : Cond.methodLink own idx Lib.Math.abs.name ∈ TBG) (hls : ls.size = nl) (hR : 1 ≤ R.frames) (hlo : (rest.map fun v => v.category).sum + 13 ≤ R.locals) (hc : cells ≤ R.cells ∧ slots ≤ R.slots) (h1 : Cond.static Lib.Math.abs.name ∈ TBG) (h2 : Cond.initialized "java/lang/Math" ∈ TBG) (h3 : Cond.code Lib.Math.abs.name Lib.Math.abs.code 1 (some .int) ∈ TBG) (d : decode b pc = .ok (.invokestatic idx, 3))
    (kk : W p l e R s m args below meth c H locs cells slots Q (F0 m (pc + 3) ls (.int z :: rest))) : W p l e R s m args below meth c H locs cells slots Q (F0 m pc ls (.int x :: rest)) := by
  subst hz
  exact va_mabs X.1.1 X.1.2.1 (X.1.2.2.1.trans hls.symm) X.1.2.2.2.1 (X.1.2.2.2.2 _ hl) (X.1.2.2.2.2 _ h1) (X.1.2.2.2.2 _ h2) (X.1.2.2.2.2 _ h3) hR hlo hc.1 hc.2 d kk
theorem f_copy (X : FX G p s m args meth c b nl ret own) (hh : HH G s σ H locs) {k0 k1 n0 n1 a0 a1 n idx : Nat} {x0 x1 xn : Int32} (hs0 : shp G k0 (σ k0) = .inl (gI G, n0, .inl (σ k0))) (hs1 : ∀ g, shp G k1 g = .inl (gI G, n1, .inl g)) (hk0 : k0 < 148) (hk1 : k1 < 148) (h0 : x0 = nI a0) (h1 : x1 = nI a1) (hn : xn = nI n) (b0 : a0 + n ≤ n0) (b1 : a1 + n ≤ n1) (c0 : n0 < 2 ^ 31) (c1 : n1 < 2 ^ 31) (hl : Cond.methodLink own idx arraycopyName ∈ TBG) (hls : ls.size = nl) (hR : 1 ≤ R.frames) (hlo : (rest.map fun v => v.category).sum + (nativeFrameWords "java/lang/System" "arraycopy" 5 + 11) ≤ R.locals) (q1 : Cond.native arraycopyName ∈ TBG) (q2 : Cond.static arraycopyName ∈ TBG) (q3 : Cond.initialized "java/lang/System" ∈ TBG) (d : decode b pc = .ok (.invokestatic idx, 3))
    (kk : ∀ (H1 : Heap) (locs1 : List Loc), HH G s (mrow σ k1 (va_cpy (σ k0) (σ k1) a0 a1 n)) H1 locs1 → W p l e R s m args below meth c H1 locs1 cells slots Q (F0 m (pc + 3) ls rest)) : W p l e R s m args below meth c H locs cells slots Q (F0 m pc ls (.int xn :: .int x1 :: .ref (gad G k1) :: .int x0 :: .ref (gad G k0) :: rest)) := by
  subst h0; subst h1; subst hn
  have e0 : (nI a0).toNatClampNeg = a0 := nI_clamp (by omega)
  have e1 : (nI a1).toNatClampNeg = a1 := nI_clamp (by omega)
  have en : (nI n).toNatClampNeg = n := nI_clamp (by omega)
  have hset := wl_set (G := G) (σ := σ) (τ := mrow σ k1 (va_cpy (σ k0) (σ k1) a0 a1 n)) (k := k1) (e := .inl (gI G, n1, .inl (va_cpy (σ k0) (σ k1) a0 a1 n))) (fun j hj => mrow_n hj) (by rw [mrow_s]; exact hs1 _)
  refine va_copyi (D := gD G) (tys := gtys G) (ty := .int) X.1.1 X.1.2.1 (X.1.2.2.1.trans hls.symm) X.1.2.2.2.1 (X.1.2.2.2.2 _ hl) (X.1.2.2.2.2 _ q1) (X.1.2.2.2.2 _ q2) (X.1.2.2.2.2 _ q3) X.2.2.2.2.1 (wl_P hh.1) (wl_D X.2.2.2.1) hh.2 k0 k1 0 0 (wl_at hk0 hs0) (wl_at hk1 (hs1 _)) rfl rfl rfl (nI_pos (by omega)) (nI_pos (by omega)) (nI_pos (by omega)) (by rw [e0, en]; exact b0) (by rw [e1, en]; exact b1) (fun _ _ => rfl) hR hlo d (fun H1 locs1 hP hD hS => ?_)
  rw [e0, e1, en, hset] at hP
  exact kk H1 locs1 ⟨wl_P' hP, hS⟩
theorem f_irem (X : FX G p s m args meth c b nl ret own) {x y z : Int32} (hy : ¬ y = 0) (hz : x - x / y * y = z) (d : decode b pc = .ok (.irem, 1))
    (kk : W p l e R s m args below meth c H locs cells slots Q (F0 m (pc + 1) ls (.int z :: rest))) : W p l e R s m args below meth c H locs cells slots Q (F0 m pc ls (.int y :: .int x :: rest)) := by
  subst hz
  exact lv_irem X.1.1 X.1.2.1 d hy kk
theorem f_idiv (X : FX G p s m args meth c b nl ret own) {x y z : Int32} (hy : ¬ y = 0) (hz : x / y = z) (d : decode b pc = .ok (.idiv, 1))
    (kk : W p l e R s m args below meth c H locs cells slots Q (F0 m (pc + 1) ls (.int z :: rest))) : W p l e R s m args below meth c H locs cells slots Q (F0 m pc ls (.int y :: .int x :: rest)) := by
  subst hz
  exact lv_idiv X.1.1 X.1.2.1 d hy kk
end BASE
