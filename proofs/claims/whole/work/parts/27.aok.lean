/-! every call keeps the bounds -/
theorem rdwz_ok {g : Nat → Nat} : ∀ {k : Nat}, (∀ j, j < k → okL g j = true) → ∀ i, rdw g k i ≤ 2 ∧ rdz g k i ≤ 1
  | 0, _, i => ⟨Nat.zero_le _, Nat.zero_le _⟩
  | k + 1, h, i => by
    have ih := rdwz_ok (fun j hj => h j (by omega)) (k := k) i
    by_cases e : g k = 45
    · rw [(rdn_d e).2.1, (rdn_d e).2.2]
      refine ⟨ih.1, ?_⟩
      show (if i + 1 = rdn g k then 1 else rdz g k i) ≤ 1
      split
      · omega
      · exact ih.2
    · rw [(rdn_f e).2.1, (rdn_f e).2.2]
      have h1 := okL_ne (h k (by omega)) e
      refine ⟨?_, ?_⟩
      · show (if i = rdn g k then g k - 48 else rdw g k i) ≤ 2
        split
        · omega
        · exact ih.1
      · show (if i = rdn g k then 0 else rdz g k i) ≤ 1
        split
        · omega
        · exact ih.2
theorem okT_e {g : Nat → Nat} {j : Nat} (h : okT g (2 * j) = true) : g (2 * j) - 48 ≤ 2 := by
  unfold okT at h
  rw [if_pos (by omega)] at h
  simp at h
  omega
theorem okT_o {g : Nat → Nat} {j : Nat} (h : okT g (2 * j + 1) = true) : g (2 * j + 1) - 48 ≤ 4 := by
  unfold okT at h
  rw [if_neg (by omega)] at h
  simp at h
  omega
theorem bset_ok {B : BKs} (h : BBd B) {q n : Nat} {w z : Nat → Nat} (h1 : q < 3 → n ≤ 9 ∧ ∀ i, i < n → w i ≤ 2 ∧ z i ≤ 1) (h2 : 3 ≤ q → n ≤ 11 ∧ ∀ i, i < n → w i ≤ 2 ∧ z i ≤ 4) : BBd (bset B q n w z) := by
  refine ⟨fun k hk => ?_, fun k hk1 hk2 => ?_, fun k hk => h.2.2 k hk⟩
  · by_cases e : k = q
    · subst e
      have ea : bN (bset B k n w z) k = n := if_pos rfl
      have eb : bW (bset B k n w z) k = w := if_pos rfl
      have ec : bZ (bset B k n w z) k = z := if_pos rfl
      rw [ea, eb, ec]
      exact h1 hk
    · have ea : bN (bset B q n w z) k = bN B k := if_neg e
      have eb : bW (bset B q n w z) k = bW B k := if_neg e
      have ec : bZ (bset B q n w z) k = bZ B k := if_neg e
      rw [ea, eb, ec]
      exact h.1 k hk
  · by_cases e : k = q
    · subst e
      have ea : bN (bset B k n w z) k = n := if_pos rfl
      have eb : bW (bset B k n w z) k = w := if_pos rfl
      have ec : bZ (bset B k n w z) k = z := if_pos rfl
      rw [ea, eb, ec]
      exact h2 hk1
    · have ea : bN (bset B q n w z) k = bN B k := if_neg e
      have eb : bW (bset B q n w z) k = bW B k := if_neg e
      have ec : bZ (bset B q n w z) k = bZ B k := if_neg e
      rw [ea, eb, ec]
      exact h.2.1 k hk1 hk2
theorem ok_say {a : AS} (h : AOK a) (x : Int32) : AOK (ns_say x a) := by
  unfold ns_say
  split
  · rename_i h1
    split
    · exact h
    · rename_i h2
      obtain ⟨q1, q2, q3, q4⟩ := h
      refine ⟨?_, fun i hi => ?_, q3, q4⟩
      · show apn a + 1 ≤ 22; omega
      · show 33 ≤ (if i = apn a then ix x else apg a i) ∧ (if i = apn a then ix x else apg a i) ≤ 126
        obtain ⟨k, a1, a2, rfl⟩ := inB_of h1 (by omega)
        rw [ix_nI (by omega)]
        by_cases e : i = apn a
        · rw [if_pos e]; exact ⟨a1, a2⟩
        · rw [if_neg e]
          have hi' : i < apn a + 1 := hi
          exact q2 i (by omega)
  · exact h
theorem ok_wipe {a : AS} (h : AOK a) : AOK (ns_wipe a) := ⟨Nat.zero_le _, fun i hi => absurd hi (Nat.not_lt_zero i), h.2.2.1, h.2.2.2⟩
theorem ok_line {a : AS} (h : AOK a) (x : Int32) : AOK (ns_line x a) := by
  unfold ns_line
  split
  · rename_i h1
    split
    · rename_i h2
      have h3 := lans_ok h.1 h2
      have h4 := rdn_ok h3
      obtain ⟨k, -, a2, rfl⟩ := inB_of h1 (by omega)
      rw [ix_nI (by omega)]
      exact ⟨Nat.zero_le _, fun i hi => absurd hi (Nat.not_lt_zero i), bset_ok h.2.2.1 (fun _ => ⟨h4, fun i _ => rdwz_ok h3 i⟩) (fun h9 => by omega), h.2.2.2⟩
    · exact h
  · exact h
theorem ok_tune {a : AS} (h : AOK a) (x : Int32) : AOK (ns_tune x a) := by
  unfold ns_tune
  split
  · rename_i h1
    split
    · rename_i h2
      have h3 := tans_ok h.1 h2
      have h0 := h.1
      refine ⟨Nat.zero_le _, fun i hi => absurd hi (Nat.not_lt_zero i), bset_ok h.2.2.1 (fun h9 => by omega) (fun _ => ⟨by omega, fun i hi => ⟨okT_e (h3.1 _ (by omega)), okT_o (h3.1 _ (by omega))⟩⟩), h.2.2.2⟩
    · exact h
  · exact h
theorem ok_rule {a : AS} (h : AOK a) (x v : Int32) : AOK (ns_rule x v a) := by
  unfold ns_rule
  split
  · rename_i h1
    obtain ⟨k, -, a2, rfl⟩ := inB_of h1.2 (by omega)
    rw [ix_nI (by omega)]
    obtain ⟨q1, q2, ⟨q3, q4, q5⟩, q6⟩ := h
    refine ⟨q1, q2, ⟨q3, q4, fun j hj => ?_⟩, q6⟩
    show (if j = ix x then k else bU (aB a) j) ≤ 9
    split
    · exact a2
    · exact q5 j hj
  · exact h
theorem ok_image {a : AS} (h : AOK a) (x : Int32) : AOK (ns_image x a) := by
  unfold ns_image
  split
  · obtain ⟨q1, q2, q3, q4⟩ := h
    refine ⟨q1, q2, q3, fun k hk h9 => ?_⟩
    show BBd (if k = ix x then aB a else aI a k)
    by_cases e : k = ix x
    · rw [if_pos e]; exact q3
    · rw [if_neg e]
      have h8 : (if k = ix x then true else aK a k) = true := h9
      rw [if_neg e] at h8
      exact q4 k hk h8
  · exact h
theorem ok_restore {a : AS} (h : AOK a) (x : Int32) : AOK (ns_restore x a) := by
  unfold ns_restore
  split
  · rename_i h1
    split
    · rename_i h2
      obtain ⟨k, -, a2, rfl⟩ := inB_of h1 (by omega)
      rw [ix_nI (by omega)] at h2 ⊢
      obtain ⟨q1, q2, q3, q4⟩ := h
      exact ⟨q1, q2, q4 k (by omega) h2, q4⟩
    · exact h
  · exact h
