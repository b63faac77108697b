/-! THE CLAIM OUT OF ONE WALK OF THE LAW'S BODY. Your part is whole_start (and what it stands on); all else here is the same for every law, but numbers. -/
def R_law : String := "TuneWordsLaw"
def lw_P (b : Addr) (xs : List Int32) (args : Array Value) (s : State) : Prop := args = #[.ref b] ∧ s.IntsAt b xs ∧ xs.length ≤ 2560 ∧ (Jvm.Cond.and given_1 narrow_1).before args s = true
def lw_Q (_ : Array Value) (s : State) (o : Outcome) (t : State) : Prop := o = .returned (some (.int 1)) ∧ Framed s o t [] 600000 7302250
def lw_Z (below : List Frame) (a : Array Value) (s : State) : State → Prop := fun t => ∃ o, t.status = .running ∧ Ended t below o ∧ lw_Q a s o t
/-- the law's own end, with 1 on the stack, nothing written that was there before, its room as the claim has it -/
theorem lw_ret {p : Program} {l : Launch} {e : Env} {s : State} {m : MethodId} {below : List Frame} {meth : Method} {c : Code} {b : Nat} (hx : p.tables.exec = Jvm.exec) (hb : c.code = code) (hr : meth.sig.returnType = ret) (hlocks : meth.locks = false) {pc : Nat} {H : Heap} {ls : Array Slot} (hdg : decode code pc = .ok (.ireturn, 1)) : W p l e room_1 s m #[Value.ref b] below meth c H [] 600000 7302250 (lw_Z below #[Value.ref b] s) (F0 m pc ls [.int 1]) := by
  intro T hT X
  obtain ⟨fs, hret, hrun, hended, hW, hframe⟩ := X.leave (v := some (.int 1)) (hlocks := hlocks) (fun h => by rw [hr] at h; cases h)
  have hmeth' : T.vm.method? m = some meth := X.method'
  refine ⟨T.setFrames fs, ?_, .returned (some (.int 1)), hrun, hended, rfl, ⟨_, rfl⟩, hW, hframe⟩
  jvm_step X.here [X.here.top, hx, hb, hdg, hmeth', hr, ret, narrow_b1]
  (try refine ⟨rfl, ?_⟩); (try refine ⟨rfl, ?_⟩)
  first | (intro acts; rw [hret _ acts rfl rfl rfl]) | rw [hret _ _ rfl rfl rfl]
  exact Steps.refl _
/-- what holds at the law's entry: the machine, the code, the tables' words (any of lw_tbl by 'hts w (by decide +kernel)'), the script of L ints xs at the cell b, what the Statement gives of the start (any of its parts by flat_of_before) -/
def lw_At (p : Program) (s : State) (m : MethodId) (meth : Method) (c : Code) (b L : Nat) (xs : Nat → Int32) : Prop :=
  p.tables.exec = Jvm.exec ∧ c.code = code ∧ meth.sig.returnType = ret ∧ c.maxLocals = 4 ∧ s.vm.findClass R_law = some m.cls ∧ (∀ w ∈ lw_tbl, w.before #[Value.ref b] s = true) ∧ va_X b L xs s s.heap ∧ b < s.heap.size ∧ meth.locks = false ∧ (Jvm.Cond.and given_1 narrow_1).before #[Value.ref b] s = true
theorem and31 (x : Int32) : ∃ n, n < 32 ∧ x &&& nI 31 = nI n := by
  refine ⟨(x.toBitVec &&& 31#32).toNat, ?_, ?_⟩
  · rw [BitVec.toNat_and]
    exact Nat.lt_of_le_of_lt Nat.and_le_right (by decide)
  · apply Int32.toBitVec_inj.mp
    show (x.toBitVec &&& (nI 31).toBitVec) = BitVec.ofNat 32 _
    rw [BitVec.ofNat_toNat, BitVec.setWidth_eq]
    rfl
theorem l5 {L i : Nat} (hL : L < 5) (hi : i < 2 ^ 30) : nI L - nI 5 < nI i := by
  rw [Int32.lt_iff_toInt_lt, pk_sub_toInt (by omega) (by omega), nI_toInt (by omega)]
  omega
section LAW
variable {p : Program} {l : Launch} {e : Env} {s : State} {m : MethodId} {below : List Frame} {meth : Method} {c : Code} {H : Heap} {locs : List Loc} {G : GG} {σ : Mem} {ls : Array Slot} {b L : Nat} {xs : Nat → Int32} {a : AS}
/-- what holds all along the law's loop -/
def LX (G : GG) (p : Program) (s : State) (m : MethodId) (b : Nat) (meth : Method) (c : Code) (L : Nat) (xs : Nat → Int32) : Prop := FX G p s m #[Value.ref b] meth c cL_law 4 ret RL ∧ va_X b L xs s s.heap ∧ b < s.heap.size ∧ ¬ gA G b ∧ L ≤ 2560
abbrev WL (p : Program) (l : Launch) (e : Env) (s : State) (m : MethodId) (b : Nat) (below : List Frame) (meth : Method) (c : Code) (H : Heap) (locs : List Loc) (g : JFrame) : Prop := W p l e room_1 s m #[Value.ref b] below meth c H locs 600000 7302250 (lw_Z below #[Value.ref b] s) g
abbrev lvL (G : GG) (b i : Nat) : List (Nat × Value) := [(3, .int (nI i)), (2, .ref (gad G 134)), (1, .ref (gad G 81)), (0, .ref b)]
def NX (l : Launch) (G : GG) (p : Program) (e : Env) (s : State) (m : MethodId) (b : Nat) (below : List Frame) (meth : Method) (c : Code) (i : Nat) : Prop := ∀ (a : AS) (σ : Mem) (ls : Array Slot) (H : Heap) (locs : List Loc), AOK a → RC σ a → RM σ a → lv_has ls 4 (lvL G b i) → HH G s σ H locs → WL p l e s m b below meth c H locs (F0 m 721 ls [])
theorem f_sld {j pc : Nat} {rest : List Value} {x : Int32} (Y : LX G p s m b meth c L xs) (hh : HH G s σ H locs) (hx : x = nI j) (hj : j < L) (d : decode cL_law pc = .ok (.iaload, 1))
    (kk : WL p l e s m b below meth c H locs (F0 m (pc + 1) ls (.int (xs j) :: rest))) : WL p l e s m b below meth c H locs (F0 m pc ls (.int x :: .ref b :: rest)) := by
  subst hx
  have hL := Y.2.2.2.2
  refine va_sld Y.1.x Y.1.b Y.2.1 Y.2.2.1 Y.2.2.2.1 hh.2 (vp_in_nI hj (by omega)) d ?_
  rw [nI_clamp (show j < 2 ^ 31 by omega)]
  exact kk
set_option maxHeartbeats 4000000 in
set_option maxRecDepth 100000 in
theorem law_say (Y : LX G p s m b meth c L xs) {i : Nat} (hi : i + 5 ≤ L) (hA : AOK a) (hC : RC σ a) (hM : RM σ a) (hl : lv_has ls 4 (lvL G b i)) (hh : HH G s σ H locs) (kk : NX l G p e s m b below meth c i) : WL p l e s m b below meth c H locs (F0 m 124 ls []) := by
  have X := Y.1
  have hL := Y.2.2.2.2
  refine lv_aload_n X.x X.b dL_law_124 rfl (lv_at hl 2 rfl) ?_
  refine lv_aload_n X.x X.b dL_law_125 rfl (lv_at hl 3 rfl) ?_
  refine lv_iload_n X.x X.b dL_law_126 rfl (lv_at hl 0 rfl) ?_
  refine lv_iconst (v := nI 1) X.x X.b dL_law_127 (by decide) ?_
  refine f_iadd X (z := nI (i + 1)) (nI_add i 1) dL_law_128 ?_
  refine f_sld Y hh (j := i + 1) rfl (by omega) dL_law_129 ?_
  refine f_calli X hh (c4_say l G (xs (i + 1)) hA hC) mf_yX4_say ki_yX4_say kl_yX4_say km_L_13 (sh_81 G _) (by decide) rfl rfl hl.1 [] rfl (Nat.le_of_ble_eq_true rfl) ⟨by decide, by decide⟩ ⟨Nat.le_of_ble_eq_true rfl, Nat.le_of_ble_eq_true rfl⟩ dL_law_130 (fun r τ4 H locs hq hh => ?_)
  obtain ⟨rfl, hC1, hf1⟩ := hq
  have hM1 := hM.kc hf1
  refine lv_aload_n X.x X.b dL_law_133 rfl (lv_at hl 1 rfl) ?_
  refine lv_aload_n X.x X.b dL_law_134 rfl (lv_at hl 3 rfl) ?_
  refine lv_iload_n X.x X.b dL_law_135 rfl (lv_at hl 0 rfl) ?_
  refine lv_iconst (v := nI 1) X.x X.b dL_law_136 (by decide) ?_
  refine f_iadd X (z := nI (i + 1)) (nI_add i 1) dL_law_137 ?_
  refine f_sld Y hh (j := i + 1) rfl (by omega) dL_law_138 ?_
  refine f_calli X hh (c5_say l G (xs (i + 1)) hA hM1) mf_yX5_say ki_yX5_say kl_yX5_say km_L_17 (sh_134 G _) (by decide) rfl rfl hl.1 [.int (sp_say (xs (i + 1)) a)] rfl (Nat.le_of_ble_eq_true rfl) ⟨by decide, by decide⟩ ⟨Nat.le_of_ble_eq_true rfl, Nat.le_of_ble_eq_true rfl⟩ dL_law_139 (fun r τ5 H locs hq hh => ?_)
  obtain ⟨rfl, hM2, hf2⟩ := hq
  refine lv_icmp_eq (tgt := 721) X.x X.b dL_law_142 (by decide) (fun _ => ?_) (fun h9 => absurd rfl h9)
  exact kk _ _ ls H locs (ok_say hA _) (hC1.km hf2) hM2 hl hh
set_option maxHeartbeats 4000000 in
set_option maxRecDepth 100000 in
theorem law_wipe (Y : LX G p s m b meth c L xs) {i : Nat} (hi : i + 5 ≤ L) (hA : AOK a) (hC : RC σ a) (hM : RM σ a) (hl : lv_has ls 4 (lvL G b i)) (hh : HH G s σ H locs) (kk : NX l G p e s m b below meth c i) : WL p l e s m b below meth c H locs (F0 m 147 ls []) := by
  have X := Y.1
  have hL := Y.2.2.2.2
  refine lv_aload_n X.x X.b dL_law_147 rfl (lv_at hl 2 rfl) ?_
  refine f_calli X hh (c4_wipe l G  hA hC) mf_yX4_wipe ki_yX4_wipe kl_yX4_wipe km_L_18 (sh_81 G _) (by decide) rfl rfl hl.1 [] rfl (Nat.le_of_ble_eq_true rfl) ⟨by decide, by decide⟩ ⟨Nat.le_of_ble_eq_true rfl, Nat.le_of_ble_eq_true rfl⟩ dL_law_148 (fun r τ4 H locs hq hh => ?_)
  obtain ⟨rfl, hC1, hf1⟩ := hq
  have hM1 := hM.kc hf1
  refine lv_aload_n X.x X.b dL_law_151 rfl (lv_at hl 1 rfl) ?_
  refine f_calli X hh (c5_wipe l G  hA hM1) mf_yX5_wipe ki_yX5_wipe kl_yX5_wipe km_L_22 (sh_134 G _) (by decide) rfl rfl hl.1 [.int (nI (apn a))] rfl (Nat.le_of_ble_eq_true rfl) ⟨by decide, by decide⟩ ⟨Nat.le_of_ble_eq_true rfl, Nat.le_of_ble_eq_true rfl⟩ dL_law_152 (fun r τ5 H locs hq hh => ?_)
  obtain ⟨rfl, hM2, hf2⟩ := hq
  refine lv_icmp_eq (tgt := 721) X.x X.b dL_law_155 (by decide) (fun _ => ?_) (fun h9 => absurd rfl h9)
  exact kk _ _ ls H locs (ok_wipe hA) (hC1.km hf2) hM2 hl hh
set_option maxHeartbeats 4000000 in
set_option maxRecDepth 100000 in
theorem law_fault (Y : LX G p s m b meth c L xs) {i : Nat} (hi : i + 5 ≤ L) (hA : AOK a) (hC : RC σ a) (hM : RM σ a) (hl : lv_has ls 4 (lvL G b i)) (hh : HH G s σ H locs) (kk : NX l G p e s m b below meth c i) : WL p l e s m b below meth c H locs (F0 m 160 ls []) := by
  have X := Y.1
  have hL := Y.2.2.2.2
  refine lv_aload_n X.x X.b dL_law_160 rfl (lv_at hl 2 rfl) ?_
  refine lv_aload_n X.x X.b dL_law_161 rfl (lv_at hl 3 rfl) ?_
  refine lv_iload_n X.x X.b dL_law_162 rfl (lv_at hl 0 rfl) ?_
  refine lv_iconst (v := nI 1) X.x X.b dL_law_163 (by decide) ?_
  refine f_iadd X (z := nI (i + 1)) (nI_add i 1) dL_law_164 ?_
  refine f_sld Y hh (j := i + 1) rfl (by omega) dL_law_165 ?_
  refine f_calli X hh (c4_fault l G (xs (i + 1)) hA hC) mf_yX4_fault ki_yX4_fault kl_yX4_fault km_L_23 (sh_81 G _) (by decide) rfl rfl hl.1 [] rfl (Nat.le_of_ble_eq_true rfl) ⟨by decide, by decide⟩ ⟨Nat.le_of_ble_eq_true rfl, Nat.le_of_ble_eq_true rfl⟩ dL_law_166 (fun r τ4 H locs hq hh => ?_)
  obtain ⟨rfl, hC1, hf1⟩ := hq
  have hM1 := hM.kc hf1
  refine lv_aload_n X.x X.b dL_law_169 rfl (lv_at hl 1 rfl) ?_
  refine lv_aload_n X.x X.b dL_law_170 rfl (lv_at hl 3 rfl) ?_
  refine lv_iload_n X.x X.b dL_law_171 rfl (lv_at hl 0 rfl) ?_
  refine lv_iconst (v := nI 1) X.x X.b dL_law_172 (by decide) ?_
  refine f_iadd X (z := nI (i + 1)) (nI_add i 1) dL_law_173 ?_
  refine f_sld Y hh (j := i + 1) rfl (by omega) dL_law_174 ?_
  refine f_calli X hh (c5_fault l G (xs (i + 1)) hA hM1) mf_yX5_fault ki_yX5_fault kl_yX5_fault km_L_26 (sh_134 G _) (by decide) rfl rfl hl.1 [.int (sp_fault (xs (i + 1)) a)] rfl (Nat.le_of_ble_eq_true rfl) ⟨by decide, by decide⟩ ⟨Nat.le_of_ble_eq_true rfl, Nat.le_of_ble_eq_true rfl⟩ dL_law_175 (fun r τ5 H locs hq hh => ?_)
  obtain ⟨rfl, hM2, hf2⟩ := hq
  refine lv_icmp_eq (tgt := 721) X.x X.b dL_law_178 (by decide) (fun _ => ?_) (fun h9 => absurd rfl h9)
  exact kk _ _ ls H locs (hA) (hC1.km hf2) hM2 hl hh
set_option maxHeartbeats 4000000 in
set_option maxRecDepth 100000 in
theorem law_line (Y : LX G p s m b meth c L xs) {i : Nat} (hi : i + 5 ≤ L) (hA : AOK a) (hC : RC σ a) (hM : RM σ a) (hl : lv_has ls 4 (lvL G b i)) (hh : HH G s σ H locs) (kk : NX l G p e s m b below meth c i) : WL p l e s m b below meth c H locs (F0 m 183 ls []) := by
  have X := Y.1
  have hL := Y.2.2.2.2
  refine lv_aload_n X.x X.b dL_law_183 rfl (lv_at hl 2 rfl) ?_
  refine lv_aload_n X.x X.b dL_law_184 rfl (lv_at hl 3 rfl) ?_
  refine lv_iload_n X.x X.b dL_law_185 rfl (lv_at hl 0 rfl) ?_
  refine lv_iconst (v := nI 1) X.x X.b dL_law_186 (by decide) ?_
  refine f_iadd X (z := nI (i + 1)) (nI_add i 1) dL_law_187 ?_
  refine f_sld Y hh (j := i + 1) rfl (by omega) dL_law_188 ?_
  refine f_calli X hh (c4_line l G (xs (i + 1)) hA hC) mf_yX4_line ki_yX4_line kl_yX4_line km_L_27 (sh_81 G _) (by decide) rfl rfl hl.1 [] rfl (Nat.le_of_ble_eq_true rfl) ⟨by decide, by decide⟩ ⟨Nat.le_of_ble_eq_true rfl, Nat.le_of_ble_eq_true rfl⟩ dL_law_189 (fun r τ4 H locs hq hh => ?_)
  obtain ⟨rfl, hC1, hf1⟩ := hq
  have hM1 := hM.kc hf1
  refine lv_aload_n X.x X.b dL_law_192 rfl (lv_at hl 1 rfl) ?_
  refine lv_aload_n X.x X.b dL_law_193 rfl (lv_at hl 3 rfl) ?_
  refine lv_iload_n X.x X.b dL_law_194 rfl (lv_at hl 0 rfl) ?_
  refine lv_iconst (v := nI 1) X.x X.b dL_law_195 (by decide) ?_
  refine f_iadd X (z := nI (i + 1)) (nI_add i 1) dL_law_196 ?_
  refine f_sld Y hh (j := i + 1) rfl (by omega) dL_law_197 ?_
  refine f_calli X hh (c5_line l G (xs (i + 1)) hA hM1) mf_yX5_line ki_yX5_line kl_yX5_line km_L_30 (sh_134 G _) (by decide) rfl rfl hl.1 [.int (sp_line (xs (i + 1)) a)] rfl (Nat.le_of_ble_eq_true rfl) ⟨by decide, by decide⟩ ⟨Nat.le_of_ble_eq_true rfl, Nat.le_of_ble_eq_true rfl⟩ dL_law_198 (fun r τ5 H locs hq hh => ?_)
  obtain ⟨rfl, hM2, hf2⟩ := hq
  refine lv_icmp_eq (tgt := 721) X.x X.b dL_law_201 (by decide) (fun _ => ?_) (fun h9 => absurd rfl h9)
  exact kk _ _ ls H locs (ok_line hA _) (hC1.km hf2) hM2 hl hh
set_option maxHeartbeats 4000000 in
set_option maxRecDepth 100000 in
theorem law_tune (Y : LX G p s m b meth c L xs) {i : Nat} (hi : i + 5 ≤ L) (hA : AOK a) (hC : RC σ a) (hM : RM σ a) (hl : lv_has ls 4 (lvL G b i)) (hh : HH G s σ H locs) (kk : NX l G p e s m b below meth c i) : WL p l e s m b below meth c H locs (F0 m 206 ls []) := by
  have X := Y.1
  have hL := Y.2.2.2.2
  refine lv_aload_n X.x X.b dL_law_206 rfl (lv_at hl 2 rfl) ?_
  refine lv_aload_n X.x X.b dL_law_207 rfl (lv_at hl 3 rfl) ?_
  refine lv_iload_n X.x X.b dL_law_208 rfl (lv_at hl 0 rfl) ?_
  refine lv_iconst (v := nI 1) X.x X.b dL_law_209 (by decide) ?_
  refine f_iadd X (z := nI (i + 1)) (nI_add i 1) dL_law_210 ?_
  refine f_sld Y hh (j := i + 1) rfl (by omega) dL_law_211 ?_
  refine f_calli X hh (c4_tune l G (xs (i + 1)) hA hC) mf_yX4_tune ki_yX4_tune kl_yX4_tune km_L_31 (sh_81 G _) (by decide) rfl rfl hl.1 [] rfl (Nat.le_of_ble_eq_true rfl) ⟨by decide, by decide⟩ ⟨Nat.le_of_ble_eq_true rfl, Nat.le_of_ble_eq_true rfl⟩ dL_law_212 (fun r τ4 H locs hq hh => ?_)
  obtain ⟨rfl, hC1, hf1⟩ := hq
  have hM1 := hM.kc hf1
  refine lv_aload_n X.x X.b dL_law_215 rfl (lv_at hl 1 rfl) ?_
  refine lv_aload_n X.x X.b dL_law_216 rfl (lv_at hl 3 rfl) ?_
  refine lv_iload_n X.x X.b dL_law_217 rfl (lv_at hl 0 rfl) ?_
  refine lv_iconst (v := nI 1) X.x X.b dL_law_218 (by decide) ?_
  refine f_iadd X (z := nI (i + 1)) (nI_add i 1) dL_law_219 ?_
  refine f_sld Y hh (j := i + 1) rfl (by omega) dL_law_220 ?_
  refine f_calli X hh (c5_tune l G (xs (i + 1)) hA hM1) mf_yX5_tune ki_yX5_tune kl_yX5_tune km_L_34 (sh_134 G _) (by decide) rfl rfl hl.1 [.int (sp_tune (xs (i + 1)) a)] rfl (Nat.le_of_ble_eq_true rfl) ⟨by decide, by decide⟩ ⟨Nat.le_of_ble_eq_true rfl, Nat.le_of_ble_eq_true rfl⟩ dL_law_221 (fun r τ5 H locs hq hh => ?_)
  obtain ⟨rfl, hM2, hf2⟩ := hq
  refine lv_icmp_eq (tgt := 721) X.x X.b dL_law_224 (by decide) (fun _ => ?_) (fun h9 => absurd rfl h9)
  exact kk _ _ ls H locs (ok_tune hA _) (hC1.km hf2) hM2 hl hh
set_option maxHeartbeats 4000000 in
set_option maxRecDepth 100000 in
theorem law_rule (Y : LX G p s m b meth c L xs) {i : Nat} (hi : i + 5 ≤ L) (hA : AOK a) (hC : RC σ a) (hM : RM σ a) (hl : lv_has ls 4 (lvL G b i)) (hh : HH G s σ H locs) (kk : NX l G p e s m b below meth c i) : WL p l e s m b below meth c H locs (F0 m 229 ls []) := by
  have X := Y.1
  have hL := Y.2.2.2.2
  refine lv_aload_n X.x X.b dL_law_229 rfl (lv_at hl 2 rfl) ?_
  refine lv_aload_n X.x X.b dL_law_230 rfl (lv_at hl 3 rfl) ?_
  refine lv_iload_n X.x X.b dL_law_231 rfl (lv_at hl 0 rfl) ?_
  refine lv_iconst (v := nI 1) X.x X.b dL_law_232 (by decide) ?_
  refine f_iadd X (z := nI (i + 1)) (nI_add i 1) dL_law_233 ?_
  refine f_sld Y hh (j := i + 1) rfl (by omega) dL_law_234 ?_
  refine lv_aload_n X.x X.b dL_law_235 rfl (lv_at hl 3 rfl) ?_
  refine lv_iload_n X.x X.b dL_law_236 rfl (lv_at hl 0 rfl) ?_
  refine lv_iconst (v := nI 2) X.x X.b dL_law_237 (by decide) ?_
  refine f_iadd X (z := nI (i + 2)) (nI_add i 2) dL_law_238 ?_
  refine f_sld Y hh (j := i + 2) rfl (by omega) dL_law_239 ?_
  refine f_calli X hh (c4_rule l G (xs (i + 1)) (xs (i + 2)) hA hC) mf_yX4_rule ki_yX4_rule kl_yX4_rule km_L_35 (sh_81 G _) (by decide) rfl rfl hl.1 [] rfl (Nat.le_of_ble_eq_true rfl) ⟨by decide, by decide⟩ ⟨Nat.le_of_ble_eq_true rfl, Nat.le_of_ble_eq_true rfl⟩ dL_law_240 (fun r τ4 H locs hq hh => ?_)
  obtain ⟨rfl, hC1, hf1⟩ := hq
  have hM1 := hM.kc hf1
  refine lv_aload_n X.x X.b dL_law_243 rfl (lv_at hl 1 rfl) ?_
  refine lv_aload_n X.x X.b dL_law_244 rfl (lv_at hl 3 rfl) ?_
  refine lv_iload_n X.x X.b dL_law_245 rfl (lv_at hl 0 rfl) ?_
  refine lv_iconst (v := nI 1) X.x X.b dL_law_246 (by decide) ?_
  refine f_iadd X (z := nI (i + 1)) (nI_add i 1) dL_law_247 ?_
  refine f_sld Y hh (j := i + 1) rfl (by omega) dL_law_248 ?_
  refine lv_aload_n X.x X.b dL_law_249 rfl (lv_at hl 3 rfl) ?_
  refine lv_iload_n X.x X.b dL_law_250 rfl (lv_at hl 0 rfl) ?_
  refine lv_iconst (v := nI 2) X.x X.b dL_law_251 (by decide) ?_
  refine f_iadd X (z := nI (i + 2)) (nI_add i 2) dL_law_252 ?_
  refine f_sld Y hh (j := i + 2) rfl (by omega) dL_law_253 ?_
  refine f_calli X hh (c5_rule l G (xs (i + 1)) (xs (i + 2)) hA hM1) mf_yX5_rule ki_yX5_rule kl_yX5_rule km_L_39 (sh_134 G _) (by decide) rfl rfl hl.1 [.int (sp_rule (xs (i + 1)) (xs (i + 2)) a)] rfl (Nat.le_of_ble_eq_true rfl) ⟨by decide, by decide⟩ ⟨Nat.le_of_ble_eq_true rfl, Nat.le_of_ble_eq_true rfl⟩ dL_law_254 (fun r τ5 H locs hq hh => ?_)
  obtain ⟨rfl, hM2, hf2⟩ := hq
  refine lv_icmp_eq (tgt := 721) X.x X.b dL_law_257 (by decide) (fun _ => ?_) (fun h9 => absurd rfl h9)
  exact kk _ _ ls H locs (ok_rule hA _ _) (hC1.km hf2) hM2 hl hh
set_option maxHeartbeats 4000000 in
set_option maxRecDepth 100000 in
theorem law_syllable (Y : LX G p s m b meth c L xs) {i : Nat} (hi : i + 5 ≤ L) (hA : AOK a) (hC : RC σ a) (hM : RM σ a) (hl : lv_has ls 4 (lvL G b i)) (hh : HH G s σ H locs) (kk : NX l G p e s m b below meth c i) : WL p l e s m b below meth c H locs (F0 m 262 ls []) := by
  have X := Y.1
  have hL := Y.2.2.2.2
  refine lv_aload_n X.x X.b dL_law_262 rfl (lv_at hl 2 rfl) ?_
  refine lv_aload_n X.x X.b dL_law_263 rfl (lv_at hl 3 rfl) ?_
  refine lv_iload_n X.x X.b dL_law_264 rfl (lv_at hl 0 rfl) ?_
  refine lv_iconst (v := nI 1) X.x X.b dL_law_265 (by decide) ?_
  refine f_iadd X (z := nI (i + 1)) (nI_add i 1) dL_law_266 ?_
  refine f_sld Y hh (j := i + 1) rfl (by omega) dL_law_267 ?_
  refine lv_aload_n X.x X.b dL_law_268 rfl (lv_at hl 3 rfl) ?_
  refine lv_iload_n X.x X.b dL_law_269 rfl (lv_at hl 0 rfl) ?_
  refine lv_iconst (v := nI 2) X.x X.b dL_law_270 (by decide) ?_
  refine f_iadd X (z := nI (i + 2)) (nI_add i 2) dL_law_271 ?_
  refine f_sld Y hh (j := i + 2) rfl (by omega) dL_law_272 ?_
  refine lv_aload_n X.x X.b dL_law_273 rfl (lv_at hl 3 rfl) ?_
  refine lv_iload_n X.x X.b dL_law_274 rfl (lv_at hl 0 rfl) ?_
  refine lv_iconst (v := nI 3) X.x X.b dL_law_275 (by decide) ?_
  refine f_iadd X (z := nI (i + 3)) (nI_add i 3) dL_law_276 ?_
  refine f_sld Y hh (j := i + 3) rfl (by omega) dL_law_277 ?_
  refine f_calli X hh (c4_syllable l G (xs (i + 1)) (xs (i + 2)) (xs (i + 3)) hA hC) mf_yX4_syllable ki_yX4_syllable kl_yX4_syllable km_L_40 (sh_81 G _) (by decide) rfl rfl hl.1 [] rfl (Nat.le_of_ble_eq_true rfl) ⟨by decide, by decide⟩ ⟨Nat.le_of_ble_eq_true rfl, Nat.le_of_ble_eq_true rfl⟩ dL_law_278 (fun r τ4 H locs hq hh => ?_)
  obtain ⟨rfl, hC1, hf1⟩ := hq
  have hM1 := hM.kc hf1
  refine lv_aload_n X.x X.b dL_law_281 rfl (lv_at hl 1 rfl) ?_
  refine lv_aload_n X.x X.b dL_law_282 rfl (lv_at hl 3 rfl) ?_
  refine lv_iload_n X.x X.b dL_law_283 rfl (lv_at hl 0 rfl) ?_
  refine lv_iconst (v := nI 1) X.x X.b dL_law_284 (by decide) ?_
  refine f_iadd X (z := nI (i + 1)) (nI_add i 1) dL_law_285 ?_
  refine f_sld Y hh (j := i + 1) rfl (by omega) dL_law_286 ?_
  refine lv_aload_n X.x X.b dL_law_287 rfl (lv_at hl 3 rfl) ?_
  refine lv_iload_n X.x X.b dL_law_288 rfl (lv_at hl 0 rfl) ?_
  refine lv_iconst (v := nI 2) X.x X.b dL_law_289 (by decide) ?_
  refine f_iadd X (z := nI (i + 2)) (nI_add i 2) dL_law_290 ?_
  refine f_sld Y hh (j := i + 2) rfl (by omega) dL_law_291 ?_
  refine lv_aload_n X.x X.b dL_law_292 rfl (lv_at hl 3 rfl) ?_
  refine lv_iload_n X.x X.b dL_law_293 rfl (lv_at hl 0 rfl) ?_
  refine lv_iconst (v := nI 3) X.x X.b dL_law_294 (by decide) ?_
  refine f_iadd X (z := nI (i + 3)) (nI_add i 3) dL_law_295 ?_
  refine f_sld Y hh (j := i + 3) rfl (by omega) dL_law_296 ?_
  refine f_calli X hh (c5_syllable l G (xs (i + 1)) (xs (i + 2)) (xs (i + 3)) hA hM1) mf_yX5_syllable ki_yX5_syllable kl_yX5_syllable km_L_44 (sh_134 G _) (by decide) rfl rfl hl.1 [.int (sp_syllable (xs (i + 1)) (xs (i + 2)) (xs (i + 3)) a)] rfl (Nat.le_of_ble_eq_true rfl) ⟨by decide, by decide⟩ ⟨Nat.le_of_ble_eq_true rfl, Nat.le_of_ble_eq_true rfl⟩ dL_law_297 (fun r τ5 H locs hq hh => ?_)
  obtain ⟨rfl, hM2, hf2⟩ := hq
  refine lv_icmp_eq (tgt := 721) X.x X.b dL_law_300 (by decide) (fun _ => ?_) (fun h9 => absurd rfl h9)
  exact kk _ _ ls H locs (hA) (hC1.km hf2) hM2 hl hh
set_option maxHeartbeats 4000000 in
set_option maxRecDepth 100000 in
theorem law_note (Y : LX G p s m b meth c L xs) {i : Nat} (hi : i + 5 ≤ L) (hA : AOK a) (hC : RC σ a) (hM : RM σ a) (hl : lv_has ls 4 (lvL G b i)) (hh : HH G s σ H locs) (kk : NX l G p e s m b below meth c i) : WL p l e s m b below meth c H locs (F0 m 305 ls []) := by
  have X := Y.1
  have hL := Y.2.2.2.2
  refine lv_aload_n X.x X.b dL_law_305 rfl (lv_at hl 2 rfl) ?_
  refine lv_aload_n X.x X.b dL_law_306 rfl (lv_at hl 3 rfl) ?_
  refine lv_iload_n X.x X.b dL_law_307 rfl (lv_at hl 0 rfl) ?_
  refine lv_iconst (v := nI 1) X.x X.b dL_law_308 (by decide) ?_
  refine f_iadd X (z := nI (i + 1)) (nI_add i 1) dL_law_309 ?_
  refine f_sld Y hh (j := i + 1) rfl (by omega) dL_law_310 ?_
  refine lv_aload_n X.x X.b dL_law_311 rfl (lv_at hl 3 rfl) ?_
  refine lv_iload_n X.x X.b dL_law_312 rfl (lv_at hl 0 rfl) ?_
  refine lv_iconst (v := nI 2) X.x X.b dL_law_313 (by decide) ?_
  refine f_iadd X (z := nI (i + 2)) (nI_add i 2) dL_law_314 ?_
  refine f_sld Y hh (j := i + 2) rfl (by omega) dL_law_315 ?_
  refine lv_aload_n X.x X.b dL_law_316 rfl (lv_at hl 3 rfl) ?_
  refine lv_iload_n X.x X.b dL_law_317 rfl (lv_at hl 0 rfl) ?_
  refine lv_iconst (v := nI 3) X.x X.b dL_law_318 (by decide) ?_
  refine f_iadd X (z := nI (i + 3)) (nI_add i 3) dL_law_319 ?_
  refine f_sld Y hh (j := i + 3) rfl (by omega) dL_law_320 ?_
  refine f_calli X hh (c4_note l G (xs (i + 1)) (xs (i + 2)) (xs (i + 3)) hA hC) mf_yX4_note ki_yX4_note kl_yX4_note km_L_45 (sh_81 G _) (by decide) rfl rfl hl.1 [] rfl (Nat.le_of_ble_eq_true rfl) ⟨by decide, by decide⟩ ⟨Nat.le_of_ble_eq_true rfl, Nat.le_of_ble_eq_true rfl⟩ dL_law_321 (fun r τ4 H locs hq hh => ?_)
  obtain ⟨rfl, hC1, hf1⟩ := hq
  have hM1 := hM.kc hf1
  refine lv_aload_n X.x X.b dL_law_324 rfl (lv_at hl 1 rfl) ?_
  refine lv_aload_n X.x X.b dL_law_325 rfl (lv_at hl 3 rfl) ?_
  refine lv_iload_n X.x X.b dL_law_326 rfl (lv_at hl 0 rfl) ?_
  refine lv_iconst (v := nI 1) X.x X.b dL_law_327 (by decide) ?_
  refine f_iadd X (z := nI (i + 1)) (nI_add i 1) dL_law_328 ?_
  refine f_sld Y hh (j := i + 1) rfl (by omega) dL_law_329 ?_
  refine lv_aload_n X.x X.b dL_law_330 rfl (lv_at hl 3 rfl) ?_
  refine lv_iload_n X.x X.b dL_law_331 rfl (lv_at hl 0 rfl) ?_
  refine lv_iconst (v := nI 2) X.x X.b dL_law_332 (by decide) ?_
  refine f_iadd X (z := nI (i + 2)) (nI_add i 2) dL_law_333 ?_
  refine f_sld Y hh (j := i + 2) rfl (by omega) dL_law_334 ?_
  refine lv_aload_n X.x X.b dL_law_335 rfl (lv_at hl 3 rfl) ?_
  refine lv_iload_n X.x X.b dL_law_336 rfl (lv_at hl 0 rfl) ?_
  refine lv_iconst (v := nI 3) X.x X.b dL_law_337 (by decide) ?_
  refine f_iadd X (z := nI (i + 3)) (nI_add i 3) dL_law_338 ?_
  refine f_sld Y hh (j := i + 3) rfl (by omega) dL_law_339 ?_
  refine f_calli X hh (c5_note l G (xs (i + 1)) (xs (i + 2)) (xs (i + 3)) hA hM1) mf_yX5_note ki_yX5_note kl_yX5_note km_L_48 (sh_134 G _) (by decide) rfl rfl hl.1 [.int (sp_note (xs (i + 1)) (xs (i + 2)) (xs (i + 3)) a)] rfl (Nat.le_of_ble_eq_true rfl) ⟨by decide, by decide⟩ ⟨Nat.le_of_ble_eq_true rfl, Nat.le_of_ble_eq_true rfl⟩ dL_law_340 (fun r τ5 H locs hq hh => ?_)
  obtain ⟨rfl, hM2, hf2⟩ := hq
  refine lv_icmp_eq (tgt := 721) X.x X.b dL_law_343 (by decide) (fun _ => ?_) (fun h9 => absurd rfl h9)
  exact kk _ _ ls H locs (hA) (hC1.km hf2) hM2 hl hh
set_option maxHeartbeats 4000000 in
set_option maxRecDepth 100000 in
theorem law_cost (Y : LX G p s m b meth c L xs) {i : Nat} (hi : i + 5 ≤ L) (hA : AOK a) (hC : RC σ a) (hM : RM σ a) (hl : lv_has ls 4 (lvL G b i)) (hh : HH G s σ H locs) (kk : NX l G p e s m b below meth c i) : WL p l e s m b below meth c H locs (F0 m 348 ls []) := by
  have X := Y.1
  have hL := Y.2.2.2.2
  refine lv_aload_n X.x X.b dL_law_348 rfl (lv_at hl 2 rfl) ?_
  refine lv_aload_n X.x X.b dL_law_349 rfl (lv_at hl 3 rfl) ?_
  refine lv_iload_n X.x X.b dL_law_350 rfl (lv_at hl 0 rfl) ?_
  refine lv_iconst (v := nI 1) X.x X.b dL_law_351 (by decide) ?_
  refine f_iadd X (z := nI (i + 1)) (nI_add i 1) dL_law_352 ?_
  refine f_sld Y hh (j := i + 1) rfl (by omega) dL_law_353 ?_
  refine lv_aload_n X.x X.b dL_law_354 rfl (lv_at hl 3 rfl) ?_
  refine lv_iload_n X.x X.b dL_law_355 rfl (lv_at hl 0 rfl) ?_
  refine lv_iconst (v := nI 2) X.x X.b dL_law_356 (by decide) ?_
  refine f_iadd X (z := nI (i + 2)) (nI_add i 2) dL_law_357 ?_
  refine f_sld Y hh (j := i + 2) rfl (by omega) dL_law_358 ?_
  refine f_calli X hh (c4_cost l G (xs (i + 1)) (xs (i + 2)) hA hC) mf_yX4_cost ki_yX4_cost kl_yX4_cost km_L_49 (sh_81 G _) (by decide) rfl rfl hl.1 [] rfl (Nat.le_of_ble_eq_true rfl) ⟨by decide, by decide⟩ ⟨Nat.le_of_ble_eq_true rfl, Nat.le_of_ble_eq_true rfl⟩ dL_law_359 (fun r τ4 H locs hq hh => ?_)
  obtain ⟨rfl, hC1, hf1⟩ := hq
  have hM1 := hM.kc hf1
  refine lv_aload_n X.x X.b dL_law_362 rfl (lv_at hl 1 rfl) ?_
  refine lv_aload_n X.x X.b dL_law_363 rfl (lv_at hl 3 rfl) ?_
  refine lv_iload_n X.x X.b dL_law_364 rfl (lv_at hl 0 rfl) ?_
  refine lv_iconst (v := nI 1) X.x X.b dL_law_365 (by decide) ?_
  refine f_iadd X (z := nI (i + 1)) (nI_add i 1) dL_law_366 ?_
  refine f_sld Y hh (j := i + 1) rfl (by omega) dL_law_367 ?_
  refine lv_aload_n X.x X.b dL_law_368 rfl (lv_at hl 3 rfl) ?_
  refine lv_iload_n X.x X.b dL_law_369 rfl (lv_at hl 0 rfl) ?_
  refine lv_iconst (v := nI 2) X.x X.b dL_law_370 (by decide) ?_
  refine f_iadd X (z := nI (i + 2)) (nI_add i 2) dL_law_371 ?_
  refine f_sld Y hh (j := i + 2) rfl (by omega) dL_law_372 ?_
  refine f_calli X hh (c5_cost l G (xs (i + 1)) (xs (i + 2)) hA hM1) mf_yX5_cost ki_yX5_cost kl_yX5_cost km_L_52 (sh_134 G _) (by decide) rfl rfl hl.1 [.int (sp_cost (xs (i + 1)) (xs (i + 2)) a)] rfl (Nat.le_of_ble_eq_true rfl) ⟨by decide, by decide⟩ ⟨Nat.le_of_ble_eq_true rfl, Nat.le_of_ble_eq_true rfl⟩ dL_law_373 (fun r τ5 H locs hq hh => ?_)
  obtain ⟨rfl, hM2, hf2⟩ := hq
  refine lv_icmp_eq (tgt := 721) X.x X.b dL_law_376 (by decide) (fun _ => ?_) (fun h9 => absurd rfl h9)
  exact kk _ _ ls H locs (hA) (hC1.km hf2) hM2 hl hh
set_option maxHeartbeats 4000000 in
set_option maxRecDepth 100000 in
theorem law_least (Y : LX G p s m b meth c L xs) {i : Nat} (hi : i + 5 ≤ L) (hA : AOK a) (hC : RC σ a) (hM : RM σ a) (hl : lv_has ls 4 (lvL G b i)) (hh : HH G s σ H locs) (kk : NX l G p e s m b below meth c i) : WL p l e s m b below meth c H locs (F0 m 381 ls []) := by
  have X := Y.1
  have hL := Y.2.2.2.2
  refine lv_aload_n X.x X.b dL_law_381 rfl (lv_at hl 2 rfl) ?_
  refine lv_aload_n X.x X.b dL_law_382 rfl (lv_at hl 3 rfl) ?_
  refine lv_iload_n X.x X.b dL_law_383 rfl (lv_at hl 0 rfl) ?_
  refine lv_iconst (v := nI 1) X.x X.b dL_law_384 (by decide) ?_
  refine f_iadd X (z := nI (i + 1)) (nI_add i 1) dL_law_385 ?_
  refine f_sld Y hh (j := i + 1) rfl (by omega) dL_law_386 ?_
  refine lv_aload_n X.x X.b dL_law_387 rfl (lv_at hl 3 rfl) ?_
  refine lv_iload_n X.x X.b dL_law_388 rfl (lv_at hl 0 rfl) ?_
  refine lv_iconst (v := nI 2) X.x X.b dL_law_389 (by decide) ?_
  refine f_iadd X (z := nI (i + 2)) (nI_add i 2) dL_law_390 ?_
  refine f_sld Y hh (j := i + 2) rfl (by omega) dL_law_391 ?_
  refine lv_aload_n X.x X.b dL_law_392 rfl (lv_at hl 3 rfl) ?_
  refine lv_iload_n X.x X.b dL_law_393 rfl (lv_at hl 0 rfl) ?_
  refine lv_iconst (v := nI 3) X.x X.b dL_law_394 (by decide) ?_
  refine f_iadd X (z := nI (i + 3)) (nI_add i 3) dL_law_395 ?_
  refine f_sld Y hh (j := i + 3) rfl (by omega) dL_law_396 ?_
  refine f_calli X hh (c4_least l G (xs (i + 1)) (xs (i + 2)) (xs (i + 3)) hA hC) mf_yX4_least ki_yX4_least kl_yX4_least km_L_53 (sh_81 G _) (by decide) rfl rfl hl.1 [] rfl (Nat.le_of_ble_eq_true rfl) ⟨by decide, by decide⟩ ⟨Nat.le_of_ble_eq_true rfl, Nat.le_of_ble_eq_true rfl⟩ dL_law_397 (fun r τ4 H locs hq hh => ?_)
  obtain ⟨rfl, hC1, hf1⟩ := hq
  have hM1 := hM.kc hf1
  refine lv_aload_n X.x X.b dL_law_400 rfl (lv_at hl 1 rfl) ?_
  refine lv_aload_n X.x X.b dL_law_401 rfl (lv_at hl 3 rfl) ?_
  refine lv_iload_n X.x X.b dL_law_402 rfl (lv_at hl 0 rfl) ?_
  refine lv_iconst (v := nI 1) X.x X.b dL_law_403 (by decide) ?_
  refine f_iadd X (z := nI (i + 1)) (nI_add i 1) dL_law_404 ?_
  refine f_sld Y hh (j := i + 1) rfl (by omega) dL_law_405 ?_
  refine lv_aload_n X.x X.b dL_law_406 rfl (lv_at hl 3 rfl) ?_
  refine lv_iload_n X.x X.b dL_law_407 rfl (lv_at hl 0 rfl) ?_
  refine lv_iconst (v := nI 2) X.x X.b dL_law_408 (by decide) ?_
  refine f_iadd X (z := nI (i + 2)) (nI_add i 2) dL_law_409 ?_
  refine f_sld Y hh (j := i + 2) rfl (by omega) dL_law_410 ?_
  refine lv_aload_n X.x X.b dL_law_411 rfl (lv_at hl 3 rfl) ?_
  refine lv_iload_n X.x X.b dL_law_412 rfl (lv_at hl 0 rfl) ?_
  refine lv_iconst (v := nI 3) X.x X.b dL_law_413 (by decide) ?_
  refine f_iadd X (z := nI (i + 3)) (nI_add i 3) dL_law_414 ?_
  refine f_sld Y hh (j := i + 3) rfl (by omega) dL_law_415 ?_
  refine f_calli X hh (c5_least l G (xs (i + 1)) (xs (i + 2)) (xs (i + 3)) hA hM1) mf_yX5_least ki_yX5_least kl_yX5_least km_L_56 (sh_134 G _) (by decide) rfl rfl hl.1 [.int (sp_least (xs (i + 1)) (xs (i + 2)) (xs (i + 3)) a)] rfl (Nat.le_of_ble_eq_true rfl) ⟨by decide, by decide⟩ ⟨Nat.le_of_ble_eq_true rfl, Nat.le_of_ble_eq_true rfl⟩ dL_law_416 (fun r τ5 H locs hq hh => ?_)
  obtain ⟨rfl, hM2, hf2⟩ := hq
  refine lv_icmp_eq (tgt := 721) X.x X.b dL_law_419 (by decide) (fun _ => ?_) (fun h9 => absurd rfl h9)
  exact kk _ _ ls H locs (hA) (hC1.km hf2) hM2 hl hh
set_option maxHeartbeats 4000000 in
set_option maxRecDepth 100000 in
theorem law_ways (Y : LX G p s m b meth c L xs) {i : Nat} (hi : i + 5 ≤ L) (hA : AOK a) (hC : RC σ a) (hM : RM σ a) (hl : lv_has ls 4 (lvL G b i)) (hh : HH G s σ H locs) (kk : NX l G p e s m b below meth c i) : WL p l e s m b below meth c H locs (F0 m 424 ls []) := by
  have X := Y.1
  have hL := Y.2.2.2.2
  refine lv_aload_n X.x X.b dL_law_424 rfl (lv_at hl 2 rfl) ?_
  refine lv_aload_n X.x X.b dL_law_425 rfl (lv_at hl 3 rfl) ?_
  refine lv_iload_n X.x X.b dL_law_426 rfl (lv_at hl 0 rfl) ?_
  refine lv_iconst (v := nI 1) X.x X.b dL_law_427 (by decide) ?_
  refine f_iadd X (z := nI (i + 1)) (nI_add i 1) dL_law_428 ?_
  refine f_sld Y hh (j := i + 1) rfl (by omega) dL_law_429 ?_
  refine lv_aload_n X.x X.b dL_law_430 rfl (lv_at hl 3 rfl) ?_
  refine lv_iload_n X.x X.b dL_law_431 rfl (lv_at hl 0 rfl) ?_
  refine lv_iconst (v := nI 2) X.x X.b dL_law_432 (by decide) ?_
  refine f_iadd X (z := nI (i + 2)) (nI_add i 2) dL_law_433 ?_
  refine f_sld Y hh (j := i + 2) rfl (by omega) dL_law_434 ?_
  refine lv_aload_n X.x X.b dL_law_435 rfl (lv_at hl 3 rfl) ?_
  refine lv_iload_n X.x X.b dL_law_436 rfl (lv_at hl 0 rfl) ?_
  refine lv_iconst (v := nI 3) X.x X.b dL_law_437 (by decide) ?_
  refine f_iadd X (z := nI (i + 3)) (nI_add i 3) dL_law_438 ?_
  refine f_sld Y hh (j := i + 3) rfl (by omega) dL_law_439 ?_
  refine f_calli X hh (c4_ways l G (xs (i + 1)) (xs (i + 2)) (xs (i + 3)) hA hC) mf_yX4_ways ki_yX4_ways kl_yX4_ways km_L_57 (sh_81 G _) (by decide) rfl rfl hl.1 [] rfl (Nat.le_of_ble_eq_true rfl) ⟨by decide, by decide⟩ ⟨Nat.le_of_ble_eq_true rfl, Nat.le_of_ble_eq_true rfl⟩ dL_law_440 (fun r τ4 H locs hq hh => ?_)
  obtain ⟨rfl, hC1, hf1⟩ := hq
  have hM1 := hM.kc hf1
  refine lv_aload_n X.x X.b dL_law_443 rfl (lv_at hl 1 rfl) ?_
  refine lv_aload_n X.x X.b dL_law_444 rfl (lv_at hl 3 rfl) ?_
  refine lv_iload_n X.x X.b dL_law_445 rfl (lv_at hl 0 rfl) ?_
  refine lv_iconst (v := nI 1) X.x X.b dL_law_446 (by decide) ?_
  refine f_iadd X (z := nI (i + 1)) (nI_add i 1) dL_law_447 ?_
  refine f_sld Y hh (j := i + 1) rfl (by omega) dL_law_448 ?_
  refine lv_aload_n X.x X.b dL_law_449 rfl (lv_at hl 3 rfl) ?_
  refine lv_iload_n X.x X.b dL_law_450 rfl (lv_at hl 0 rfl) ?_
  refine lv_iconst (v := nI 2) X.x X.b dL_law_451 (by decide) ?_
  refine f_iadd X (z := nI (i + 2)) (nI_add i 2) dL_law_452 ?_
  refine f_sld Y hh (j := i + 2) rfl (by omega) dL_law_453 ?_
  refine lv_aload_n X.x X.b dL_law_454 rfl (lv_at hl 3 rfl) ?_
  refine lv_iload_n X.x X.b dL_law_455 rfl (lv_at hl 0 rfl) ?_
  refine lv_iconst (v := nI 3) X.x X.b dL_law_456 (by decide) ?_
  refine f_iadd X (z := nI (i + 3)) (nI_add i 3) dL_law_457 ?_
  refine f_sld Y hh (j := i + 3) rfl (by omega) dL_law_458 ?_
  refine f_calli X hh (c5_ways l G (xs (i + 1)) (xs (i + 2)) (xs (i + 3)) hA hM1) mf_yX5_ways ki_yX5_ways kl_yX5_ways km_L_60 (sh_134 G _) (by decide) rfl rfl hl.1 [.int (sp_ways (xs (i + 1)) (xs (i + 2)) (xs (i + 3)) a)] rfl (Nat.le_of_ble_eq_true rfl) ⟨by decide, by decide⟩ ⟨Nat.le_of_ble_eq_true rfl, Nat.le_of_ble_eq_true rfl⟩ dL_law_459 (fun r τ5 H locs hq hh => ?_)
  obtain ⟨rfl, hM2, hf2⟩ := hq
  refine lv_icmp_eq (tgt := 721) X.x X.b dL_law_462 (by decide) (fun _ => ?_) (fun h9 => absurd rfl h9)
  exact kk _ _ ls H locs (hA) (hC1.km hf2) hM2 hl hh
set_option maxHeartbeats 4000000 in
set_option maxRecDepth 100000 in
theorem law_sung (Y : LX G p s m b meth c L xs) {i : Nat} (hi : i + 5 ≤ L) (hA : AOK a) (hC : RC σ a) (hM : RM σ a) (hl : lv_has ls 4 (lvL G b i)) (hh : HH G s σ H locs) (kk : NX l G p e s m b below meth c i) : WL p l e s m b below meth c H locs (F0 m 467 ls []) := by
  have X := Y.1
  have hL := Y.2.2.2.2
  refine lv_aload_n X.x X.b dL_law_467 rfl (lv_at hl 2 rfl) ?_
  refine lv_aload_n X.x X.b dL_law_468 rfl (lv_at hl 3 rfl) ?_
  refine lv_iload_n X.x X.b dL_law_469 rfl (lv_at hl 0 rfl) ?_
  refine lv_iconst (v := nI 1) X.x X.b dL_law_470 (by decide) ?_
  refine f_iadd X (z := nI (i + 1)) (nI_add i 1) dL_law_471 ?_
  refine f_sld Y hh (j := i + 1) rfl (by omega) dL_law_472 ?_
  refine lv_aload_n X.x X.b dL_law_473 rfl (lv_at hl 3 rfl) ?_
  refine lv_iload_n X.x X.b dL_law_474 rfl (lv_at hl 0 rfl) ?_
  refine lv_iconst (v := nI 2) X.x X.b dL_law_475 (by decide) ?_
  refine f_iadd X (z := nI (i + 2)) (nI_add i 2) dL_law_476 ?_
  refine f_sld Y hh (j := i + 2) rfl (by omega) dL_law_477 ?_
  refine lv_aload_n X.x X.b dL_law_478 rfl (lv_at hl 3 rfl) ?_
  refine lv_iload_n X.x X.b dL_law_479 rfl (lv_at hl 0 rfl) ?_
  refine lv_iconst (v := nI 3) X.x X.b dL_law_480 (by decide) ?_
  refine f_iadd X (z := nI (i + 3)) (nI_add i 3) dL_law_481 ?_
  refine f_sld Y hh (j := i + 3) rfl (by omega) dL_law_482 ?_
  refine lv_aload_n X.x X.b dL_law_483 rfl (lv_at hl 3 rfl) ?_
  refine lv_iload_n X.x X.b dL_law_484 rfl (lv_at hl 0 rfl) ?_
  refine lv_iconst (v := nI 4) X.x X.b dL_law_485 (by decide) ?_
  refine f_iadd X (z := nI (i + 4)) (nI_add i 4) dL_law_486 ?_
  refine f_sld Y hh (j := i + 4) rfl (by omega) dL_law_487 ?_
  refine f_calli X hh (c4_sung l G (xs (i + 1)) (xs (i + 2)) (xs (i + 3)) (xs (i + 4)) hA hC) mf_yX4_sung ki_yX4_sung kl_yX4_sung km_L_61 (sh_81 G _) (by decide) rfl rfl hl.1 [] rfl (Nat.le_of_ble_eq_true rfl) ⟨by decide, by decide⟩ ⟨Nat.le_of_ble_eq_true rfl, Nat.le_of_ble_eq_true rfl⟩ dL_law_488 (fun r τ4 H locs hq hh => ?_)
  obtain ⟨rfl, hC1, hf1⟩ := hq
  have hM1 := hM.kc hf1
  refine lv_aload_n X.x X.b dL_law_491 rfl (lv_at hl 1 rfl) ?_
  refine lv_aload_n X.x X.b dL_law_492 rfl (lv_at hl 3 rfl) ?_
  refine lv_iload_n X.x X.b dL_law_493 rfl (lv_at hl 0 rfl) ?_
  refine lv_iconst (v := nI 1) X.x X.b dL_law_494 (by decide) ?_
  refine f_iadd X (z := nI (i + 1)) (nI_add i 1) dL_law_495 ?_
  refine f_sld Y hh (j := i + 1) rfl (by omega) dL_law_496 ?_
  refine lv_aload_n X.x X.b dL_law_497 rfl (lv_at hl 3 rfl) ?_
  refine lv_iload_n X.x X.b dL_law_498 rfl (lv_at hl 0 rfl) ?_
  refine lv_iconst (v := nI 2) X.x X.b dL_law_499 (by decide) ?_
  refine f_iadd X (z := nI (i + 2)) (nI_add i 2) dL_law_500 ?_
  refine f_sld Y hh (j := i + 2) rfl (by omega) dL_law_501 ?_
  refine lv_aload_n X.x X.b dL_law_502 rfl (lv_at hl 3 rfl) ?_
  refine lv_iload_n X.x X.b dL_law_503 rfl (lv_at hl 0 rfl) ?_
  refine lv_iconst (v := nI 3) X.x X.b dL_law_504 (by decide) ?_
  refine f_iadd X (z := nI (i + 3)) (nI_add i 3) dL_law_505 ?_
  refine f_sld Y hh (j := i + 3) rfl (by omega) dL_law_506 ?_
  refine lv_aload_n X.x X.b dL_law_507 rfl (lv_at hl 3 rfl) ?_
  refine lv_iload_n X.x X.b dL_law_508 rfl (lv_at hl 0 rfl) ?_
  refine lv_iconst (v := nI 4) X.x X.b dL_law_509 (by decide) ?_
  refine f_iadd X (z := nI (i + 4)) (nI_add i 4) dL_law_510 ?_
  refine f_sld Y hh (j := i + 4) rfl (by omega) dL_law_511 ?_
  refine f_calli X hh (c5_sung l G (xs (i + 1)) (xs (i + 2)) (xs (i + 3)) (xs (i + 4)) hA hM1) mf_yX5_sung ki_yX5_sung kl_yX5_sung km_L_65 (sh_134 G _) (by decide) rfl rfl hl.1 [.int (sp_sung (xs (i + 1)) (xs (i + 2)) (xs (i + 3)) (xs (i + 4)) a)] rfl (Nat.le_of_ble_eq_true rfl) ⟨by decide, by decide⟩ ⟨Nat.le_of_ble_eq_true rfl, Nat.le_of_ble_eq_true rfl⟩ dL_law_512 (fun r τ5 H locs hq hh => ?_)
  obtain ⟨rfl, hM2, hf2⟩ := hq
  refine lv_icmp_eq (tgt := 721) X.x X.b dL_law_515 (by decide) (fun _ => ?_) (fun h9 => absurd rfl h9)
  exact kk _ _ ls H locs (hA) (hC1.km hf2) hM2 hl hh
set_option maxHeartbeats 4000000 in
set_option maxRecDepth 100000 in
theorem law_verse (Y : LX G p s m b meth c L xs) {i : Nat} (hi : i + 5 ≤ L) (hA : AOK a) (hC : RC σ a) (hM : RM σ a) (hl : lv_has ls 4 (lvL G b i)) (hh : HH G s σ H locs) (kk : NX l G p e s m b below meth c i) : WL p l e s m b below meth c H locs (F0 m 520 ls []) := by
  have X := Y.1
  have hL := Y.2.2.2.2
  refine lv_aload_n X.x X.b dL_law_520 rfl (lv_at hl 2 rfl) ?_
  refine lv_aload_n X.x X.b dL_law_521 rfl (lv_at hl 3 rfl) ?_
  refine lv_iload_n X.x X.b dL_law_522 rfl (lv_at hl 0 rfl) ?_
  refine lv_iconst (v := nI 1) X.x X.b dL_law_523 (by decide) ?_
  refine f_iadd X (z := nI (i + 1)) (nI_add i 1) dL_law_524 ?_
  refine f_sld Y hh (j := i + 1) rfl (by omega) dL_law_525 ?_
  refine f_calli X hh (c4_verse l G (xs (i + 1)) hA hC) mf_yX4_verse ki_yX4_verse kl_yX4_verse km_L_66 (sh_81 G _) (by decide) rfl rfl hl.1 [] rfl (Nat.le_of_ble_eq_true rfl) ⟨by decide, by decide⟩ ⟨Nat.le_of_ble_eq_true rfl, Nat.le_of_ble_eq_true rfl⟩ dL_law_526 (fun r τ4 H locs hq hh => ?_)
  obtain ⟨rfl, hC1, hf1⟩ := hq
  have hM1 := hM.kc hf1
  refine lv_aload_n X.x X.b dL_law_529 rfl (lv_at hl 1 rfl) ?_
  refine lv_aload_n X.x X.b dL_law_530 rfl (lv_at hl 3 rfl) ?_
  refine lv_iload_n X.x X.b dL_law_531 rfl (lv_at hl 0 rfl) ?_
  refine lv_iconst (v := nI 1) X.x X.b dL_law_532 (by decide) ?_
  refine f_iadd X (z := nI (i + 1)) (nI_add i 1) dL_law_533 ?_
  refine f_sld Y hh (j := i + 1) rfl (by omega) dL_law_534 ?_
  refine f_calli X hh (c5_verse l G (xs (i + 1)) hA hM1) mf_yX5_verse ki_yX5_verse kl_yX5_verse km_L_69 (sh_134 G _) (by decide) rfl rfl hl.1 [.int (sp_verse (xs (i + 1)) a)] rfl (Nat.le_of_ble_eq_true rfl) ⟨by decide, by decide⟩ ⟨Nat.le_of_ble_eq_true rfl, Nat.le_of_ble_eq_true rfl⟩ dL_law_535 (fun r τ5 H locs hq hh => ?_)
  obtain ⟨rfl, hM2, hf2⟩ := hq
  refine lv_icmp_eq (tgt := 721) X.x X.b dL_law_538 (by decide) (fun _ => ?_) (fun h9 => absurd rfl h9)
  exact kk _ _ ls H locs (hA) (hC1.km hf2) hM2 hl hh
set_option maxHeartbeats 4000000 in
set_option maxRecDepth 100000 in
theorem law_best (Y : LX G p s m b meth c L xs) {i : Nat} (hi : i + 5 ≤ L) (hA : AOK a) (hC : RC σ a) (hM : RM σ a) (hl : lv_has ls 4 (lvL G b i)) (hh : HH G s σ H locs) (kk : NX l G p e s m b below meth c i) : WL p l e s m b below meth c H locs (F0 m 543 ls []) := by
  have X := Y.1
  have hL := Y.2.2.2.2
  refine lv_aload_n X.x X.b dL_law_543 rfl (lv_at hl 2 rfl) ?_
  refine lv_aload_n X.x X.b dL_law_544 rfl (lv_at hl 3 rfl) ?_
  refine lv_iload_n X.x X.b dL_law_545 rfl (lv_at hl 0 rfl) ?_
  refine lv_iconst (v := nI 1) X.x X.b dL_law_546 (by decide) ?_
  refine f_iadd X (z := nI (i + 1)) (nI_add i 1) dL_law_547 ?_
  refine f_sld Y hh (j := i + 1) rfl (by omega) dL_law_548 ?_
  refine f_calli X hh (c4_best l G (xs (i + 1)) hA hC) mf_yX4_best ki_yX4_best kl_yX4_best km_L_70 (sh_81 G _) (by decide) rfl rfl hl.1 [] rfl (Nat.le_of_ble_eq_true rfl) ⟨by decide, by decide⟩ ⟨Nat.le_of_ble_eq_true rfl, Nat.le_of_ble_eq_true rfl⟩ dL_law_549 (fun r τ4 H locs hq hh => ?_)
  obtain ⟨rfl, hC1, hf1⟩ := hq
  have hM1 := hM.kc hf1
  refine lv_aload_n X.x X.b dL_law_552 rfl (lv_at hl 1 rfl) ?_
  refine lv_aload_n X.x X.b dL_law_553 rfl (lv_at hl 3 rfl) ?_
  refine lv_iload_n X.x X.b dL_law_554 rfl (lv_at hl 0 rfl) ?_
  refine lv_iconst (v := nI 1) X.x X.b dL_law_555 (by decide) ?_
  refine f_iadd X (z := nI (i + 1)) (nI_add i 1) dL_law_556 ?_
  refine f_sld Y hh (j := i + 1) rfl (by omega) dL_law_557 ?_
  refine f_calli X hh (c5_best l G (xs (i + 1)) hA hM1) mf_yX5_best ki_yX5_best kl_yX5_best km_L_73 (sh_134 G _) (by decide) rfl rfl hl.1 [.int (sp_best (xs (i + 1)) a)] rfl (Nat.le_of_ble_eq_true rfl) ⟨by decide, by decide⟩ ⟨Nat.le_of_ble_eq_true rfl, Nat.le_of_ble_eq_true rfl⟩ dL_law_558 (fun r τ5 H locs hq hh => ?_)
  obtain ⟨rfl, hM2, hf2⟩ := hq
  refine lv_icmp_eq (tgt := 721) X.x X.b dL_law_561 (by decide) (fun _ => ?_) (fun h9 => absurd rfl h9)
  exact kk _ _ ls H locs (hA) (hC1.km hf2) hM2 hl hh
set_option maxHeartbeats 4000000 in
set_option maxRecDepth 100000 in
theorem law_turned (Y : LX G p s m b meth c L xs) {i : Nat} (hi : i + 5 ≤ L) (hA : AOK a) (hC : RC σ a) (hM : RM σ a) (hl : lv_has ls 4 (lvL G b i)) (hh : HH G s σ H locs) (kk : NX l G p e s m b below meth c i) : WL p l e s m b below meth c H locs (F0 m 566 ls []) := by
  have X := Y.1
  have hL := Y.2.2.2.2
  refine lv_aload_n X.x X.b dL_law_566 rfl (lv_at hl 2 rfl) ?_
  refine lv_aload_n X.x X.b dL_law_567 rfl (lv_at hl 3 rfl) ?_
  refine lv_iload_n X.x X.b dL_law_568 rfl (lv_at hl 0 rfl) ?_
  refine lv_iconst (v := nI 1) X.x X.b dL_law_569 (by decide) ?_
  refine f_iadd X (z := nI (i + 1)) (nI_add i 1) dL_law_570 ?_
  refine f_sld Y hh (j := i + 1) rfl (by omega) dL_law_571 ?_
  refine lv_aload_n X.x X.b dL_law_572 rfl (lv_at hl 3 rfl) ?_
  refine lv_iload_n X.x X.b dL_law_573 rfl (lv_at hl 0 rfl) ?_
  refine lv_iconst (v := nI 2) X.x X.b dL_law_574 (by decide) ?_
  refine f_iadd X (z := nI (i + 2)) (nI_add i 2) dL_law_575 ?_
  refine f_sld Y hh (j := i + 2) rfl (by omega) dL_law_576 ?_
  refine lv_aload_n X.x X.b dL_law_577 rfl (lv_at hl 3 rfl) ?_
  refine lv_iload_n X.x X.b dL_law_578 rfl (lv_at hl 0 rfl) ?_
  refine lv_iconst (v := nI 3) X.x X.b dL_law_579 (by decide) ?_
  refine f_iadd X (z := nI (i + 3)) (nI_add i 3) dL_law_580 ?_
  refine f_sld Y hh (j := i + 3) rfl (by omega) dL_law_581 ?_
  refine f_calli X hh (c4_turned l G (xs (i + 1)) (xs (i + 2)) (xs (i + 3)) hA hC) mf_yX4_turned ki_yX4_turned kl_yX4_turned km_L_74 (sh_81 G _) (by decide) rfl rfl hl.1 [] rfl (Nat.le_of_ble_eq_true rfl) ⟨by decide, by decide⟩ ⟨Nat.le_of_ble_eq_true rfl, Nat.le_of_ble_eq_true rfl⟩ dL_law_582 (fun r τ4 H locs hq hh => ?_)
  obtain ⟨rfl, hC1, hf1⟩ := hq
  have hM1 := hM.kc hf1
  refine lv_aload_n X.x X.b dL_law_585 rfl (lv_at hl 1 rfl) ?_
  refine lv_aload_n X.x X.b dL_law_586 rfl (lv_at hl 3 rfl) ?_
  refine lv_iload_n X.x X.b dL_law_587 rfl (lv_at hl 0 rfl) ?_
  refine lv_iconst (v := nI 1) X.x X.b dL_law_588 (by decide) ?_
  refine f_iadd X (z := nI (i + 1)) (nI_add i 1) dL_law_589 ?_
  refine f_sld Y hh (j := i + 1) rfl (by omega) dL_law_590 ?_
  refine lv_aload_n X.x X.b dL_law_591 rfl (lv_at hl 3 rfl) ?_
  refine lv_iload_n X.x X.b dL_law_592 rfl (lv_at hl 0 rfl) ?_
  refine lv_iconst (v := nI 2) X.x X.b dL_law_593 (by decide) ?_
  refine f_iadd X (z := nI (i + 2)) (nI_add i 2) dL_law_594 ?_
  refine f_sld Y hh (j := i + 2) rfl (by omega) dL_law_595 ?_
  refine lv_aload_n X.x X.b dL_law_596 rfl (lv_at hl 3 rfl) ?_
  refine lv_iload_n X.x X.b dL_law_597 rfl (lv_at hl 0 rfl) ?_
  refine lv_iconst (v := nI 3) X.x X.b dL_law_598 (by decide) ?_
  refine f_iadd X (z := nI (i + 3)) (nI_add i 3) dL_law_599 ?_
  refine f_sld Y hh (j := i + 3) rfl (by omega) dL_law_600 ?_
  refine f_calli X hh (c5_turned l G (xs (i + 1)) (xs (i + 2)) (xs (i + 3)) hA hM1) mf_yX5_turned ki_yX5_turned kl_yX5_turned km_L_77 (sh_134 G _) (by decide) rfl rfl hl.1 [.int (sp_turned (xs (i + 1)) (xs (i + 2)) (xs (i + 3)) a)] rfl (Nat.le_of_ble_eq_true rfl) ⟨by decide, by decide⟩ ⟨Nat.le_of_ble_eq_true rfl, Nat.le_of_ble_eq_true rfl⟩ dL_law_601 (fun r τ5 H locs hq hh => ?_)
  obtain ⟨rfl, hM2, hf2⟩ := hq
  refine lv_icmp_eq (tgt := 721) X.x X.b dL_law_604 (by decide) (fun _ => ?_) (fun h9 => absurd rfl h9)
  exact kk _ _ ls H locs (hA) (hC1.km hf2) hM2 hl hh
set_option maxHeartbeats 4000000 in
set_option maxRecDepth 100000 in
theorem law_anew (Y : LX G p s m b meth c L xs) {i : Nat} (hi : i + 5 ≤ L) (hA : AOK a) (hC : RC σ a) (hM : RM σ a) (hl : lv_has ls 4 (lvL G b i)) (hh : HH G s σ H locs) (kk : NX l G p e s m b below meth c i) : WL p l e s m b below meth c H locs (F0 m 609 ls []) := by
  have X := Y.1
  have hL := Y.2.2.2.2
  refine lv_aload_n X.x X.b dL_law_609 rfl (lv_at hl 2 rfl) ?_
  refine lv_aload_n X.x X.b dL_law_610 rfl (lv_at hl 3 rfl) ?_
  refine lv_iload_n X.x X.b dL_law_611 rfl (lv_at hl 0 rfl) ?_
  refine lv_iconst (v := nI 1) X.x X.b dL_law_612 (by decide) ?_
  refine f_iadd X (z := nI (i + 1)) (nI_add i 1) dL_law_613 ?_
  refine f_sld Y hh (j := i + 1) rfl (by omega) dL_law_614 ?_
  refine lv_aload_n X.x X.b dL_law_615 rfl (lv_at hl 3 rfl) ?_
  refine lv_iload_n X.x X.b dL_law_616 rfl (lv_at hl 0 rfl) ?_
  refine lv_iconst (v := nI 2) X.x X.b dL_law_617 (by decide) ?_
  refine f_iadd X (z := nI (i + 2)) (nI_add i 2) dL_law_618 ?_
  refine f_sld Y hh (j := i + 2) rfl (by omega) dL_law_619 ?_
  refine lv_aload_n X.x X.b dL_law_620 rfl (lv_at hl 3 rfl) ?_
  refine lv_iload_n X.x X.b dL_law_621 rfl (lv_at hl 0 rfl) ?_
  refine lv_iconst (v := nI 3) X.x X.b dL_law_622 (by decide) ?_
  refine f_iadd X (z := nI (i + 3)) (nI_add i 3) dL_law_623 ?_
  refine f_sld Y hh (j := i + 3) rfl (by omega) dL_law_624 ?_
  refine f_calli X hh (c4_anew l G (xs (i + 1)) (xs (i + 2)) (xs (i + 3)) hA hC) mf_yX4_anew ki_yX4_anew kl_yX4_anew km_L_78 (sh_81 G _) (by decide) rfl rfl hl.1 [] rfl (Nat.le_of_ble_eq_true rfl) ⟨by decide, by decide⟩ ⟨Nat.le_of_ble_eq_true rfl, Nat.le_of_ble_eq_true rfl⟩ dL_law_625 (fun r τ4 H locs hq hh => ?_)
  obtain ⟨rfl, hC1, hf1⟩ := hq
  have hM1 := hM.kc hf1
  refine lv_aload_n X.x X.b dL_law_628 rfl (lv_at hl 1 rfl) ?_
  refine lv_aload_n X.x X.b dL_law_629 rfl (lv_at hl 3 rfl) ?_
  refine lv_iload_n X.x X.b dL_law_630 rfl (lv_at hl 0 rfl) ?_
  refine lv_iconst (v := nI 1) X.x X.b dL_law_631 (by decide) ?_
  refine f_iadd X (z := nI (i + 1)) (nI_add i 1) dL_law_632 ?_
  refine f_sld Y hh (j := i + 1) rfl (by omega) dL_law_633 ?_
  refine lv_aload_n X.x X.b dL_law_634 rfl (lv_at hl 3 rfl) ?_
  refine lv_iload_n X.x X.b dL_law_635 rfl (lv_at hl 0 rfl) ?_
  refine lv_iconst (v := nI 2) X.x X.b dL_law_636 (by decide) ?_
  refine f_iadd X (z := nI (i + 2)) (nI_add i 2) dL_law_637 ?_
  refine f_sld Y hh (j := i + 2) rfl (by omega) dL_law_638 ?_
  refine lv_aload_n X.x X.b dL_law_639 rfl (lv_at hl 3 rfl) ?_
  refine lv_iload_n X.x X.b dL_law_640 rfl (lv_at hl 0 rfl) ?_
  refine lv_iconst (v := nI 3) X.x X.b dL_law_641 (by decide) ?_
  refine f_iadd X (z := nI (i + 3)) (nI_add i 3) dL_law_642 ?_
  refine f_sld Y hh (j := i + 3) rfl (by omega) dL_law_643 ?_
  refine f_calli X hh (c5_anew l G (xs (i + 1)) (xs (i + 2)) (xs (i + 3)) hA hM1) mf_yX5_anew ki_yX5_anew kl_yX5_anew km_L_81 (sh_134 G _) (by decide) rfl rfl hl.1 [.int (sp_anew (xs (i + 1)) (xs (i + 2)) (xs (i + 3)) a)] rfl (Nat.le_of_ble_eq_true rfl) ⟨by decide, by decide⟩ ⟨Nat.le_of_ble_eq_true rfl, Nat.le_of_ble_eq_true rfl⟩ dL_law_644 (fun r τ5 H locs hq hh => ?_)
  obtain ⟨rfl, hM2, hf2⟩ := hq
  refine lv_icmp_eq (tgt := 721) X.x X.b dL_law_647 (by decide) (fun _ => ?_) (fun h9 => absurd rfl h9)
  exact kk _ _ ls H locs (hA) (hC1.km hf2) hM2 hl hh
set_option maxHeartbeats 4000000 in
set_option maxRecDepth 100000 in
theorem law_image (Y : LX G p s m b meth c L xs) {i : Nat} (hi : i + 5 ≤ L) (hA : AOK a) (hC : RC σ a) (hM : RM σ a) (hl : lv_has ls 4 (lvL G b i)) (hh : HH G s σ H locs) (kk : NX l G p e s m b below meth c i) : WL p l e s m b below meth c H locs (F0 m 652 ls []) := by
  have X := Y.1
  have hL := Y.2.2.2.2
  refine lv_aload_n X.x X.b dL_law_652 rfl (lv_at hl 2 rfl) ?_
  refine lv_aload_n X.x X.b dL_law_653 rfl (lv_at hl 3 rfl) ?_
  refine lv_iload_n X.x X.b dL_law_654 rfl (lv_at hl 0 rfl) ?_
  refine lv_iconst (v := nI 1) X.x X.b dL_law_655 (by decide) ?_
  refine f_iadd X (z := nI (i + 1)) (nI_add i 1) dL_law_656 ?_
  refine f_sld Y hh (j := i + 1) rfl (by omega) dL_law_657 ?_
  refine f_calli X hh (c4_image l G (xs (i + 1)) hA hC) mf_yX4_image ki_yX4_image kl_yX4_image km_L_82 (sh_81 G _) (by decide) rfl rfl hl.1 [] rfl (Nat.le_of_ble_eq_true rfl) ⟨by decide, by decide⟩ ⟨Nat.le_of_ble_eq_true rfl, Nat.le_of_ble_eq_true rfl⟩ dL_law_658 (fun r τ4 H locs hq hh => ?_)
  obtain ⟨rfl, hC1, hf1⟩ := hq
  have hM1 := hM.kc hf1
  refine lv_aload_n X.x X.b dL_law_661 rfl (lv_at hl 1 rfl) ?_
  refine lv_aload_n X.x X.b dL_law_662 rfl (lv_at hl 3 rfl) ?_
  refine lv_iload_n X.x X.b dL_law_663 rfl (lv_at hl 0 rfl) ?_
  refine lv_iconst (v := nI 1) X.x X.b dL_law_664 (by decide) ?_
  refine f_iadd X (z := nI (i + 1)) (nI_add i 1) dL_law_665 ?_
  refine f_sld Y hh (j := i + 1) rfl (by omega) dL_law_666 ?_
  refine f_calli X hh (c5_image l G (xs (i + 1)) hA hM1) mf_yX5_image ki_yX5_image kl_yX5_image km_L_85 (sh_134 G _) (by decide) rfl rfl hl.1 [.int (sp_image (xs (i + 1)) a)] rfl (Nat.le_of_ble_eq_true rfl) ⟨by decide, by decide⟩ ⟨Nat.le_of_ble_eq_true rfl, Nat.le_of_ble_eq_true rfl⟩ dL_law_667 (fun r τ5 H locs hq hh => ?_)
  obtain ⟨rfl, hM2, hf2⟩ := hq
  refine lv_icmp_eq (tgt := 721) X.x X.b dL_law_670 (by decide) (fun _ => ?_) (fun h9 => absurd rfl h9)
  exact kk _ _ ls H locs (ok_image hA _) (hC1.km hf2) hM2 hl hh
set_option maxHeartbeats 4000000 in
set_option maxRecDepth 100000 in
theorem law_restore (Y : LX G p s m b meth c L xs) {i : Nat} (hi : i + 5 ≤ L) (hA : AOK a) (hC : RC σ a) (hM : RM σ a) (hl : lv_has ls 4 (lvL G b i)) (hh : HH G s σ H locs) (kk : NX l G p e s m b below meth c i) : WL p l e s m b below meth c H locs (F0 m 675 ls []) := by
  have X := Y.1
  have hL := Y.2.2.2.2
  refine lv_aload_n X.x X.b dL_law_675 rfl (lv_at hl 2 rfl) ?_
  refine lv_aload_n X.x X.b dL_law_676 rfl (lv_at hl 3 rfl) ?_
  refine lv_iload_n X.x X.b dL_law_677 rfl (lv_at hl 0 rfl) ?_
  refine lv_iconst (v := nI 1) X.x X.b dL_law_678 (by decide) ?_
  refine f_iadd X (z := nI (i + 1)) (nI_add i 1) dL_law_679 ?_
  refine f_sld Y hh (j := i + 1) rfl (by omega) dL_law_680 ?_
  refine f_calli X hh (c4_restore l G (xs (i + 1)) hA hC) mf_yX4_restore ki_yX4_restore kl_yX4_restore km_L_86 (sh_81 G _) (by decide) rfl rfl hl.1 [] rfl (Nat.le_of_ble_eq_true rfl) ⟨by decide, by decide⟩ ⟨Nat.le_of_ble_eq_true rfl, Nat.le_of_ble_eq_true rfl⟩ dL_law_681 (fun r τ4 H locs hq hh => ?_)
  obtain ⟨rfl, hC1, hf1⟩ := hq
  have hM1 := hM.kc hf1
  refine lv_aload_n X.x X.b dL_law_684 rfl (lv_at hl 1 rfl) ?_
  refine lv_aload_n X.x X.b dL_law_685 rfl (lv_at hl 3 rfl) ?_
  refine lv_iload_n X.x X.b dL_law_686 rfl (lv_at hl 0 rfl) ?_
  refine lv_iconst (v := nI 1) X.x X.b dL_law_687 (by decide) ?_
  refine f_iadd X (z := nI (i + 1)) (nI_add i 1) dL_law_688 ?_
  refine f_sld Y hh (j := i + 1) rfl (by omega) dL_law_689 ?_
  refine f_calli X hh (c5_restore l G (xs (i + 1)) hA hM1) mf_yX5_restore ki_yX5_restore kl_yX5_restore km_L_89 (sh_134 G _) (by decide) rfl rfl hl.1 [.int (sp_restore (xs (i + 1)) a)] rfl (Nat.le_of_ble_eq_true rfl) ⟨by decide, by decide⟩ ⟨Nat.le_of_ble_eq_true rfl, Nat.le_of_ble_eq_true rfl⟩ dL_law_690 (fun r τ5 H locs hq hh => ?_)
  obtain ⟨rfl, hM2, hf2⟩ := hq
  refine lv_icmp_eq (tgt := 721) X.x X.b dL_law_693 (by decide) (fun _ => ?_) (fun h9 => absurd rfl h9)
  exact kk _ _ ls H locs (ok_restore hA _) (hC1.km hf2) hM2 hl hh
set_option maxHeartbeats 4000000 in
set_option maxRecDepth 100000 in
theorem law_count (Y : LX G p s m b meth c L xs) {i : Nat} (hi : i + 5 ≤ L) (hA : AOK a) (hC : RC σ a) (hM : RM σ a) (hl : lv_has ls 4 (lvL G b i)) (hh : HH G s σ H locs) (kk : NX l G p e s m b below meth c i) : WL p l e s m b below meth c H locs (F0 m 698 ls []) := by
  have X := Y.1
  have hL := Y.2.2.2.2
  refine lv_aload_n X.x X.b dL_law_698 rfl (lv_at hl 2 rfl) ?_
  refine lv_aload_n X.x X.b dL_law_699 rfl (lv_at hl 3 rfl) ?_
  refine lv_iload_n X.x X.b dL_law_700 rfl (lv_at hl 0 rfl) ?_
  refine lv_iconst (v := nI 1) X.x X.b dL_law_701 (by decide) ?_
  refine f_iadd X (z := nI (i + 1)) (nI_add i 1) dL_law_702 ?_
  refine f_sld Y hh (j := i + 1) rfl (by omega) dL_law_703 ?_
  refine f_calli X hh (c4_count l G (xs (i + 1)) hA hC) mf_yX4_count ki_yX4_count kl_yX4_count km_L_90 (sh_81 G _) (by decide) rfl rfl hl.1 [] rfl (Nat.le_of_ble_eq_true rfl) ⟨by decide, by decide⟩ ⟨Nat.le_of_ble_eq_true rfl, Nat.le_of_ble_eq_true rfl⟩ dL_law_704 (fun r τ4 H locs hq hh => ?_)
  obtain ⟨rfl, hC1, hf1⟩ := hq
  have hM1 := hM.kc hf1
  refine lv_aload_n X.x X.b dL_law_707 rfl (lv_at hl 1 rfl) ?_
  refine lv_aload_n X.x X.b dL_law_708 rfl (lv_at hl 3 rfl) ?_
  refine lv_iload_n X.x X.b dL_law_709 rfl (lv_at hl 0 rfl) ?_
  refine lv_iconst (v := nI 1) X.x X.b dL_law_710 (by decide) ?_
  refine f_iadd X (z := nI (i + 1)) (nI_add i 1) dL_law_711 ?_
  refine f_sld Y hh (j := i + 1) rfl (by omega) dL_law_712 ?_
  refine f_calli X hh (c5_count l G (xs (i + 1)) hA hM1) mf_yX5_count ki_yX5_count kl_yX5_count km_L_93 (sh_134 G _) (by decide) rfl rfl hl.1 [.int (sp_count (xs (i + 1)) a)] rfl (Nat.le_of_ble_eq_true rfl) ⟨by decide, by decide⟩ ⟨Nat.le_of_ble_eq_true rfl, Nat.le_of_ble_eq_true rfl⟩ dL_law_713 (fun r τ5 H locs hq hh => ?_)
  obtain ⟨rfl, hM2, hf2⟩ := hq
  refine lv_icmp_eq (tgt := 721) X.x X.b dL_law_716 (by decide) (fun _ => ?_) (fun h9 => absurd rfl h9)
  exact kk _ _ ls H locs (hA) (hC1.km hf2) hM2 hl hh
set_option maxHeartbeats 4000000 in
set_option maxRecDepth 100000 in
theorem law_loop (Y : LX G p s m b meth c L xs) (hgA : gA G = fun q => s.heap.size ≤ q) : ∀ (k i : Nat), L - i = k → i ≤ L → ∀ (a : AS) (σ : Mem), AOK a → RC σ a → RM σ a → ∀ (ls : Array Slot) (H : Heap) (locs : List Loc), lv_has ls 4 (lvL G b i) → HH G s σ H locs → WL p l e s m b below meth c H locs (F0 m 18 ls []) := by
  have X := Y.1
  have hL := Y.2.2.2.2
  intro km
  induction km using Nat.strongRecOn with
  | ind km ih =>
    intro i hk hi a σ hA hC hM ls H locs hl hh
    have fin : WL p l e s m b below meth c H locs (F0 m 727 ls []) := by
      refine lv_iconst (v := 1) X.x X.b dL_law_727 (by decide) ?_
      refine va_forget (fun q hq => ?_) (lw_ret X.x X.b X.2.1 X.2.2.1 dL_law_728)
      have h9 := hh.2.2.2 q hq
      rw [hgA] at h9
      exact h9
    refine lv_iload_n X.x X.b dL_law_18 rfl (lv_at hl 0 rfl) ?_
    refine lv_aload_n X.x X.b dL_law_19 rfl (lv_at hl 3 rfl) ?_
    refine va_slen X.x X.b Y.2.1 Y.2.2.1 Y.2.2.2.1 hh.2 dL_law_20 ?_
    refine lv_iconst (v := nI 5) X.x X.b dL_law_21 (by decide) ?_
    by_cases h5 : 5 ≤ L
    · refine f_isub X (z := nI (L - 5)) (pk_sub (a := L) (b := 5) h5) dL_law_22 ?_
      refine lv_icmp_gt (tgt := 727) X.x X.b dL_law_23 (by decide) (fun _ => fin) (fun c_1 => ?_)
      have c_1 : ¬ L - 5 < i := fun q9 => c_1 ((nI_ltI (a := L - 5) (b := i) (by omega) (by omega)).mpr q9)
      refine lv_aload_n X.x X.b dL_law_26 rfl (lv_at hl 3 rfl) ?_
      refine lv_iload_n X.x X.b dL_law_27 rfl (lv_at hl 0 rfl) ?_
      refine f_sld Y hh (j := i) rfl (by omega) dL_law_28 ?_
      refine lv_bipush (v := nI 31) X.x X.b dL_law_29 (by decide) ?_
      refine lv_iand X.x X.b dL_law_31 ?_
      obtain ⟨n, hn, e9⟩ := and31 (xs i)
      rw [e9]
      have hi5 : i + 5 ≤ L := by omega
      have nx : NX l G p e s m b below meth c i := by
        intro a1 σ1 ls1 H1 locs1 hA1 hC1 hM1 hl1 hh1
        refine lv_iinc (v := nI (i + 5)) (lv' := lvL G b (i + 5)) X.x X.b dL_law_721 hl1 (k := 0) rfl (nI_add i 5) (by decide) rfl (fun ls2 hl2 => ?_)
        refine lv_goto (tgt := 18) X.x X.b dL_law_724 (by decide) ?_
        exact ih (L - (i + 5)) (by omega) (i + 5) rfl (by omega) a1 σ1 hA1 hC1 hM1 ls2 H1 locs1 hl2 hh1
      by_cases hn18 : 18 < n
      · refine lv_tableOut (tgt := 721) X.x X.b dL_law_32 (Or.inr (by rw [nI_toInt (by omega)]; omega)) (by decide) ?_
        exact nx a σ ls H locs hA hC hM hl hh
      rcases (show n = 0 ∨ n = 1 ∨ n = 2 ∨ n = 3 ∨ n = 4 ∨ n = 5 ∨ n = 6 ∨ n = 7 ∨ n = 8 ∨ n = 9 ∨ n = 10 ∨ n = 11 ∨ n = 12 ∨ n = 13 ∨ n = 14 ∨ n = 15 ∨ n = 16 ∨ n = 17 ∨ n = 18 by omega) with rfl | rfl | rfl | rfl | rfl | rfl | rfl | rfl | rfl | rfl | rfl | rfl | rfl | rfl | rfl | rfl | rfl | rfl | rfl
      · exact lv_tableIn (off := 92) (tgt := 124) X.x X.b dL_law_32 (by decide) (by decide) (by decide +kernel) (by decide) (law_say Y hi5 hA hC hM hl hh nx)
      · exact lv_tableIn (off := 115) (tgt := 147) X.x X.b dL_law_32 (by decide) (by decide) (by decide +kernel) (by decide) (law_wipe Y hi5 hA hC hM hl hh nx)
      · exact lv_tableIn (off := 128) (tgt := 160) X.x X.b dL_law_32 (by decide) (by decide) (by decide +kernel) (by decide) (law_fault Y hi5 hA hC hM hl hh nx)
      · exact lv_tableIn (off := 151) (tgt := 183) X.x X.b dL_law_32 (by decide) (by decide) (by decide +kernel) (by decide) (law_line Y hi5 hA hC hM hl hh nx)
      · exact lv_tableIn (off := 174) (tgt := 206) X.x X.b dL_law_32 (by decide) (by decide) (by decide +kernel) (by decide) (law_tune Y hi5 hA hC hM hl hh nx)
      · exact lv_tableIn (off := 197) (tgt := 229) X.x X.b dL_law_32 (by decide) (by decide) (by decide +kernel) (by decide) (law_rule Y hi5 hA hC hM hl hh nx)
      · exact lv_tableIn (off := 230) (tgt := 262) X.x X.b dL_law_32 (by decide) (by decide) (by decide +kernel) (by decide) (law_syllable Y hi5 hA hC hM hl hh nx)
      · exact lv_tableIn (off := 273) (tgt := 305) X.x X.b dL_law_32 (by decide) (by decide) (by decide +kernel) (by decide) (law_note Y hi5 hA hC hM hl hh nx)
      · exact lv_tableIn (off := 316) (tgt := 348) X.x X.b dL_law_32 (by decide) (by decide) (by decide +kernel) (by decide) (law_cost Y hi5 hA hC hM hl hh nx)
      · exact lv_tableIn (off := 349) (tgt := 381) X.x X.b dL_law_32 (by decide) (by decide) (by decide +kernel) (by decide) (law_least Y hi5 hA hC hM hl hh nx)
      · exact lv_tableIn (off := 392) (tgt := 424) X.x X.b dL_law_32 (by decide) (by decide) (by decide +kernel) (by decide) (law_ways Y hi5 hA hC hM hl hh nx)
      · exact lv_tableIn (off := 435) (tgt := 467) X.x X.b dL_law_32 (by decide) (by decide) (by decide +kernel) (by decide) (law_sung Y hi5 hA hC hM hl hh nx)
      · exact lv_tableIn (off := 488) (tgt := 520) X.x X.b dL_law_32 (by decide) (by decide) (by decide +kernel) (by decide) (law_verse Y hi5 hA hC hM hl hh nx)
      · exact lv_tableIn (off := 511) (tgt := 543) X.x X.b dL_law_32 (by decide) (by decide) (by decide +kernel) (by decide) (law_best Y hi5 hA hC hM hl hh nx)
      · exact lv_tableIn (off := 534) (tgt := 566) X.x X.b dL_law_32 (by decide) (by decide) (by decide +kernel) (by decide) (law_turned Y hi5 hA hC hM hl hh nx)
      · exact lv_tableIn (off := 577) (tgt := 609) X.x X.b dL_law_32 (by decide) (by decide) (by decide +kernel) (by decide) (law_anew Y hi5 hA hC hM hl hh nx)
      · exact lv_tableIn (off := 620) (tgt := 652) X.x X.b dL_law_32 (by decide) (by decide) (by decide +kernel) (by decide) (law_image Y hi5 hA hC hM hl hh nx)
      · exact lv_tableIn (off := 643) (tgt := 675) X.x X.b dL_law_32 (by decide) (by decide) (by decide +kernel) (by decide) (law_restore Y hi5 hA hC hM hl hh nx)
      · exact lv_tableIn (off := 666) (tgt := 698) X.x X.b dL_law_32 (by decide) (by decide) (by decide +kernel) (by decide) (law_count Y hi5 hA hC hM hl hh nx)
    · refine lv_isub X.x X.b dL_law_22 ?_
      exact lv_icmp_gt (tgt := 727) X.x X.b dL_law_23 (by decide) (fun _ => fin) (fun h9 => absurd (l5 (by omega) (by omega)) h9)
end LAW
