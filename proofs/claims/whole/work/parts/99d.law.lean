/-! THE CLAIM OUT OF ONE WALK OF THE LAW'S BODY. Your part is whole_start (and what it stands on); all else here is the same for every law, but numbers. -/
def R_law : String := "SpinStripsLaw"
def lw_P (b : Addr) (xs : List Int32) (args : Array Value) (s : State) : Prop := args = #[.ref b] ∧ s.IntsAt b xs ∧ xs.length ≤ 2048 ∧ (Jvm.Cond.and given_1 narrow_1).before args s = true
/-- what a walk over the start with the record d0 says of its end, said of the start itself -/
theorem lw_closed {s t : State} {o : Outcome} {d0 : Drawn} {L : List Loc} {k n : Nat} (hd0 : s.drawn.sameBut d0 lw_cs) (hv : ∃ v, o = .returned v) (hW : (s.setDrawn d0).WarmedH t.vm) (hs : (s.setDrawn d0).sameButNew ({ t with vm := s.vm } : State) L k n) : State.butDraws s t lw_cs (fun t1 => Framed s o t1 L k n) := by
  have h2 : t.drawn = d0 := congrArg State.drawn hs.1
  refine ⟨⟨hv, hW, State.sameButNew.setDrawn hs s.drawn⟩, ?_, by decide⟩
  rw [h2]
  exact hd0
def lw_Q (_ : Array Value) (s : State) (o : Outcome) (t : State) : Prop := o = .returned (some (.int 1)) ∧ State.butDraws s t lw_cs (fun t1 => Framed s o t1 [] 600000 7302250)
def lw_Z (below : List Frame) (a : Array Value) (s : State) : State → Prop := fun t => ∃ o, t.status = .running ∧ Ended t below o ∧ lw_Q a s o t
/-- the law's own end, with 1 on the stack, nothing written that was there before, its room as the claim has it; d0: the record of draws at this point (at the entry s.drawn: begin with 'refine W.base ?_' and 'have hd0 := Drawn.sameBut.refl s.drawn lw_cs') -/
theorem lw_ret {p : Program} {l : Launch} {e : Env} {s : State} {m : MethodId} {below : List Frame} {meth : Method} {c : Code} {b : Nat} {d0 : Drawn} (hd0 : s.drawn.sameBut d0 lw_cs) (hx : p.tables.exec = Jvm.exec) (hb : c.code = code) (hr : meth.sig.returnType = ret) (hlocks : meth.locks = false) {pc : Nat} {H : Heap} {ls : Array Slot} (hdg : decode code pc = .ok (.ireturn, 1)) : W p l e room_1 (s.setDrawn d0) m #[Value.ref b] below meth c H [] 600000 7302250 (lw_Z below #[Value.ref b] s) (F0 m pc ls [.int 1]) := by
  intro T hT X
  obtain ⟨fs, hret, hrun, hended, hW, hframe⟩ := X.leave (v := some (.int 1)) (hlocks := hlocks) (fun h => by rw [hr] at h; cases h)
  have hmeth' : T.vm.method? m = some meth := X.method'
  refine ⟨T.setFrames fs, ?_, .returned (some (.int 1)), hrun, hended, rfl, lw_closed hd0 ⟨_, rfl⟩ hW hframe⟩
  jvm_step X.here [X.here.top, hx, hb, hdg, hmeth', hr, ret, narrow_b1]
  (try refine ⟨rfl, ?_⟩); (try refine ⟨rfl, ?_⟩)
  first | (intro acts; rw [hret _ acts rfl rfl rfl]) | rw [hret _ _ rfl rfl rfl]
  exact Steps.refl _
/-- what holds at the law's entry: the machine, the code, the tables' words (any of lw_tbl by 'hts w (by decide +kernel)'), the script of L ints xs at the cell b, what the Statement gives of the start (any of its parts by flat_of_before) -/
def lw_At (p : Program) (s : State) (m : MethodId) (meth : Method) (c : Code) (b L : Nat) (xs : Nat → Int32) : Prop :=
  p.tables.exec = Jvm.exec ∧ c.code = code ∧ meth.sig.returnType = ret ∧ c.maxLocals = 4 ∧ s.vm.findClass R_law = some m.cls ∧ (∀ w ∈ lw_tbl, w.before #[Value.ref b] s = true) ∧ va_X b L xs s s.heap ∧ b < s.heap.size ∧ meth.locks = false ∧ (Jvm.Cond.and given_1 narrow_1).before #[Value.ref b] s = true
theorem nL_7 : LkN RL 7 7 [.null, .null, .null, .null, .int 0, .null] := ⟨_, _, _, tyX7, cls_7.1, cls_7.2.1, tyX7_ok, by decide, lw_w_at (i := 82) (by decide +kernel) (by decide +kernel), lw_w_at (i := 83) (by decide +kernel) (by decide +kernel), lw_w_at (i := 66) (by decide +kernel) (by decide +kernel), rfl⟩
theorem nL_10 : LkN RL 10 8 [.null, .null, .null, .int 0, .null, .int 0, .null, .null, .null, .null, .null, .null, .null, .null, .null, .null, .null, .null, .int 0, .null, .int 0, .int 0, .int 0, .int 0] := ⟨_, _, _, tyX8, cls_8.1, cls_8.2.1, tyX8_ok, by decide, lw_w_at (i := 722) (by decide +kernel) (by decide +kernel), lw_w_at (i := 723) (by decide +kernel) (by decide +kernel), lw_w_at (i := 74) (by decide +kernel) (by decide +kernel), rfl⟩
theorem t_aoI : Cond.arrayOver (.array .int) ∈ lw_tbl := List.mem_of_getElem? (i := 157) (by decide +kernel)
theorem t_aoS : Cond.arrayOver (tyS) ∈ lw_tbl := List.mem_of_getElem? (i := 269) (by decide +kernel)
/-! THE LAW'S WALK -/
theorem CW.congr {σ τ : Sto} {w : Cs} (h : CW σ w) (s : ∀ k, k ≤ 113 → τ k = σ k) : CW τ w := by
  obtain ⟨h0, hS, hA, hH, ⟨B, hB, hBC⟩, hT⟩ := h
  exact ⟨(s 0 (by omega)).trans h0, hS.congr (s 1 (by omega)) (s 2 (by omega)), hA.congr (fun k a b => s k (by omega)), hH.congr (fun k a b => s k (by omega)), ⟨B, hB.congr (s 110 (by omega)) (s 111 (by omega)), hBC⟩, hT.congr (s 112 (by omega)) (s 113 (by omega))⟩
theorem MW.congr {σ τ : Sto} {w : Cs} (h : MW σ w) (s : ∀ k, 114 ≤ k → τ k = σ k) : MW τ w := by
  obtain ⟨⟨pl, sp, rc, rr, h0⟩, ⟨hA, g, h1, hR⟩, hAR, hl, ⟨gh, h2, hH⟩, hSn, hn, gt, h3, ht⟩ := h
  refine ⟨⟨pl, sp, rc, rr, (s 114 (by omega)).trans h0⟩, ⟨hA, g, (s 115 (by omega)).trans h1, hR⟩, fun k a b => ?_, hl, ⟨gh, (s 117 (by omega)).trans h2, hH⟩, fun B hB => ?_, hn, gt, (s 131 (by omega)).trans h3, ht⟩
  · obtain ⟨g, e⟩ := hAR k a b
    exact ⟨g, (s k (by omega)).trans e⟩
  · obtain ⟨a, g, e, r⟩ := hSn B hB
    exact ⟨a, g, (s 118 (by omega)).trans e, r⟩
theorem i32_ex (x : Int32) : ∃ z : Int, x = iI z ∧ -2147483648 ≤ z ∧ z < 2147483648 := ⟨x.toInt, iI_of x, Int32.le_toInt x, Int32.toInt_lt x⟩
/-- what the law stands on -/
def LC (p : Program) (s : State) (m : MethodId) (c : Code) (D : va_G) (aC : FieldType → ClassId) (b L : Nat) (xs : Nat → Int32) : Prop :=
  p.tables.exec = Jvm.exec ∧ c.code = cL_law ∧ c.maxLocals = 4 ∧ s.vm.findClass RL = some m.cls ∧ (∀ w ∈ lw_w, w.before #[Value.ref b] s = true) ∧ pw_K D aC s ∧ va_X b L xs s s.heap ∧ b < s.heap.size ∧ L ≤ 2048
def lw_L (s : State) (b i : Nat) : List (Nat × Value) := [(3, .int (nI i)), (2, .ref (s.heap.size + 114)), (1, .ref (s.heap.size + 0)), (0, .ref b)]
section LAW
variable {p : Program} {l : Launch} {e : Env} {s : State} {m : MethodId} {below : List Frame} {meth : Method} {c : Code} {D : va_G} {aC : FieldType → ClassId} {b L : Nat} {xs : Nat → Int32}
def LG (p : Program) (l : Launch) (e : Env) (s : State) (m : MethodId) (below : List Frame) (meth : Method) (c : Code) (D : va_G) (aC : FieldType → ClassId) (b : Nat) (pc : Nat) (S : List Value) (i : Nat) (σ : Sto) : Prop :=
  ∀ (H : Heap) (locs : List Loc) (ls : Array Slot), pw_W D aC s.heap.size 132 σ H → va_S (fun q => s.heap.size ≤ q) s.heap H locs → lv_has ls 4 (lw_L s b i) → W p l e room_1 s m #[Value.ref b] below meth c H locs 132 13253 (lw_Z below #[Value.ref b] s) (F0 m pc ls (S.map (pw_tv s.heap.size)))
variable {pc q i : Nat} {S : List Value} {σ : Sto}
theorem G_x (C0 : LC p s m c D aC b L xs) (d : decode cL_law pc = .ok (.aload_n 1, 1)) (hq : pc + 1 = q) (k : LG p l e s m below meth c D aC b q (.ref 0 :: S) i σ) : LG p l e s m below meth c D aC b pc S i σ := by
  subst hq
  intro H locs ls hW hS hl
  exact lv_aload_n C0.1 C0.2.1 d rfl (lv_at hl 2 rfl) (k H locs ls hW hS hl)
theorem G_m (C0 : LC p s m c D aC b L xs) (d : decode cL_law pc = .ok (.aload_n 2, 1)) (hq : pc + 1 = q) (k : LG p l e s m below meth c D aC b q (.ref 114 :: S) i σ) : LG p l e s m below meth c D aC b pc S i σ := by
  subst hq
  intro H locs ls hW hS hl
  exact lv_aload_n C0.1 C0.2.1 d rfl (lv_at hl 1 rfl) (k H locs ls hW hS hl)
theorem G_arg {kz : Int} (k : Nat) (C0 : LC p s m c D aC b L xs) (d0 : decode cL_law pc = .ok (.aload_n 0, 1)) (d1 : decode cL_law (pc + 1) = .ok (.iload_n 3, 1)) (d2 : decode cL_law (pc + 2) = .ok (.iconst kz, 1)) (d3 : decode cL_law (pc + 3) = .ok (.iadd, 1)) (d4 : decode cL_law (pc + 4) = .ok (.iaload, 1)) (hk : Int32.ofInt kz = nI k) (hi : i + k < L) (hq : pc + 5 = q) {x : Int32} (hx : xs (i + k) = x) (kk : LG p l e s m below meth c D aC b q (.int x :: S) i σ) : LG p l e s m below meth c D aC b pc S i σ := by
  subst hq; subst hx
  intro H locs ls hW hS hl
  obtain ⟨e1, e2, e3, e4, e5, e6, hX, hbl, hL⟩ := id C0
  refine lv_aload_n e1 e2 d0 rfl (lv_at hl 3 rfl) ?_
  refine lv_iload_n e1 e2 d1 rfl (lv_at hl 0 rfl) ?_
  refine lv_iconst e1 e2 d2 hk ?_
  refine lv_iadd e1 e2 d3 ?_
  rw [nI_add]
  refine va_sld e1 e2 hX hbl (Nat.not_le.mpr hbl) hS (vp_in_nI hi (by omega)) d4 ?_
  rw [nI_clamp (by omega)]
  exact kk H locs ls hW hS hl
theorem G_f0 {kz : Int} {x : Int32} (C0 : LC p s m c D aC b L xs) (d0 : decode cL_law pc = .ok (.ifCond .eq 7, 3)) (d1 : decode cL_law (pc + 7) = .ok (.iconst 0, 1)) (hx : x = 0) (hq : pc + 8 = q) (kk : LG p l e s m below meth c D aC b q (.int (bI false) :: S) i σ) : LG p l e s m below meth c D aC b pc (.int x :: S) i σ := by
  subst hq
  intro H locs ls hW hS hl
  refine lv_if_eq (tgt := pc + 7) C0.1 C0.2.1 d0 (by omega) (fun _ => ?_) (fun h => absurd hx h)
  refine lv_iconst (v := bI false) C0.1 C0.2.1 d1 (by decide) ?_
  exact kk H locs ls hW hS hl
theorem G_f1 {kz : Int} {x : Int32} (C0 : LC p s m c D aC b L xs) (d0 : decode cL_law pc = .ok (.ifCond .eq 7, 3)) (d1 : decode cL_law (pc + 3) = .ok (.iconst 1, 1)) (d2 : decode cL_law (pc + 4) = .ok (.goto 4, 3)) (hx : ¬ x = 0) (hq : pc + 8 = q) (kk : LG p l e s m below meth c D aC b q (.int (bI true) :: S) i σ) : LG p l e s m below meth c D aC b pc (.int x :: S) i σ := by
  subst hq
  intro H locs ls hW hS hl
  refine lv_if_eq (tgt := pc + 7) C0.1 C0.2.1 d0 (by omega) (fun h => absurd h hx) (fun _ => ?_)
  refine lv_iconst (v := bI true) C0.1 C0.2.1 d1 (by decide) ?_
  refine lv_goto (tgt := pc + 8) C0.1 C0.2.1 d2 (by omega) ?_
  exact kk H locs ls hW hS hl
theorem G_c {x v : Int32} (C0 : LC p s m c D aC b L xs) (d : decode cL_law pc = .ok (.i2c, 1)) (hv : (x.toUInt32 % 65536).toInt32 = v) (hq : pc + 1 = q) (kk : LG p l e s m below meth c D aC b q (.int v :: S) i σ) : LG p l e s m below meth c D aC b pc (.int x :: S) i σ := by
  subst hq
  intro H locs ls hW hS hl
  exact lv_i2c C0.1 C0.2.1 d hv (kk H locs ls hW hS hl)
theorem G_eq {off : Int} {x : Int32} (C0 : LC p s m c D aC b L xs) (d : decode cL_law pc = .ok (.if_icmp .eq off, 3)) (ht : (pc : Int) + off = (q : Int)) (kk : LG p l e s m below meth c D aC b q S i σ) : LG p l e s m below meth c D aC b pc (.int x :: .int x :: S) i σ := by
  intro H locs ls hW hS hl
  exact lv_icmp_eq (tgt := q) C0.1 C0.2.1 d ht (fun _ => kk H locs ls hW hS hl) (fun h => absurd rfl h)
theorem G_call {N : Mth} {idx na b0 ci : Nat} {As st : List Value} {fs : List Value} {Q' : Option Value → Sto → Prop} (C0 : LC p s m c D aC b L xs) (d : decode cL_law pc = .ok (.invokevirtual idx, 3)) (hq : pc + 3 = q) (hM : CP N 0 0 (.ref b0 :: As) 132 σ Q') (hl : LkV RL idx N na) (hna : As.length = na) (hst : As.reverse ++ .ref b0 :: S = st) (hbn : b0 < 132) (hσ : σ b0 = pO ci fs) (hci : (vwCl[ci]?).map (fun q => q.1) = some N.1.cls) (hR : pw_fit N room_1) (hsum : (S.map fun v => v.category).sum ≤ 8) (kk : ∀ (v : Option Value) (σ' : Sto), Q' v σ' → LG p l e s m below meth c D aC b q (v.toList ++ S) i σ') : LG p l e s m below meth c D aC b pc st i σ := by
  subst hq; subst hst
  intro H locs ls hW hS hl'
  refine pw_after (pw_callv C0.1 C0.2.1 C0.2.2.1 C0.2.2.2.1 C0.2.2.2.2.1 C0.2.2.2.2.2.1 hW hl'.1 hM hl hna hbn hσ hci hR hsum d ⟨by decide, by decide⟩) hS hW (fun v σ' H1 locs1 hQ hW1 hS1 => ?_)
  rw [pw_stk]
  exact kk v σ' hQ H1 locs1 ls hW1 hS1 hl' 
set_option maxRecDepth 100000 in
set_option maxHeartbeats 4000000 in
theorem cs_lay {w : Cs} (C0 : LC p s m c D aC b L xs) (hi : i + 3 < L) (hw : CW σ w) (hm : MW σ w) (kk : ∀ (w' : Cs) (σ' : Sto), CW σ' w' → MW σ' w' → LG p l e s m below meth c D aC b 747 [] i σ') : LG p l e s m below meth c D aC b 132 [] i σ := by
  obtain ⟨z1, e1, l1, u1⟩ := i32_ex (xs (i + 1))
  obtain ⟨z2, e2, l2, u2⟩ := i32_ex (xs (i + 2))
  by_cases hf : xs (i + 3) = 0
  · refine G_x (q := 133) C0 dL_law_132 rfl ?_
    refine G_arg (q := 138) 1 C0 dL_law_133 dL_law_134 dL_law_135 dL_law_136 dL_law_137 (by decide) (by omega) rfl e1 ?_
    refine G_arg (q := 143) 2 C0 dL_law_138 dL_law_139 dL_law_140 dL_law_141 dL_law_142 (by decide) (by omega) rfl e2 ?_
    refine G_arg (q := 148) 3 C0 dL_law_143 dL_law_144 dL_law_145 dL_law_146 dL_law_147 (by decide) (by omega) rfl rfl ?_
    refine G_f0 (kz := 0) (q := 156) C0 dL_law_148 dL_law_155 hf rfl ?_
    refine G_call (q := 159) C0 dL_law_156 rfl (a_lay hw l1 u1 l2 u2 false) kL_13 rfl rfl (by decide) (hw.1) rfl ⟨by decide, by decide⟩ (Nat.le_of_ble_eq_true rfl) ?_
    rintro v σ1 ⟨rfl, hw1, t1⟩
    have hm1 : MW σ1 w := hm.congr (fun k hk => t1 k (by omega))
    refine G_m (q := 160) C0 dL_law_159 rfl ?_
    refine G_arg (q := 165) 1 C0 dL_law_160 dL_law_161 dL_law_162 dL_law_163 dL_law_164 (by decide) (by omega) rfl e1 ?_
    refine G_arg (q := 170) 2 C0 dL_law_165 dL_law_166 dL_law_167 dL_law_168 dL_law_169 (by decide) (by omega) rfl e2 ?_
    refine G_arg (q := 175) 3 C0 dL_law_170 dL_law_171 dL_law_172 dL_law_173 dL_law_174 (by decide) (by omega) rfl rfl ?_
    refine G_f0 (kz := 0) (q := 183) C0 dL_law_175 dL_law_182 hf rfl ?_
    refine G_call (q := 186) C0 dL_law_183 rfl (r_lay hm1 l1 u1 l2 u2 false) kL_17 rfl rfl (by decide) (hm1.1.choose_spec.choose_spec.choose_spec.choose_spec) rfl ⟨by decide, by decide⟩ (Nat.le_of_ble_eq_true rfl) ?_
    rintro v σ2 ⟨rfl, hm2, t2⟩
    refine G_eq (q := 747) C0 dL_law_186 (by decide) ?_
    exact kk _ σ2 (hw1.congr (fun k hk => t2 k (by omega))) hm2
  · refine G_x (q := 133) C0 dL_law_132 rfl ?_
    refine G_arg (q := 138) 1 C0 dL_law_133 dL_law_134 dL_law_135 dL_law_136 dL_law_137 (by decide) (by omega) rfl e1 ?_
    refine G_arg (q := 143) 2 C0 dL_law_138 dL_law_139 dL_law_140 dL_law_141 dL_law_142 (by decide) (by omega) rfl e2 ?_
    refine G_arg (q := 148) 3 C0 dL_law_143 dL_law_144 dL_law_145 dL_law_146 dL_law_147 (by decide) (by omega) rfl rfl ?_
    refine G_f1 (kz := 0) (q := 156) C0 dL_law_148 dL_law_151 dL_law_152 hf rfl ?_
    refine G_call (q := 159) C0 dL_law_156 rfl (a_lay hw l1 u1 l2 u2 true) kL_13 rfl rfl (by decide) (hw.1) rfl ⟨by decide, by decide⟩ (Nat.le_of_ble_eq_true rfl) ?_
    rintro v σ1 ⟨rfl, hw1, t1⟩
    have hm1 : MW σ1 w := hm.congr (fun k hk => t1 k (by omega))
    refine G_m (q := 160) C0 dL_law_159 rfl ?_
    refine G_arg (q := 165) 1 C0 dL_law_160 dL_law_161 dL_law_162 dL_law_163 dL_law_164 (by decide) (by omega) rfl e1 ?_
    refine G_arg (q := 170) 2 C0 dL_law_165 dL_law_166 dL_law_167 dL_law_168 dL_law_169 (by decide) (by omega) rfl e2 ?_
    refine G_arg (q := 175) 3 C0 dL_law_170 dL_law_171 dL_law_172 dL_law_173 dL_law_174 (by decide) (by omega) rfl rfl ?_
    refine G_f1 (kz := 0) (q := 183) C0 dL_law_175 dL_law_178 dL_law_179 hf rfl ?_
    refine G_call (q := 186) C0 dL_law_183 rfl (r_lay hm1 l1 u1 l2 u2 true) kL_17 rfl rfl (by decide) (hm1.1.choose_spec.choose_spec.choose_spec.choose_spec) rfl ⟨by decide, by decide⟩ (Nat.le_of_ble_eq_true rfl) ?_
    rintro v σ2 ⟨rfl, hm2, t2⟩
    refine G_eq (q := 747) C0 dL_law_186 (by decide) ?_
    exact kk _ σ2 (hw1.congr (fun k hk => t2 k (by omega))) hm2
set_option maxRecDepth 100000 in
set_option maxHeartbeats 4000000 in
theorem cs_read {w : Cs} (C0 : LC p s m c D aC b L xs) (hi : i + 3 < L) (hw : CW σ w) (hm : MW σ w) (kk : ∀ (w' : Cs) (σ' : Sto), CW σ' w' → MW σ' w' → LG p l e s m below meth c D aC b 747 [] i σ') : LG p l e s m below meth c D aC b 191 [] i σ := by
  refine G_x (q := 192) C0 dL_law_191 rfl ?_
  refine G_call (q := 195) C0 dL_law_192 rfl (a_read hw) kL_18 rfl rfl (by decide) (hw.1) rfl ⟨by decide, by decide⟩ (Nat.le_of_ble_eq_true rfl) ?_
  rintro v σ1 ⟨rfl, hw1, t1⟩
  have hm1 : MW σ1 w := hm.congr (fun k hk => t1 k (by omega))
  refine G_m (q := 196) C0 dL_law_195 rfl ?_
  refine G_call (q := 199) C0 dL_law_196 rfl (r_read hm1 hw.2.2.2.2.2.2.1) kL_22 rfl rfl (by decide) (hm1.1.choose_spec.choose_spec.choose_spec.choose_spec) rfl ⟨by decide, by decide⟩ (Nat.le_of_ble_eq_true rfl) ?_
  rintro v σ2 ⟨rfl, hm2, t2⟩
  refine G_eq (q := 747) C0 dL_law_199 (by decide) ?_
  exact kk _ σ2 (hw1.congr (fun k hk => t2 k (by omega))) hm2
set_option maxRecDepth 100000 in
set_option maxHeartbeats 4000000 in
theorem cs_close {w : Cs} (C0 : LC p s m c D aC b L xs) (hi : i + 3 < L) (hw : CW σ w) (hm : MW σ w) (kk : ∀ (w' : Cs) (σ' : Sto), CW σ' w' → MW σ' w' → LG p l e s m below meth c D aC b 747 [] i σ') : LG p l e s m below meth c D aC b 204 [] i σ := by
  by_cases hf : xs (i + 1) = 0
  · refine G_x (q := 205) C0 dL_law_204 rfl ?_
    refine G_arg (q := 210) 1 C0 dL_law_205 dL_law_206 dL_law_207 dL_law_208 dL_law_209 (by decide) (by omega) rfl rfl ?_
    refine G_f0 (kz := 0) (q := 218) C0 dL_law_210 dL_law_217 hf rfl ?_
    refine G_call (q := 221) C0 dL_law_218 rfl (a_close hw false) kL_23 rfl rfl (by decide) (hw.1) rfl ⟨by decide, by decide⟩ (Nat.le_of_ble_eq_true rfl) ?_
    rintro v σ1 ⟨rfl, hw1, t1⟩
    have hm1 : MW σ1 w := hm.congr (fun k hk => t1 k (by omega))
    refine G_m (q := 222) C0 dL_law_221 rfl ?_
    refine G_arg (q := 227) 1 C0 dL_law_222 dL_law_223 dL_law_224 dL_law_225 dL_law_226 (by decide) (by omega) rfl rfl ?_
    refine G_f0 (kz := 0) (q := 235) C0 dL_law_227 dL_law_234 hf rfl ?_
    refine G_call (q := 238) C0 dL_law_235 rfl (r_close hm1 false) kL_27 rfl rfl (by decide) (hm1.1.choose_spec.choose_spec.choose_spec.choose_spec) rfl ⟨by decide, by decide⟩ (Nat.le_of_ble_eq_true rfl) ?_
    rintro v σ2 ⟨rfl, hm2, t2⟩
    refine G_eq (q := 747) C0 dL_law_238 (by decide) ?_
    exact kk _ σ2 (hw1.congr (fun k hk => t2 k (by omega))) hm2
  · refine G_x (q := 205) C0 dL_law_204 rfl ?_
    refine G_arg (q := 210) 1 C0 dL_law_205 dL_law_206 dL_law_207 dL_law_208 dL_law_209 (by decide) (by omega) rfl rfl ?_
    refine G_f1 (kz := 0) (q := 218) C0 dL_law_210 dL_law_213 dL_law_214 hf rfl ?_
    refine G_call (q := 221) C0 dL_law_218 rfl (a_close hw true) kL_23 rfl rfl (by decide) (hw.1) rfl ⟨by decide, by decide⟩ (Nat.le_of_ble_eq_true rfl) ?_
    rintro v σ1 ⟨rfl, hw1, t1⟩
    have hm1 : MW σ1 w := hm.congr (fun k hk => t1 k (by omega))
    refine G_m (q := 222) C0 dL_law_221 rfl ?_
    refine G_arg (q := 227) 1 C0 dL_law_222 dL_law_223 dL_law_224 dL_law_225 dL_law_226 (by decide) (by omega) rfl rfl ?_
    refine G_f1 (kz := 0) (q := 235) C0 dL_law_227 dL_law_230 dL_law_231 hf rfl ?_
    refine G_call (q := 238) C0 dL_law_235 rfl (r_close hm1 true) kL_27 rfl rfl (by decide) (hm1.1.choose_spec.choose_spec.choose_spec.choose_spec) rfl ⟨by decide, by decide⟩ (Nat.le_of_ble_eq_true rfl) ?_
    rintro v σ2 ⟨rfl, hm2, t2⟩
    refine G_eq (q := 747) C0 dL_law_238 (by decide) ?_
    exact kk _ σ2 (hw1.congr (fun k hk => t2 k (by omega))) hm2
set_option maxRecDepth 100000 in
set_option maxHeartbeats 4000000 in
theorem cs_pull {w : Cs} (C0 : LC p s m c D aC b L xs) (hi : i + 3 < L) (hw : CW σ w) (hm : MW σ w) (kk : ∀ (w' : Cs) (σ' : Sto), CW σ' w' → MW σ' w' → LG p l e s m below meth c D aC b 747 [] i σ') : LG p l e s m below meth c D aC b 243 [] i σ := by
  obtain ⟨z2, e2, l2, u2⟩ := i32_ex (xs (i + 2))
  by_cases hf : xs (i + 1) = 0
  · refine G_x (q := 244) C0 dL_law_243 rfl ?_
    refine G_arg (q := 249) 1 C0 dL_law_244 dL_law_245 dL_law_246 dL_law_247 dL_law_248 (by decide) (by omega) rfl rfl ?_
    refine G_f0 (kz := 0) (q := 257) C0 dL_law_249 dL_law_256 hf rfl ?_
    refine G_arg (q := 262) 2 C0 dL_law_257 dL_law_258 dL_law_259 dL_law_260 dL_law_261 (by decide) (by omega) rfl e2 ?_
    refine G_call (q := 265) C0 dL_law_262 rfl (a_pull_false hw l2 u2) kL_28 rfl rfl (by decide) (hw.1) rfl ⟨by decide, by decide⟩ (Nat.le_of_ble_eq_true rfl) ?_
    rintro v σ1 ⟨rfl, hw1, t1⟩
    have hm1 : MW σ1 w := hm.congr (fun k hk => t1 k (by omega))
    refine G_m (q := 266) C0 dL_law_265 rfl ?_
    refine G_arg (q := 271) 1 C0 dL_law_266 dL_law_267 dL_law_268 dL_law_269 dL_law_270 (by decide) (by omega) rfl rfl ?_
    refine G_f0 (kz := 0) (q := 279) C0 dL_law_271 dL_law_278 hf rfl ?_
    refine G_arg (q := 284) 2 C0 dL_law_279 dL_law_280 dL_law_281 dL_law_282 dL_law_283 (by decide) (by omega) rfl e2 ?_
    refine G_call (q := 287) C0 dL_law_284 rfl (r_pull hm1 false l2 u2) kL_32 rfl rfl (by decide) (hm1.1.choose_spec.choose_spec.choose_spec.choose_spec) rfl ⟨by decide, by decide⟩ (Nat.le_of_ble_eq_true rfl) ?_
    rintro v σ2 ⟨rfl, hm2, t2⟩
    refine G_eq (q := 747) C0 dL_law_287 (by decide) ?_
    exact kk _ σ2 (hw1.congr (fun k hk => t2 k (by omega))) hm2
  · refine G_x (q := 244) C0 dL_law_243 rfl ?_
    refine G_arg (q := 249) 1 C0 dL_law_244 dL_law_245 dL_law_246 dL_law_247 dL_law_248 (by decide) (by omega) rfl rfl ?_
    refine G_f1 (kz := 0) (q := 257) C0 dL_law_249 dL_law_252 dL_law_253 hf rfl ?_
    refine G_arg (q := 262) 2 C0 dL_law_257 dL_law_258 dL_law_259 dL_law_260 dL_law_261 (by decide) (by omega) rfl e2 ?_
    refine G_call (q := 265) C0 dL_law_262 rfl (a_pull_true hw l2 u2) kL_28 rfl rfl (by decide) (hw.1) rfl ⟨by decide, by decide⟩ (Nat.le_of_ble_eq_true rfl) ?_
    rintro v σ1 ⟨rfl, hw1, t1⟩
    have hm1 : MW σ1 w := hm.congr (fun k hk => t1 k (by omega))
    refine G_m (q := 266) C0 dL_law_265 rfl ?_
    refine G_arg (q := 271) 1 C0 dL_law_266 dL_law_267 dL_law_268 dL_law_269 dL_law_270 (by decide) (by omega) rfl rfl ?_
    refine G_f1 (kz := 0) (q := 279) C0 dL_law_271 dL_law_274 dL_law_275 hf rfl ?_
    refine G_arg (q := 284) 2 C0 dL_law_279 dL_law_280 dL_law_281 dL_law_282 dL_law_283 (by decide) (by omega) rfl e2 ?_
    refine G_call (q := 287) C0 dL_law_284 rfl (r_pull hm1 true l2 u2) kL_32 rfl rfl (by decide) (hm1.1.choose_spec.choose_spec.choose_spec.choose_spec) rfl ⟨by decide, by decide⟩ (Nat.le_of_ble_eq_true rfl) ?_
    rintro v σ2 ⟨rfl, hm2, t2⟩
    refine G_eq (q := 747) C0 dL_law_287 (by decide) ?_
    exact kk _ σ2 (hw1.congr (fun k hk => t2 k (by omega))) hm2
set_option maxRecDepth 100000 in
set_option maxHeartbeats 4000000 in
theorem cs_field {w : Cs} (C0 : LC p s m c D aC b L xs) (hi : i + 3 < L) (hw : CW σ w) (hm : MW σ w) (kk : ∀ (w' : Cs) (σ' : Sto), CW σ' w' → MW σ' w' → LG p l e s m below meth c D aC b 747 [] i σ') : LG p l e s m below meth c D aC b 292 [] i σ := by
  obtain ⟨z1, e1, l1, u1⟩ := i32_ex (xs (i + 1))
  obtain ⟨z2, e2, l2, u2⟩ := i32_ex (xs (i + 2))
  obtain ⟨z3, e3, l3, u3⟩ := i32_ex (xs (i + 3))
  refine G_x (q := 293) C0 dL_law_292 rfl ?_
  refine G_arg (q := 298) 1 C0 dL_law_293 dL_law_294 dL_law_295 dL_law_296 dL_law_297 (by decide) (by omega) rfl e1 ?_
  refine G_arg (q := 303) 2 C0 dL_law_298 dL_law_299 dL_law_300 dL_law_301 dL_law_302 (by decide) (by omega) rfl e2 ?_
  refine G_arg (q := 308) 3 C0 dL_law_303 dL_law_304 dL_law_305 dL_law_306 dL_law_307 (by decide) (by omega) rfl e3 ?_
  refine G_call (q := 311) C0 dL_law_308 rfl (a_field hw l1 u1 l2 u2 l3 u3) kL_33 rfl rfl (by decide) (hw.1) rfl ⟨by decide, by decide⟩ (Nat.le_of_ble_eq_true rfl) ?_
  rintro v σ1 ⟨rfl, hw1, t1⟩
  have hm1 : MW σ1 w := hm.congr (fun k hk => t1 k (by omega))
  refine G_m (q := 312) C0 dL_law_311 rfl ?_
  refine G_arg (q := 317) 1 C0 dL_law_312 dL_law_313 dL_law_314 dL_law_315 dL_law_316 (by decide) (by omega) rfl e1 ?_
  refine G_arg (q := 322) 2 C0 dL_law_317 dL_law_318 dL_law_319 dL_law_320 dL_law_321 (by decide) (by omega) rfl e2 ?_
  refine G_arg (q := 327) 3 C0 dL_law_322 dL_law_323 dL_law_324 dL_law_325 dL_law_326 (by decide) (by omega) rfl e3 ?_
  refine G_call (q := 330) C0 dL_law_327 rfl (r_field hm1 l1 u1 l2 u2 l3 u3) kL_37 rfl rfl (by decide) (hm1.1.choose_spec.choose_spec.choose_spec.choose_spec) rfl ⟨by decide, by decide⟩ (Nat.le_of_ble_eq_true rfl) ?_
  rintro v σ2 ⟨rfl, hm2, t2⟩
  refine G_eq (q := 747) C0 dL_law_330 (by decide) ?_
  exact kk _ σ2 (hw1.congr (fun k hk => t2 k (by omega))) hm2
set_option maxRecDepth 100000 in
set_option maxHeartbeats 4000000 in
theorem cs_turn {w : Cs} (C0 : LC p s m c D aC b L xs) (hi : i + 3 < L) (hw : CW σ w) (hm : MW σ w) (kk : ∀ (w' : Cs) (σ' : Sto), CW σ' w' → MW σ' w' → LG p l e s m below meth c D aC b 747 [] i σ') : LG p l e s m below meth c D aC b 335 [] i σ := by
  obtain ⟨z1, e1, l1, u1⟩ := i32_ex (xs (i + 1))
  obtain ⟨z2, e2, l2, u2⟩ := i32_ex (xs (i + 2))
  refine G_x (q := 336) C0 dL_law_335 rfl ?_
  refine G_arg (q := 341) 1 C0 dL_law_336 dL_law_337 dL_law_338 dL_law_339 dL_law_340 (by decide) (by omega) rfl e1 ?_
  refine G_arg (q := 346) 2 C0 dL_law_341 dL_law_342 dL_law_343 dL_law_344 dL_law_345 (by decide) (by omega) rfl e2 ?_
  refine G_call (q := 349) C0 dL_law_346 rfl (a_turn hw l1 u1 l2 u2) kL_38 rfl rfl (by decide) (hw.1) rfl ⟨by decide, by decide⟩ (Nat.le_of_ble_eq_true rfl) ?_
  rintro v σ1 ⟨rfl, hw1, t1⟩
  have hm1 : MW σ1 w := hm.congr (fun k hk => t1 k (by omega))
  refine G_m (q := 350) C0 dL_law_349 rfl ?_
  refine G_arg (q := 355) 1 C0 dL_law_350 dL_law_351 dL_law_352 dL_law_353 dL_law_354 (by decide) (by omega) rfl e1 ?_
  refine G_arg (q := 360) 2 C0 dL_law_355 dL_law_356 dL_law_357 dL_law_358 dL_law_359 (by decide) (by omega) rfl e2 ?_
  refine G_call (q := 363) C0 dL_law_360 rfl (r_turn hm1 l1 u1 l2 u2) kL_42 rfl rfl (by decide) (hm1.1.choose_spec.choose_spec.choose_spec.choose_spec) rfl ⟨by decide, by decide⟩ (Nat.le_of_ble_eq_true rfl) ?_
  rintro v σ2 ⟨rfl, hm2, t2⟩
  refine G_eq (q := 747) C0 dL_law_363 (by decide) ?_
  exact kk _ σ2 (hw1.congr (fun k hk => t2 k (by omega))) hm2
set_option maxRecDepth 100000 in
set_option maxHeartbeats 4000000 in
theorem cs_patch {w : Cs} (C0 : LC p s m c D aC b L xs) (hi : i + 3 < L) (hw : CW σ w) (hm : MW σ w) (kk : ∀ (w' : Cs) (σ' : Sto), CW σ' w' → MW σ' w' → LG p l e s m below meth c D aC b 747 [] i σ') : LG p l e s m below meth c D aC b 368 [] i σ := by
  obtain ⟨z1, e1, l1, u1⟩ := i32_ex (xs (i + 1))
  obtain ⟨z2, e2, l2, u2⟩ := i32_ex (xs (i + 2))
  refine G_x (q := 369) C0 dL_law_368 rfl ?_
  refine G_arg (q := 374) 1 C0 dL_law_369 dL_law_370 dL_law_371 dL_law_372 dL_law_373 (by decide) (by omega) rfl e1 ?_
  refine G_arg (q := 379) 2 C0 dL_law_374 dL_law_375 dL_law_376 dL_law_377 dL_law_378 (by decide) (by omega) rfl e2 ?_
  refine G_call (q := 382) C0 dL_law_379 rfl (a_patch hw l1 u1 l2 u2) kL_43 rfl rfl (by decide) (hw.1) rfl ⟨by decide, by decide⟩ (Nat.le_of_ble_eq_true rfl) ?_
  rintro v σ1 ⟨rfl, hw1, t1⟩
  have hm1 : MW σ1 w := hm.congr (fun k hk => t1 k (by omega))
  refine G_m (q := 383) C0 dL_law_382 rfl ?_
  refine G_arg (q := 388) 1 C0 dL_law_383 dL_law_384 dL_law_385 dL_law_386 dL_law_387 (by decide) (by omega) rfl e1 ?_
  refine G_arg (q := 393) 2 C0 dL_law_388 dL_law_389 dL_law_390 dL_law_391 dL_law_392 (by decide) (by omega) rfl e2 ?_
  refine G_call (q := 396) C0 dL_law_393 rfl (r_patch hm1 l1 u1 l2 u2) kL_46 rfl rfl (by decide) (hm1.1.choose_spec.choose_spec.choose_spec.choose_spec) rfl ⟨by decide, by decide⟩ (Nat.le_of_ble_eq_true rfl) ?_
  rintro v σ2 ⟨rfl, hm2, t2⟩
  refine G_eq (q := 747) C0 dL_law_396 (by decide) ?_
  exact kk _ σ2 (hw1.congr (fun k hk => t2 k (by omega))) hm2
set_option maxRecDepth 100000 in
set_option maxHeartbeats 4000000 in
theorem cs_sweep {w : Cs} (C0 : LC p s m c D aC b L xs) (hi : i + 3 < L) (hw : CW σ w) (hm : MW σ w) (kk : ∀ (w' : Cs) (σ' : Sto), CW σ' w' → MW σ' w' → LG p l e s m below meth c D aC b 747 [] i σ') : LG p l e s m below meth c D aC b 401 [] i σ := by
  obtain ⟨z1, e1, l1, u1⟩ := i32_ex (xs (i + 1))
  refine G_x (q := 402) C0 dL_law_401 rfl ?_
  refine G_arg (q := 407) 1 C0 dL_law_402 dL_law_403 dL_law_404 dL_law_405 dL_law_406 (by decide) (by omega) rfl e1 ?_
  refine G_call (q := 410) C0 dL_law_407 rfl (a_sweep hw l1 u1) kL_47 rfl rfl (by decide) (hw.1) rfl ⟨by decide, by decide⟩ (Nat.le_of_ble_eq_true rfl) ?_
  rintro v σ1 ⟨rfl, hw1, t1⟩
  have hm1 : MW σ1 w := hm.congr (fun k hk => t1 k (by omega))
  refine G_m (q := 411) C0 dL_law_410 rfl ?_
  refine G_arg (q := 416) 1 C0 dL_law_411 dL_law_412 dL_law_413 dL_law_414 dL_law_415 (by decide) (by omega) rfl e1 ?_
  refine G_call (q := 419) C0 dL_law_416 rfl (r_sweep hm1 l1 u1) kL_51 rfl rfl (by decide) (hm1.1.choose_spec.choose_spec.choose_spec.choose_spec) rfl ⟨by decide, by decide⟩ (Nat.le_of_ble_eq_true rfl) ?_
  rintro v σ2 ⟨rfl, hm2, t2⟩
  refine G_eq (q := 747) C0 dL_law_419 (by decide) ?_
  exact kk _ σ2 (hw1.congr (fun k hk => t2 k (by omega))) hm2
set_option maxRecDepth 100000 in
set_option maxHeartbeats 4000000 in
theorem cs_settle {w : Cs} (C0 : LC p s m c D aC b L xs) (hi : i + 3 < L) (hw : CW σ w) (hm : MW σ w) (kk : ∀ (w' : Cs) (σ' : Sto), CW σ' w' → MW σ' w' → LG p l e s m below meth c D aC b 747 [] i σ') : LG p l e s m below meth c D aC b 424 [] i σ := by
  refine G_x (q := 425) C0 dL_law_424 rfl ?_
  refine G_call (q := 428) C0 dL_law_425 rfl (a_settle hw) kL_52 rfl rfl (by decide) (hw.1) rfl ⟨by decide, by decide⟩ (Nat.le_of_ble_eq_true rfl) ?_
  rintro v σ1 ⟨rfl, hw1, t1⟩
  have hm1 : MW σ1 w := hm.congr (fun k hk => t1 k (by omega))
  refine G_m (q := 429) C0 dL_law_428 rfl ?_
  refine G_call (q := 432) C0 dL_law_429 rfl (r_settle hm1) kL_55 rfl rfl (by decide) (hm1.1.choose_spec.choose_spec.choose_spec.choose_spec) rfl ⟨by decide, by decide⟩ (Nat.le_of_ble_eq_true rfl) ?_
  rintro v σ2 ⟨rfl, hm2, t2⟩
  refine G_eq (q := 747) C0 dL_law_432 (by decide) ?_
  exact kk _ σ2 (hw1.congr (fun k hk => t2 k (by omega))) hm2
set_option maxRecDepth 100000 in
set_option maxHeartbeats 4000000 in
theorem cs_type {w : Cs} (C0 : LC p s m c D aC b L xs) (hi : i + 3 < L) (hw : CW σ w) (hm : MW σ w) (kk : ∀ (w' : Cs) (σ' : Sto), CW σ' w' → MW σ' w' → LG p l e s m below meth c D aC b 747 [] i σ') : LG p l e s m below meth c D aC b 437 [] i σ := by
  have hc : ((xs (i + 1)).toUInt32 % 65536).toNat < 65536 := by
    rw [UInt32.toNat_mod]
    exact Nat.mod_lt _ (by decide)
  refine G_x (q := 438) C0 dL_law_437 rfl ?_
  refine G_arg (q := 443) 1 C0 dL_law_438 dL_law_439 dL_law_440 dL_law_441 dL_law_442 (by decide) (by omega) rfl rfl ?_
  refine G_c (q := 444) C0 dL_law_443 (fz_i32 rfl) rfl ?_
  refine G_call (q := 447) C0 dL_law_444 rfl (a_type hw hc) kL_56 rfl rfl (by decide) (hw.1) rfl ⟨by decide, by decide⟩ (Nat.le_of_ble_eq_true rfl) ?_
  rintro v σ1 ⟨rfl, hw1, t1⟩
  have hm1 : MW σ1 w := hm.congr (fun k hk => t1 k (by omega))
  refine G_m (q := 448) C0 dL_law_447 rfl ?_
  refine G_arg (q := 453) 1 C0 dL_law_448 dL_law_449 dL_law_450 dL_law_451 dL_law_452 (by decide) (by omega) rfl rfl ?_
  refine G_c (q := 454) C0 dL_law_453 (fz_i32 rfl) rfl ?_
  refine G_call (q := 457) C0 dL_law_454 rfl (r_type hm1 hc) kL_60 rfl rfl (by decide) (hm1.1.choose_spec.choose_spec.choose_spec.choose_spec) rfl ⟨by decide, by decide⟩ (Nat.le_of_ble_eq_true rfl) ?_
  rintro v σ2 ⟨rfl, hm2, t2⟩
  refine G_eq (q := 747) C0 dL_law_457 (by decide) ?_
  exact kk _ σ2 (hw1.congr (fun k hk => t2 k (by omega))) hm2
set_option maxRecDepth 100000 in
set_option maxHeartbeats 4000000 in
theorem cs_clear {w : Cs} (C0 : LC p s m c D aC b L xs) (hi : i + 3 < L) (hw : CW σ w) (hm : MW σ w) (kk : ∀ (w' : Cs) (σ' : Sto), CW σ' w' → MW σ' w' → LG p l e s m below meth c D aC b 747 [] i σ') : LG p l e s m below meth c D aC b 462 [] i σ := by
  refine G_x (q := 463) C0 dL_law_462 rfl ?_
  refine G_call (q := 466) C0 dL_law_463 rfl (a_clear hw) kL_61 rfl rfl (by decide) (hw.1) rfl ⟨by decide, by decide⟩ (Nat.le_of_ble_eq_true rfl) ?_
  rintro v σ1 ⟨rfl, hw1, t1⟩
  have hm1 : MW σ1 w := hm.congr (fun k hk => t1 k (by omega))
  refine G_m (q := 467) C0 dL_law_466 rfl ?_
  refine G_call (q := 470) C0 dL_law_467 rfl (r_clear hm1) kL_64 rfl rfl (by decide) (hm1.1.choose_spec.choose_spec.choose_spec.choose_spec) rfl ⟨by decide, by decide⟩ (Nat.le_of_ble_eq_true rfl) ?_
  rintro v σ2 ⟨rfl, hm2, t2⟩
  refine G_eq (q := 747) C0 dL_law_470 (by decide) ?_
  exact kk _ σ2 (hw1.congr (fun k hk => t2 k (by omega))) hm2
set_option maxRecDepth 100000 in
set_option maxHeartbeats 4000000 in
theorem cs_undo {w : Cs} (C0 : LC p s m c D aC b L xs) (hi : i + 3 < L) (hw : CW σ w) (hm : MW σ w) (kk : ∀ (w' : Cs) (σ' : Sto), CW σ' w' → MW σ' w' → LG p l e s m below meth c D aC b 747 [] i σ') : LG p l e s m below meth c D aC b 475 [] i σ := by
  refine G_x (q := 476) C0 dL_law_475 rfl ?_
  refine G_call (q := 479) C0 dL_law_476 rfl (a_undo hw) kL_65 rfl rfl (by decide) (hw.1) rfl ⟨by decide, by decide⟩ (Nat.le_of_ble_eq_true rfl) ?_
  rintro v σ1 ⟨rfl, hw1, t1⟩
  have hm1 : MW σ1 w := hm.congr (fun k hk => t1 k (by omega))
  refine G_m (q := 480) C0 dL_law_479 rfl ?_
  refine G_call (q := 483) C0 dL_law_480 rfl (r_undo hm1) kL_68 rfl rfl (by decide) (hm1.1.choose_spec.choose_spec.choose_spec.choose_spec) rfl ⟨by decide, by decide⟩ (Nat.le_of_ble_eq_true rfl) ?_
  rintro v σ2 ⟨rfl, hm2, t2⟩
  refine G_eq (q := 747) C0 dL_law_483 (by decide) ?_
  exact kk _ σ2 (hw1.congr (fun k hk => t2 k (by omega))) hm2
set_option maxRecDepth 100000 in
set_option maxHeartbeats 4000000 in
theorem cs_keep {w : Cs} (C0 : LC p s m c D aC b L xs) (hi : i + 3 < L) (hw : CW σ w) (hm : MW σ w) (kk : ∀ (w' : Cs) (σ' : Sto), CW σ' w' → MW σ' w' → LG p l e s m below meth c D aC b 747 [] i σ') : LG p l e s m below meth c D aC b 488 [] i σ := by
  refine G_x (q := 489) C0 dL_law_488 rfl ?_
  refine G_call (q := 492) C0 dL_law_489 rfl (a_keep hw) kL_69 rfl rfl (by decide) (hw.1) rfl ⟨by decide, by decide⟩ (Nat.le_of_ble_eq_true rfl) ?_
  rintro v σ1 ⟨rfl, hw1, t1⟩
  have hm1 : MW σ1 w := hm.congr (fun k hk => t1 k (by omega))
  refine G_m (q := 493) C0 dL_law_492 rfl ?_
  refine G_call (q := 496) C0 dL_law_493 rfl (r_keep hm1) kL_72 rfl rfl (by decide) (hm1.1.choose_spec.choose_spec.choose_spec.choose_spec) rfl ⟨by decide, by decide⟩ (Nat.le_of_ble_eq_true rfl) ?_
  rintro v σ2 ⟨rfl, hm2, t2⟩
  refine G_eq (q := 747) C0 dL_law_496 (by decide) ?_
  exact kk _ σ2 (hw1.congr (fun k hk => t2 k (by omega))) hm2
set_option maxRecDepth 100000 in
set_option maxHeartbeats 4000000 in
theorem cs_back {w : Cs} (C0 : LC p s m c D aC b L xs) (hi : i + 3 < L) (hw : CW σ w) (hm : MW σ w) (kk : ∀ (w' : Cs) (σ' : Sto), CW σ' w' → MW σ' w' → LG p l e s m below meth c D aC b 747 [] i σ') : LG p l e s m below meth c D aC b 501 [] i σ := by
  refine G_x (q := 502) C0 dL_law_501 rfl ?_
  refine G_call (q := 505) C0 dL_law_502 rfl (a_back hw) kL_73 rfl rfl (by decide) (hw.1) rfl ⟨by decide, by decide⟩ (Nat.le_of_ble_eq_true rfl) ?_
  rintro v σ1 ⟨rfl, hw1, t1⟩
  have hm1 : MW σ1 w := hm.congr (fun k hk => t1 k (by omega))
  refine G_m (q := 506) C0 dL_law_505 rfl ?_
  refine G_call (q := 509) C0 dL_law_506 rfl (r_back hm1) kL_76 rfl rfl (by decide) (hm1.1.choose_spec.choose_spec.choose_spec.choose_spec) rfl ⟨by decide, by decide⟩ (Nat.le_of_ble_eq_true rfl) ?_
  rintro v σ2 ⟨rfl, hm2, t2⟩
  refine G_eq (q := 747) C0 dL_law_509 (by decide) ?_
  exact kk _ σ2 (hw1.congr (fun k hk => t2 k (by omega))) hm2
set_option maxRecDepth 100000 in
set_option maxHeartbeats 4000000 in
theorem cs_cell {w : Cs} (C0 : LC p s m c D aC b L xs) (hi : i + 3 < L) (hw : CW σ w) (hm : MW σ w) (kk : ∀ (w' : Cs) (σ' : Sto), CW σ' w' → MW σ' w' → LG p l e s m below meth c D aC b 747 [] i σ') : LG p l e s m below meth c D aC b 514 [] i σ := by
  obtain ⟨z1, e1, l1, u1⟩ := i32_ex (xs (i + 1))
  obtain ⟨z2, e2, l2, u2⟩ := i32_ex (xs (i + 2))
  obtain ⟨z3, e3, l3, u3⟩ := i32_ex (xs (i + 3))
  refine G_x (q := 515) C0 dL_law_514 rfl ?_
  refine G_arg (q := 520) 1 C0 dL_law_515 dL_law_516 dL_law_517 dL_law_518 dL_law_519 (by decide) (by omega) rfl e1 ?_
  refine G_arg (q := 525) 2 C0 dL_law_520 dL_law_521 dL_law_522 dL_law_523 dL_law_524 (by decide) (by omega) rfl e2 ?_
  refine G_arg (q := 530) 3 C0 dL_law_525 dL_law_526 dL_law_527 dL_law_528 dL_law_529 (by decide) (by omega) rfl e3 ?_
  refine G_call (q := 533) C0 dL_law_530 rfl (a_cell hw l1 u1 l2 u2 l3 u3) kL_77 rfl rfl (by decide) (hw.1) rfl ⟨by decide, by decide⟩ (Nat.le_of_ble_eq_true rfl) ?_
  rintro v σ1 ⟨rfl, hw1, t1⟩
  have hm1 : MW σ1 w := hm.congr (fun k hk => t1 k (by omega))
  refine G_m (q := 534) C0 dL_law_533 rfl ?_
  refine G_arg (q := 539) 1 C0 dL_law_534 dL_law_535 dL_law_536 dL_law_537 dL_law_538 (by decide) (by omega) rfl e1 ?_
  refine G_arg (q := 544) 2 C0 dL_law_539 dL_law_540 dL_law_541 dL_law_542 dL_law_543 (by decide) (by omega) rfl e2 ?_
  refine G_arg (q := 549) 3 C0 dL_law_544 dL_law_545 dL_law_546 dL_law_547 dL_law_548 (by decide) (by omega) rfl e3 ?_
  refine G_call (q := 552) C0 dL_law_549 rfl (r_cell hm1 l1 u1 l2 u2 l3 u3) kL_80 rfl rfl (by decide) (hm1.1.choose_spec.choose_spec.choose_spec.choose_spec) rfl ⟨by decide, by decide⟩ (Nat.le_of_ble_eq_true rfl) ?_
  rintro v σ2 ⟨rfl, hm2, t2⟩
  refine G_eq (q := 747) C0 dL_law_552 (by decide) ?_
  exact kk _ σ2 (hw1.congr (fun k hk => t2 k (by omega))) hm2
set_option maxRecDepth 100000 in
set_option maxHeartbeats 4000000 in
theorem cs_col {w : Cs} (C0 : LC p s m c D aC b L xs) (hi : i + 3 < L) (hw : CW σ w) (hm : MW σ w) (kk : ∀ (w' : Cs) (σ' : Sto), CW σ' w' → MW σ' w' → LG p l e s m below meth c D aC b 747 [] i σ') : LG p l e s m below meth c D aC b 557 [] i σ := by
  obtain ⟨z1, e1, l1, u1⟩ := i32_ex (xs (i + 1))
  refine G_x (q := 558) C0 dL_law_557 rfl ?_
  refine G_arg (q := 563) 1 C0 dL_law_558 dL_law_559 dL_law_560 dL_law_561 dL_law_562 (by decide) (by omega) rfl e1 ?_
  refine G_call (q := 566) C0 dL_law_563 rfl (a_col hw l1 u1) kL_81 rfl rfl (by decide) (hw.1) rfl ⟨by decide, by decide⟩ (Nat.le_of_ble_eq_true rfl) ?_
  rintro v σ1 ⟨rfl, hw1, t1⟩
  have hm1 : MW σ1 w := hm.congr (fun k hk => t1 k (by omega))
  refine G_m (q := 567) C0 dL_law_566 rfl ?_
  refine G_arg (q := 572) 1 C0 dL_law_567 dL_law_568 dL_law_569 dL_law_570 dL_law_571 (by decide) (by omega) rfl e1 ?_
  refine G_call (q := 575) C0 dL_law_572 rfl (r_col hm1 l1 u1) kL_84 rfl rfl (by decide) (hm1.1.choose_spec.choose_spec.choose_spec.choose_spec) rfl ⟨by decide, by decide⟩ (Nat.le_of_ble_eq_true rfl) ?_
  rintro v σ2 ⟨rfl, hm2, t2⟩
  refine G_eq (q := 747) C0 dL_law_575 (by decide) ?_
  exact kk _ σ2 (hw1.congr (fun k hk => t2 k (by omega))) hm2
set_option maxRecDepth 100000 in
set_option maxHeartbeats 4000000 in
theorem cs_we {w : Cs} (C0 : LC p s m c D aC b L xs) (hi : i + 3 < L) (hw : CW σ w) (hm : MW σ w) (kk : ∀ (w' : Cs) (σ' : Sto), CW σ' w' → MW σ' w' → LG p l e s m below meth c D aC b 747 [] i σ') : LG p l e s m below meth c D aC b 580 [] i σ := by
  obtain ⟨z1, e1, l1, u1⟩ := i32_ex (xs (i + 1))
  refine G_x (q := 581) C0 dL_law_580 rfl ?_
  refine G_arg (q := 586) 1 C0 dL_law_581 dL_law_582 dL_law_583 dL_law_584 dL_law_585 (by decide) (by omega) rfl e1 ?_
  refine G_call (q := 589) C0 dL_law_586 rfl (a_we hw l1 u1) kL_85 rfl rfl (by decide) (hw.1) rfl ⟨by decide, by decide⟩ (Nat.le_of_ble_eq_true rfl) ?_
  rintro v σ1 ⟨rfl, hw1, t1⟩
  have hm1 : MW σ1 w := hm.congr (fun k hk => t1 k (by omega))
  refine G_m (q := 590) C0 dL_law_589 rfl ?_
  refine G_arg (q := 595) 1 C0 dL_law_590 dL_law_591 dL_law_592 dL_law_593 dL_law_594 (by decide) (by omega) rfl e1 ?_
  refine G_call (q := 598) C0 dL_law_595 rfl (r_we hm1 l1 u1) kL_88 rfl rfl (by decide) (hm1.1.choose_spec.choose_spec.choose_spec.choose_spec) rfl ⟨by decide, by decide⟩ (Nat.le_of_ble_eq_true rfl) ?_
  rintro v σ2 ⟨rfl, hm2, t2⟩
  refine G_eq (q := 747) C0 dL_law_598 (by decide) ?_
  exact kk _ σ2 (hw1.congr (fun k hk => t2 k (by omega))) hm2
set_option maxRecDepth 100000 in
set_option maxHeartbeats 4000000 in
theorem cs_ww {w : Cs} (C0 : LC p s m c D aC b L xs) (hi : i + 3 < L) (hw : CW σ w) (hm : MW σ w) (kk : ∀ (w' : Cs) (σ' : Sto), CW σ' w' → MW σ' w' → LG p l e s m below meth c D aC b 747 [] i σ') : LG p l e s m below meth c D aC b 603 [] i σ := by
  obtain ⟨z1, e1, l1, u1⟩ := i32_ex (xs (i + 1))
  refine G_x (q := 604) C0 dL_law_603 rfl ?_
  refine G_arg (q := 609) 1 C0 dL_law_604 dL_law_605 dL_law_606 dL_law_607 dL_law_608 (by decide) (by omega) rfl e1 ?_
  refine G_call (q := 612) C0 dL_law_609 rfl (a_ww hw l1 u1) kL_89 rfl rfl (by decide) (hw.1) rfl ⟨by decide, by decide⟩ (Nat.le_of_ble_eq_true rfl) ?_
  rintro v σ1 ⟨rfl, hw1, t1⟩
  have hm1 : MW σ1 w := hm.congr (fun k hk => t1 k (by omega))
  refine G_m (q := 613) C0 dL_law_612 rfl ?_
  refine G_arg (q := 618) 1 C0 dL_law_613 dL_law_614 dL_law_615 dL_law_616 dL_law_617 (by decide) (by omega) rfl e1 ?_
  refine G_call (q := 621) C0 dL_law_618 rfl (r_ww hm1 l1 u1) kL_92 rfl rfl (by decide) (hm1.1.choose_spec.choose_spec.choose_spec.choose_spec) rfl ⟨by decide, by decide⟩ (Nat.le_of_ble_eq_true rfl) ?_
  rintro v σ2 ⟨rfl, hm2, t2⟩
  refine G_eq (q := 747) C0 dL_law_621 (by decide) ?_
  exact kk _ σ2 (hw1.congr (fun k hk => t2 k (by omega))) hm2
set_option maxRecDepth 100000 in
set_option maxHeartbeats 4000000 in
theorem cs_wu {w : Cs} (C0 : LC p s m c D aC b L xs) (hi : i + 3 < L) (hw : CW σ w) (hm : MW σ w) (kk : ∀ (w' : Cs) (σ' : Sto), CW σ' w' → MW σ' w' → LG p l e s m below meth c D aC b 747 [] i σ') : LG p l e s m below meth c D aC b 626 [] i σ := by
  obtain ⟨z1, e1, l1, u1⟩ := i32_ex (xs (i + 1))
  by_cases hf : xs (i + 2) = 0
  · refine G_x (q := 627) C0 dL_law_626 rfl ?_
    refine G_arg (q := 632) 1 C0 dL_law_627 dL_law_628 dL_law_629 dL_law_630 dL_law_631 (by decide) (by omega) rfl e1 ?_
    refine G_arg (q := 637) 2 C0 dL_law_632 dL_law_633 dL_law_634 dL_law_635 dL_law_636 (by decide) (by omega) rfl rfl ?_
    refine G_f0 (kz := 0) (q := 645) C0 dL_law_637 dL_law_644 hf rfl ?_
    refine G_call (q := 648) C0 dL_law_645 rfl (a_wu hw l1 u1 false) kL_93 rfl rfl (by decide) (hw.1) rfl ⟨by decide, by decide⟩ (Nat.le_of_ble_eq_true rfl) ?_
    rintro v σ1 ⟨rfl, hw1, t1⟩
    have hm1 : MW σ1 w := hm.congr (fun k hk => t1 k (by omega))
    refine G_m (q := 649) C0 dL_law_648 rfl ?_
    refine G_arg (q := 654) 1 C0 dL_law_649 dL_law_650 dL_law_651 dL_law_652 dL_law_653 (by decide) (by omega) rfl e1 ?_
    refine G_arg (q := 659) 2 C0 dL_law_654 dL_law_655 dL_law_656 dL_law_657 dL_law_658 (by decide) (by omega) rfl rfl ?_
    refine G_f0 (kz := 0) (q := 667) C0 dL_law_659 dL_law_666 hf rfl ?_
    refine G_call (q := 670) C0 dL_law_667 rfl (r_wu hm1 l1 u1 false) kL_97 rfl rfl (by decide) (hm1.1.choose_spec.choose_spec.choose_spec.choose_spec) rfl ⟨by decide, by decide⟩ (Nat.le_of_ble_eq_true rfl) ?_
    rintro v σ2 ⟨rfl, hm2, t2⟩
    refine G_eq (q := 747) C0 dL_law_670 (by decide) ?_
    exact kk _ σ2 (hw1.congr (fun k hk => t2 k (by omega))) hm2
  · refine G_x (q := 627) C0 dL_law_626 rfl ?_
    refine G_arg (q := 632) 1 C0 dL_law_627 dL_law_628 dL_law_629 dL_law_630 dL_law_631 (by decide) (by omega) rfl e1 ?_
    refine G_arg (q := 637) 2 C0 dL_law_632 dL_law_633 dL_law_634 dL_law_635 dL_law_636 (by decide) (by omega) rfl rfl ?_
    refine G_f1 (kz := 0) (q := 645) C0 dL_law_637 dL_law_640 dL_law_641 hf rfl ?_
    refine G_call (q := 648) C0 dL_law_645 rfl (a_wu hw l1 u1 true) kL_93 rfl rfl (by decide) (hw.1) rfl ⟨by decide, by decide⟩ (Nat.le_of_ble_eq_true rfl) ?_
    rintro v σ1 ⟨rfl, hw1, t1⟩
    have hm1 : MW σ1 w := hm.congr (fun k hk => t1 k (by omega))
    refine G_m (q := 649) C0 dL_law_648 rfl ?_
    refine G_arg (q := 654) 1 C0 dL_law_649 dL_law_650 dL_law_651 dL_law_652 dL_law_653 (by decide) (by omega) rfl e1 ?_
    refine G_arg (q := 659) 2 C0 dL_law_654 dL_law_655 dL_law_656 dL_law_657 dL_law_658 (by decide) (by omega) rfl rfl ?_
    refine G_f1 (kz := 0) (q := 667) C0 dL_law_659 dL_law_662 dL_law_663 hf rfl ?_
    refine G_call (q := 670) C0 dL_law_667 rfl (r_wu hm1 l1 u1 true) kL_97 rfl rfl (by decide) (hm1.1.choose_spec.choose_spec.choose_spec.choose_spec) rfl ⟨by decide, by decide⟩ (Nat.le_of_ble_eq_true rfl) ?_
    rintro v σ2 ⟨rfl, hm2, t2⟩
    refine G_eq (q := 747) C0 dL_law_670 (by decide) ?_
    exact kk _ σ2 (hw1.congr (fun k hk => t2 k (by omega))) hm2
set_option maxRecDepth 100000 in
set_option maxHeartbeats 4000000 in
theorem cs_heat {w : Cs} (C0 : LC p s m c D aC b L xs) (hi : i + 3 < L) (hw : CW σ w) (hm : MW σ w) (kk : ∀ (w' : Cs) (σ' : Sto), CW σ' w' → MW σ' w' → LG p l e s m below meth c D aC b 747 [] i σ') : LG p l e s m below meth c D aC b 675 [] i σ := by
  obtain ⟨z1, e1, l1, u1⟩ := i32_ex (xs (i + 1))
  by_cases hf : xs (i + 2) = 0
  · refine G_x (q := 676) C0 dL_law_675 rfl ?_
    refine G_arg (q := 681) 1 C0 dL_law_676 dL_law_677 dL_law_678 dL_law_679 dL_law_680 (by decide) (by omega) rfl e1 ?_
    refine G_arg (q := 686) 2 C0 dL_law_681 dL_law_682 dL_law_683 dL_law_684 dL_law_685 (by decide) (by omega) rfl rfl ?_
    refine G_f0 (kz := 0) (q := 694) C0 dL_law_686 dL_law_693 hf rfl ?_
    refine G_call (q := 697) C0 dL_law_694 rfl (a_heat hw l1 u1 false) kL_98 rfl rfl (by decide) (hw.1) rfl ⟨by decide, by decide⟩ (Nat.le_of_ble_eq_true rfl) ?_
    rintro v σ1 ⟨rfl, hw1, t1⟩
    have hm1 : MW σ1 w := hm.congr (fun k hk => t1 k (by omega))
    refine G_m (q := 698) C0 dL_law_697 rfl ?_
    refine G_arg (q := 703) 1 C0 dL_law_698 dL_law_699 dL_law_700 dL_law_701 dL_law_702 (by decide) (by omega) rfl e1 ?_
    refine G_arg (q := 708) 2 C0 dL_law_703 dL_law_704 dL_law_705 dL_law_706 dL_law_707 (by decide) (by omega) rfl rfl ?_
    refine G_f0 (kz := 0) (q := 716) C0 dL_law_708 dL_law_715 hf rfl ?_
    refine G_call (q := 719) C0 dL_law_716 rfl (r_heat hm1 l1 u1 false) kL_101 rfl rfl (by decide) (hm1.1.choose_spec.choose_spec.choose_spec.choose_spec) rfl ⟨by decide, by decide⟩ (Nat.le_of_ble_eq_true rfl) ?_
    rintro v σ2 ⟨rfl, hm2, t2⟩
    refine G_eq (q := 747) C0 dL_law_719 (by decide) ?_
    exact kk _ σ2 (hw1.congr (fun k hk => t2 k (by omega))) hm2
  · refine G_x (q := 676) C0 dL_law_675 rfl ?_
    refine G_arg (q := 681) 1 C0 dL_law_676 dL_law_677 dL_law_678 dL_law_679 dL_law_680 (by decide) (by omega) rfl e1 ?_
    refine G_arg (q := 686) 2 C0 dL_law_681 dL_law_682 dL_law_683 dL_law_684 dL_law_685 (by decide) (by omega) rfl rfl ?_
    refine G_f1 (kz := 0) (q := 694) C0 dL_law_686 dL_law_689 dL_law_690 hf rfl ?_
    refine G_call (q := 697) C0 dL_law_694 rfl (a_heat hw l1 u1 true) kL_98 rfl rfl (by decide) (hw.1) rfl ⟨by decide, by decide⟩ (Nat.le_of_ble_eq_true rfl) ?_
    rintro v σ1 ⟨rfl, hw1, t1⟩
    have hm1 : MW σ1 w := hm.congr (fun k hk => t1 k (by omega))
    refine G_m (q := 698) C0 dL_law_697 rfl ?_
    refine G_arg (q := 703) 1 C0 dL_law_698 dL_law_699 dL_law_700 dL_law_701 dL_law_702 (by decide) (by omega) rfl e1 ?_
    refine G_arg (q := 708) 2 C0 dL_law_703 dL_law_704 dL_law_705 dL_law_706 dL_law_707 (by decide) (by omega) rfl rfl ?_
    refine G_f1 (kz := 0) (q := 716) C0 dL_law_708 dL_law_711 dL_law_712 hf rfl ?_
    refine G_call (q := 719) C0 dL_law_716 rfl (r_heat hm1 l1 u1 true) kL_101 rfl rfl (by decide) (hm1.1.choose_spec.choose_spec.choose_spec.choose_spec) rfl ⟨by decide, by decide⟩ (Nat.le_of_ble_eq_true rfl) ?_
    rintro v σ2 ⟨rfl, hm2, t2⟩
    refine G_eq (q := 747) C0 dL_law_719 (by decide) ?_
    exact kk _ σ2 (hw1.congr (fun k hk => t2 k (by omega))) hm2
set_option maxRecDepth 100000 in
set_option maxHeartbeats 4000000 in
theorem cs_count {w : Cs} (C0 : LC p s m c D aC b L xs) (hi : i + 3 < L) (hw : CW σ w) (hm : MW σ w) (kk : ∀ (w' : Cs) (σ' : Sto), CW σ' w' → MW σ' w' → LG p l e s m below meth c D aC b 747 [] i σ') : LG p l e s m below meth c D aC b 724 [] i σ := by
  obtain ⟨z1, e1, l1, u1⟩ := i32_ex (xs (i + 1))
  refine G_x (q := 725) C0 dL_law_724 rfl ?_
  refine G_arg (q := 730) 1 C0 dL_law_725 dL_law_726 dL_law_727 dL_law_728 dL_law_729 (by decide) (by omega) rfl e1 ?_
  refine G_call (q := 733) C0 dL_law_730 rfl (a_count hw l1 u1) kL_102 rfl rfl (by decide) (hw.1) rfl ⟨by decide, by decide⟩ (Nat.le_of_ble_eq_true rfl) ?_
  rintro v σ1 ⟨rfl, hw1, t1⟩
  have hm1 : MW σ1 w := hm.congr (fun k hk => t1 k (by omega))
  refine G_m (q := 734) C0 dL_law_733 rfl ?_
  refine G_arg (q := 739) 1 C0 dL_law_734 dL_law_735 dL_law_736 dL_law_737 dL_law_738 (by decide) (by omega) rfl e1 ?_
  refine G_call (q := 742) C0 dL_law_739 rfl (r_count hm1 l1 u1) kL_105 rfl rfl (by decide) (hm1.1.choose_spec.choose_spec.choose_spec.choose_spec) rfl ⟨by decide, by decide⟩ (Nat.le_of_ble_eq_true rfl) ?_
  rintro v σ2 ⟨rfl, hm2, t2⟩
  refine G_eq (q := 747) C0 dL_law_742 (by decide) ?_
  exact kk _ σ2 (hw1.congr (fun k hk => t2 k (by omega))) hm2
end LAW
