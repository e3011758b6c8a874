/-! THE CLAIM OUT OF ONE WALK OF THE LAW'S BODY. Your part is whole_start (and what it stands on); all else here is the same for every law, but numbers. -/
def R_law : String := "SpinStripsLaw"
def lw_P (b : Addr) (xs : List Int32) (args : Array Value) (s : State) : Prop := args = #[.ref b] ∧ s.IntsAt b xs ∧ xs.length ≤ 260 ∧ (Jvm.Cond.and given_1 narrow_1).before args s = true
/-- what a walk over the start with the record d0 says of its end, said of the start itself -/
theorem lw_closed {s t : State} {o : Outcome} {d0 : Drawn} {L : List Loc} {k n : Nat} (hd0 : s.drawn.sameBut d0 lw_cs) (hv : ∃ v, o = .returned v) (hW : (s.setDrawn d0).WarmedH t.vm) (hs : (s.setDrawn d0).sameButNew ({ t with vm := s.vm } : State) L k n) : State.butDraws s t lw_cs (fun t1 => Framed s o t1 L k n) := by
  have h2 : t.drawn = d0 := congrArg State.drawn hs.1
  refine ⟨⟨hv, hW, State.sameButNew.setDrawn hs s.drawn⟩, ?_, by decide⟩
  rw [h2]
  exact hd0
def lw_Q (_ : Array Value) (s : State) (o : Outcome) (t : State) : Prop := o = .returned (some (.int 1)) ∧ State.butDraws s t lw_cs (fun t1 => Framed s o t1 [] 600000 7302250)
def lw_Z (below : List Frame) (a : Array Value) (s : State) : State → Prop := fun t => ∃ o, t.status = .running ∧ Ended t below o ∧ lw_Q a s o t
/-- the law's own end, with 1 on the stack, nothing written that was there before, its room as the claim has it; d0: the record of draws at this point (at the entry s.drawn: begin with 'refine W.base ?_' and 'have hd0 := Drawn.sameBut.refl s.drawn lw_cs') -/
theorem lw_ret {p : Program} {l : Launch} {e : Env} {s : State} {m : MethodId} {below : List Frame} {meth : Method} {c : Code} {b : Nat} {d0 : Drawn} (hd0 : s.drawn.sameBut d0 lw_cs) (hx : p.tables.exec = Jvm.exec) (hb : c.code = code) (hr : meth.sig.returnType = ret) (hlocks : meth.locks = false) {pc : Nat} {H : Heap} {ls : Array Slot} (hdg : decode code pc = .ok (.ireturn, 1)) : W p l e room_1 (s.setDrawn d0) m #[Value.ref b] below meth c H [] 600000 7302250 (lw_Z below #[Value.ref b] s) (F0 m pc ls [.int 1]) := by
  intro T hT X
  obtain ⟨fs, hret, hrun, hended, hW, hframe⟩ := X.leave (v := some (.int 1)) (hlocks := hlocks) (fun h => by rw [hr] at h; cases h)
  have hmeth' : T.vm.method? m = some meth := X.method'
  refine ⟨T.setFrames fs, ?_, .returned (some (.int 1)), hrun, hended, rfl, lw_closed hd0 ⟨_, rfl⟩ hW hframe⟩
  jvm_step X.here [X.here.top, hx, hb, hdg, hmeth', hr, ret, narrow_b1]
  (try refine ⟨rfl, ?_⟩); (try refine ⟨rfl, ?_⟩)
  first | (intro acts; rw [hret _ acts rfl rfl rfl]) | rw [hret _ _ rfl rfl rfl]
  exact Steps.refl _
/-- what holds at the law's entry: the machine, the code, the tables' words (any of lw_tbl by 'hts w (by decide +kernel)'), the script of L ints xs at the cell b, what the Statement gives of the start (any of its parts by flat_of_before) -/
def lw_At (p : Program) (s : State) (m : MethodId) (meth : Method) (c : Code) (b L : Nat) (xs : Nat → Int32) : Prop :=
  p.tables.exec = Jvm.exec ∧ c.code = code ∧ meth.sig.returnType = ret ∧ c.maxLocals = 5 ∧ s.vm.findClass R_law = some m.cls ∧ (∀ w ∈ lw_tbl, w.before #[Value.ref b] s = true) ∧ va_X b L xs s s.heap ∧ b < s.heap.size ∧ meth.locks = false ∧ (Jvm.Cond.and given_1 narrow_1).before #[Value.ref b] s = true
theorem nL_10 : LkN RL 10 7 [.null, .null, .null, .null, .int 0, .null] := ⟨_, _, _, tyX7, cls_7.1, cls_7.2.1, tyX7_ok, by decide, lw_w_at (i := 35) (by decide +kernel) (by decide +kernel), lw_w_at (i := 36) (by decide +kernel) (by decide +kernel), lw_w_at (i := 22) (by decide +kernel) (by decide +kernel), rfl⟩
theorem t_aoI : Cond.arrayOver (.array .int) ∈ lw_tbl := List.mem_of_getElem? (i := 110) (by decide +kernel)
theorem t_aoS : Cond.arrayOver (tyS) ∈ lw_tbl := List.mem_of_getElem? (i := 222) (by decide +kernel)
/-! THE LAW'S WALK -/
def QC (σ : Sto) : Option Value → Sto → Prop := fun v σ' => (∃ z, v = some (.int z)) ∧ σ' = σ
set_option maxRecDepth 100000 in
set_option maxHeartbeats 4000000 in
theorem w_cell9 {n : Nat} {σ : Sto} {k v : Int32} : PW mL_cell 0 0 (QC σ) 9 [none, some (.int k)] [.int v] n σ 0 0 := by
  refine P_goto (tgt := 20) dL_cell_9 (by decide) ?_
  refine P_iret dL_cell_20 rfl (rfl) ?_
  exact ⟨⟨_, rfl⟩, rfl⟩
set_option maxRecDepth 100000 in
set_option maxHeartbeats 4000000 in
theorem w_cell12 {n : Nat} {σ : Sto} {k : Int32} : PW mL_cell 0 0 (QC σ) 12 [none, some (.int k)] [] n σ 0 0 := by
  refine P_ldc (q := 14) dL_cell_12 rfl qL_7 ?_
  refine P_iload_n (q := 15) dL_cell_14 rfl rfl ?_
  refine P_sipush (q := 18) (v := nI 1217) dL_cell_15 rfl (by decide +kernel) ?_
  refine P_iadd (q := 19) dL_cell_18 rfl ?_
  refine P_imul (q := 20) dL_cell_19 rfl ?_
  refine P_iret dL_cell_20 rfl (rfl) ?_
  exact ⟨⟨_, rfl⟩, rfl⟩
set_option maxRecDepth 100000 in
set_option maxHeartbeats 4000000 in
theorem t_cell (l : Launch) (D : va_G) (aC : FieldType → ClassId) (h0 n : Nat) (σ : Sto) (b Ln : Nat) (xs : Nat → Int32) (k : Nat) (hk : k < 1000) : Met l yL_cell (Cond.code yL_cell cL_cell 2 (some .int) :: lw_w) (pw_rm 0 0 0) (va_Pc [.ref b, .int (nI k)] (fun U => (pw_W D aC h0 n σ U.heap ∧ pw_K D aC U) ∧ va_X b Ln xs U U.heap ∧ b < h0 ∧ Ln ≤ 1000)) (pw_Q D aC h0 0 (QC σ)) 0 0 (fun q => h0 ≤ q) := by
  refine Met.ofW (cc := cL_cell) (maxL := 2) (ret := some .int) (by decide +kernel) rfl ?_
  intro p e s m args below meth c s₁ B hml hv
  obtain ⟨rfl, ⟨hW, hK⟩, hX, hbh, hLn⟩ := hv
  have hts := atoms_spec (ws := Cond.code yL_cell cL_cell 2 (some .int) :: lw_w) B.pre
  have hsz : s.heap.size = h0 + n := hW.2
  have hl := lv_entry ([.ref b, .int (nI k)]) (n := 2) (Nat.le_of_ble_eq_true rfl)
  rw [lg_entry_eq]
  generalize (lg_sl ([.ref b, .int (nI k)]) ++ List.replicate (2 - (lg_sl ([.ref b, .int (nI k)])).length) Slot.unset).toArray = ls at hl ⊢
  have hl : lv_has ls 2 [(0, .ref b), (1, .int (nI k))] := hl
  have hC : pw_C p s m _ meth c mL_cell D aC := ⟨B.exec, B.bytes, hml, findClass_of_methodNamed B.named, fun w hw => hts w (List.mem_cons_of_mem _ hw), hK, B.notSynchronized, B.returns, (name_of_methodNamed B.named B.method).1⟩
  have hS : va_S (fun q : Nat => h0 ≤ q) s.heap s.heap [] := va_S.rf
  have hpl : pw_L h0 [none, some (.int (nI k))] ls 2 := by
    refine ⟨hl.1, hl.2.1, fun i v hi => ?_⟩
    match i, hi with
    | 0, hi => cases hi
    | 1, hi => cases hi; exact lv_at hl 1 rfl
    | i + 2, hi => cases hi
  refine lv_iload_n hC.1 hC.2.1 dL_cell_0 rfl (lv_at hl 1 rfl) ?_
  refine lv_aload_n hC.1 hC.2.1 dL_cell_1 rfl (lv_at hl 0 rfl) ?_
  refine va_slen hC.1 hC.2.1 hX (show b < s.heap.size by omega) (show ¬ h0 ≤ b by omega) hS dL_cell_2 ?_
  refine lv_icmp_ge (tgt := 12) hC.1 hC.2.1 dL_cell_3 (by decide) (fun _ => ?_) (fun hlt => ?_)
  · exact w_cell12 p l e s m _ below meth c D aC h0 s.heap [] ls hC (by omega) (by omega) hW hS hpl
  · have hkL : k < Ln := by
      rw [show Int32.ofNat Ln = nI Ln from rfl, nI_leI (by omega) (by omega)] at hlt
      omega
    refine lv_aload_n hC.1 hC.2.1 dL_cell_6 rfl (lv_at hl 0 rfl) ?_
    refine lv_iload_n hC.1 hC.2.1 dL_cell_7 rfl (lv_at hl 1 rfl) ?_
    refine va_sld hC.1 hC.2.1 hX (show b < s.heap.size by omega) (show ¬ h0 ≤ b by omega) hS (vp_in_nI hkL (by omega)) dL_cell_8 ?_
    exact w_cell9 p l e s m _ below meth c D aC h0 s.heap [] ls hC (by omega) (by omega) hW hS hpl
/-- what the law stands on -/
def LC (p : Program) (s : State) (m : MethodId) (c : Code) (D : va_G) (aC : FieldType → ClassId) (b L : Nat) (xs : Nat → Int32) : Prop :=
  p.tables.exec = Jvm.exec ∧ c.code = cL_law ∧ c.maxLocals = 5 ∧ s.vm.findClass RL = some m.cls ∧ (∀ w ∈ lw_w, w.before #[Value.ref b] s = true) ∧ pw_K D aC s ∧ va_X b L xs s s.heap ∧ b < s.heap.size ∧ L ≤ 260
def lw_L (s : State) (b k : Nat) : List (Nat × Value) := [(4, .int (nI k)), (3, .int (nI 1)), (2, .ref (s.heap.size + 114)), (1, .ref (s.heap.size + 0)), (0, .ref b)]
section LAW
variable {p : Program} {l : Launch} {e : Env} {s : State} {m : MethodId} {below : List Frame} {meth : Method} {c : Code} {D : va_G} {aC : FieldType → ClassId} {b L : Nat} {xs : Nat → Int32}
def LG (p : Program) (l : Launch) (e : Env) (s : State) (m : MethodId) (below : List Frame) (meth : Method) (c : Code) (D : va_G) (aC : FieldType → ClassId) (b : Nat) (pc : Nat) (k : Nat) (σ : Sto) : Prop :=
  ∀ (H : Heap) (locs : List Loc) (ls : Array Slot), pw_W D aC s.heap.size 228 σ H → va_S (fun q => s.heap.size ≤ q) s.heap H locs → lv_has ls 5 (lw_L s b k) → W p l e room_1 s m #[Value.ref b] below meth c H locs 228 9672 (lw_Z below #[Value.ref b] s) (F0 m pc ls [])
theorem law_cell {n cs sl pc k : Nat} {σ : Sto} {H : Heap} {locs : List Loc} {ls : Array Slot} {rest : List Value} {Qm : State → Prop} (C0 : LC p s m c D aC b L xs) (d : decode cL_law pc = .ok (.invokestatic 95, 3)) (hk : k < 1000) (hW : pw_W D aC s.heap.size n σ H) (hS : va_S (fun q => s.heap.size ≤ q) s.heap H locs) (hls : ls.size = 5) (hf : cs + 0 ≤ 600000 ∧ sl + 0 ≤ 7302250) (hsum : (rest.map fun v => v.category).sum ≤ 8)
    (kk : ∀ (x : Int32) (H1 : Heap) (locs1 : List Loc), pw_W D aC s.heap.size n σ H1 → va_S (fun q => s.heap.size ≤ q) s.heap H1 locs1 → W p l e room_1 s m #[Value.ref b] below meth c H1 locs1 cs sl Qm (F0 m (pc + 3) ls (.int x :: rest))) : W p l e room_1 s m #[Value.ref b] below meth c H locs cs sl Qm (F0 m pc ls (.int (nI k) :: .ref b :: rest)) := by
  obtain ⟨hx, hb, hml, hown, hts, hK, hX, hbl, hL⟩ := C0
  obtain ⟨hok, hl1, hl2⟩ := kL_95
  refine pw_after (Q' := QC σ) (mc' := 0) (ms' := 0) (va_runS (As := [.ref b, .int (nI k)]) ⟨hx, hb, hml, hown, hts⟩ (t_cell l D aC s.heap.size n σ b L xs k hk) ⟨callB_of 2 hts hok.gin rfl rfl rfl (hts _ hok.2.1) (hts _ hl1) hok.2.2 ⟨by decide, by decide⟩, hts _ hl2⟩
    ⟨fun a U g mk h => ⟨h.1, ⟨h.2.1.1, pw_K.same (u := U) (U := U.calling g mk a) rfl h.2.1.2⟩, va_X.moved (u := U) (U := U.calling g mk a) (Vm.Alike.refl _) h.2.2.1, h.2.2.2⟩, fun U hU hWm => ⟨rfl, ⟨by rw [hU]; exact hW, hK.warm hWm⟩, by rw [hU]; exact (hX.kept (hS.2.1 b hbl (Nat.not_le.mpr hbl))).moved hWm.alike, hbl, by omega⟩⟩ rfl rfl hls rfl (lv_room hsum) d hf) hS hW (fun v σ' H1 locs1 hQ hW1 hS1 => ?_)
  obtain ⟨⟨z, rfl⟩, rfl⟩ := hQ
  exact kk z H1 locs1 hW1 hS1
set_option maxRecDepth 100000 in
set_option maxHeartbeats 4000000 in
theorem G_end {k : Nat} {σ : Sto} {w x : Cs} (C0 : LC p s m c D aC b L xs) (hr : meth.sig.returnType = ret) (hlocks : meth.locks = false) (h2 : W2 σ w x) (hM : Rel w x) : LG p l e s m below meth c D aC b 158 k σ := by
  intro H locs ls hW hS hl
  refine lv_iload_n C0.1 C0.2.1 dL_law_158 rfl (lv_at hl 1 rfl) ?_
  refine lv_if_eq (tgt := 181) C0.1 C0.2.1 dL_law_159 (by decide) (fun h => absurd h (by decide)) (fun _ => ?_)
  refine lv_aload_n C0.1 C0.2.1 dL_law_162 rfl (lv_at hl 3 rfl) ?_
  refine pw_after (pw_calls (As := [.ref 0]) (S := []) C0.1 C0.2.1 C0.2.2.1 C0.2.2.2.1 C0.2.2.2.2.1 C0.2.2.2.2.2.1 hW hl.1 (t_isWell h2) kL_102 rfl ⟨by decide, by decide⟩ (Nat.le_of_ble_eq_true rfl) dL_law_163 ⟨by decide, by decide⟩) hS hW (fun v1 σ1 H1 locs1 hQ1 hW1 hS1 => ?_)
  obtain ⟨rfl, h21⟩ := hQ1
  refine lv_if_eq (tgt := 181) C0.1 C0.2.1 dL_law_166 (by decide) (fun h => absurd h (by decide)) (fun _ => ?_)
  refine lv_aload_n C0.1 C0.2.1 dL_law_169 rfl (lv_at hl 3 rfl) ?_
  refine lv_aload_n C0.1 C0.2.1 dL_law_170 rfl (lv_at hl 2 rfl) ?_
  refine pw_after (pw_calls (As := [.ref 0, .ref 114]) (S := []) C0.1 C0.2.1 C0.2.2.1 C0.2.2.2.1 C0.2.2.2.2.1 C0.2.2.2.2.2.1 hW1 hl.1 (t_areAlike h21 hM) kL_109 rfl ⟨by decide, by decide⟩ (Nat.le_of_ble_eq_true rfl) dL_law_171 ⟨by decide, by decide⟩) hS1 hW1 (fun v2 σ2 H2 locs2 hQ2 hW2 hS2 => ?_)
  obtain ⟨rfl, h22⟩ := hQ2
  refine lv_if_eq (tgt := 181) C0.1 C0.2.1 dL_law_174 (by decide) (fun h => absurd h (by decide)) (fun _ => ?_)
  refine lv_iconst (v := 1) C0.1 C0.2.1 dL_law_177 (by decide) ?_
  refine lv_goto (tgt := 182) C0.1 C0.2.1 dL_law_178 (by decide) ?_
  refine va_forget (fun q hq => hS2.2.2 q hq) ?_
  refine W.widen (k := 600000) (n := 7302250) (by decide) (by decide) ?_
  exact W.base (lw_ret (Drawn.sameBut.refl s.drawn lw_cs) C0.1 C0.2.1 hr hlocks dL_law_182)
theorem G_146 {k : Nat} {σ : Sto} (C0 : LC p s m c D aC b L xs) (kk : LG p l e s m below meth c D aC b 64 (k + 1) σ) : LG p l e s m below meth c D aC b 146 k σ := by
  intro H locs ls hW hS hl
  refine lv_iconst (v := nI 1) C0.1 C0.2.1 dL_law_146 (by decide) ?_
  refine lv_goto (tgt := 151) C0.1 C0.2.1 dL_law_147 (by decide) ?_
  refine lv_istore_n (lv' := [(3, .int (nI 1)), (4, .int (nI k)), (2, .ref (s.heap.size + 114)), (1, .ref (s.heap.size + 0)), (0, .ref b)]) C0.1 C0.2.1 dL_law_151 rfl hl (by decide) rfl (fun ls hl => ?_)
  refine lv_iinc (v := nI (k + 1)) (lv' := lw_L s b (k + 1)) C0.1 C0.2.1 dL_law_152 hl (k := 1) rfl (nI_1 k) (by decide) rfl (fun ls hl => ?_)
  refine lv_goto (tgt := 64) C0.1 C0.2.1 dL_law_155 (by decide) ?_
  exact kk H locs ls hW hS hl
theorem nz16 : ¬ nI 16 = 0 := by decide
theorem nz4 : ¬ nI 4 = 0 := by decide
theorem G_113 {k : Nat} {σ : Sto} {w x : Cs} (hk : k < 50) (C0 : LC p s m c D aC b L xs) (h2 : W2 σ w x) (hM : Rel w x) (kk : ∀ (σ : Sto) (w x : Cs), W2 σ w x → Rel w x → LG p l e s m below meth c D aC b 64 (k + 1) σ) : LG p l e s m below meth c D aC b 113 k σ := by
  intro H locs ls hW hS hl
  have hC := h2.okA.1
  refine lv_iload C0.1 C0.2.1 dL_law_113 (lv_at hl 0 rfl) ?_
  refine lv_bipush (v := nI 16) C0.1 C0.2.1 dL_law_115 (by decide) ?_
  refine lv_irem C0.1 C0.2.1 dL_law_117 nz16 ?_
  refine lv_if_gt (tgt := 146) C0.1 C0.2.1 dL_law_118 (by decide) (fun _ => ?_) (fun _ => ?_)
  · exact G_146 C0 (kk σ w x h2 hM) H locs ls hW hS hl
  refine lv_aload_n C0.1 C0.2.1 dL_law_121 rfl (lv_at hl 3 rfl) ?_
  refine lv_iconst (v := nI 0) C0.1 C0.2.1 dL_law_122 (by decide) ?_
  obtain ⟨fs, h0⟩ := h2.oo
  refine pw_after (pw_callv (b := 0) (As := [.int (nI 0)]) (S := []) C0.1 C0.2.1 C0.2.2.1 C0.2.2.2.1 C0.2.2.2.2.1 C0.2.2.2.2.2.1 hW hl.1 (o_count h2 0 (by decide) (v := nI w.A.C) rfl) kL_19 rfl (by decide) h0 rfl ⟨by decide, by decide⟩ (Nat.le_of_ble_eq_true rfl) dL_law_123 ⟨by decide, by decide⟩) hS hW (fun v1 σ1 H1 locs1 hQ1 hW1 hS1 => ?_)
  obtain ⟨rfl, h21⟩ := hQ1
  refine lv_iconst (v := nI 5) C0.1 C0.2.1 dL_law_126 (by decide) ?_
  refine lv_icmp_gt (tgt := 146) C0.1 C0.2.1 dL_law_127 (by decide) (fun _ => ?_) (fun h5 => ?_)
  · exact G_146 C0 (kk σ1 w x h21 hM) H1 locs1 ls hW1 hS1 hl
  rw [nI_ltI (by omega) (by omega)] at h5
  refine lv_aload_n C0.1 C0.2.1 dL_law_130 rfl (lv_at hl 3 rfl) ?_
  refine lv_aload_n C0.1 C0.2.1 dL_law_131 rfl (lv_at hl 2 rfl) ?_
  refine lv_aload_n C0.1 C0.2.1 dL_law_132 rfl (lv_at hl 4 rfl) ?_
  refine lv_iload C0.1 C0.2.1 dL_law_133 (lv_at hl 0 rfl) ?_
  refine lv_iconst (v := nI 2) C0.1 C0.2.1 dL_law_135 (by decide) ?_
  refine lv_iadd C0.1 C0.2.1 dL_law_136 ?_
  rw [nI_add]
  refine law_cell C0 dL_law_137 (by omega) hW1 hS1 hl.1 ⟨by decide, by decide⟩ (Nat.le_of_ble_eq_true rfl) (fun y H2 locs2 hW2 hS2 => ?_)
  refine pw_after (pw_calls (As := [.ref 0, .ref 114, .int y]) (S := []) C0.1 C0.2.1 C0.2.2.1 C0.2.2.2.1 C0.2.2.2.2.1 C0.2.2.2.2.2.1 hW2 hl.1 (t_isAll h21 hM (by omega) y) kL_106 rfl ⟨by decide, by decide⟩ (Nat.le_of_ble_eq_true rfl) dL_law_140 ⟨by decide, by decide⟩) hS2 hW2 (fun v3 σ3 H3 locs3 hQ3 hW3 hS3 => ?_)
  obtain ⟨rfl, w', x', h23, hM'⟩ := hQ3
  refine lv_if_eq (tgt := 150) C0.1 C0.2.1 dL_law_143 (by decide) (fun h => absurd h (by decide)) (fun _ => ?_)
  exact G_146 C0 (kk σ3 w' x' h23 hM') H3 locs3 ls hW3 hS3 hl
theorem law_loop (C0 : LC p s m c D aC b L xs) (hr : meth.sig.returnType = ret) (hlocks : meth.locks = false) : ∀ (n k : Nat), k + n = 50 → ∀ (σ : Sto) (w x : Cs), W2 σ w x → Rel w x → LG p l e s m below meth c D aC b 64 k σ := by
  intro n
  induction n with
  | zero =>
    intro k hk σ w x h2 hM H locs ls hW hS hl
    refine lv_iload C0.1 C0.2.1 dL_law_64 (lv_at hl 0 rfl) ?_
    refine lv_bipush (v := nI 50) C0.1 C0.2.1 dL_law_66 (by decide) ?_
    refine lv_icmp_ge (tgt := 158) C0.1 C0.2.1 dL_law_68 (by decide) (fun _ => ?_) (fun h => ?_)
    · exact G_end C0 hr hlocks h2 hM H locs ls hW hS hl
    · exfalso; rw [nI_leI (by omega) (by omega)] at h; omega
  | succ n ih =>
    intro k hk σ w x h2 hM H locs ls hW hS hl
    refine lv_iload C0.1 C0.2.1 dL_law_64 (lv_at hl 0 rfl) ?_
    refine lv_bipush (v := nI 50) C0.1 C0.2.1 dL_law_66 (by decide) ?_
    refine lv_icmp_ge (tgt := 158) C0.1 C0.2.1 dL_law_68 (by decide) (fun h => ?_) (fun _ => ?_)
    · exfalso; rw [nI_leI (by omega) (by omega)] at h; omega
    refine lv_iload_n C0.1 C0.2.1 dL_law_71 rfl (lv_at hl 1 rfl) ?_
    refine lv_if_eq (tgt := 158) C0.1 C0.2.1 dL_law_72 (by decide) (fun h => absurd h (by decide)) (fun _ => ?_)
    refine lv_aload_n C0.1 C0.2.1 dL_law_75 rfl (lv_at hl 3 rfl) ?_
    refine lv_aload_n C0.1 C0.2.1 dL_law_76 rfl (lv_at hl 2 rfl) ?_
    refine lv_aload_n C0.1 C0.2.1 dL_law_77 rfl (lv_at hl 4 rfl) ?_
    refine lv_iload C0.1 C0.2.1 dL_law_78 (lv_at hl 0 rfl) ?_
    refine law_cell C0 dL_law_80 (by omega) hW hS hl.1 ⟨by decide, by decide⟩ (Nat.le_of_ble_eq_true rfl) (fun x1 H1 locs1 hW1 hS1 => ?_)
    refine lv_aload_n C0.1 C0.2.1 dL_law_83 rfl (lv_at hl 4 rfl) ?_
    refine lv_iload C0.1 C0.2.1 dL_law_84 (lv_at hl 0 rfl) ?_
    refine lv_iconst (v := nI 1) C0.1 C0.2.1 dL_law_86 (by decide) ?_
    refine lv_iadd C0.1 C0.2.1 dL_law_87 ?_
    rw [nI_add]
    refine law_cell C0 dL_law_88 (by omega) hW1 hS1 hl.1 ⟨by decide, by decide⟩ (Nat.le_of_ble_eq_true rfl) (fun x2 H2 locs2 hW2 hS2 => ?_)
    refine lv_iconst (v := nI 2) C0.1 C0.2.1 dL_law_91 (by decide) ?_
    refine lv_ishr C0.1 C0.2.1 dL_law_92 ?_
    refine pw_after (pw_calls (As := [.ref 0, .ref 114, .int x1, .int (x2 >>> (nI 2 &&& 31))]) (S := []) C0.1 C0.2.1 C0.2.2.1 C0.2.2.2.1 C0.2.2.2.2.1 C0.2.2.2.2.2.1 hW2 hl.1 (t_isStep h2 hM _ _) kL_98 rfl ⟨by decide, by decide⟩ (Nat.le_of_ble_eq_true rfl) dL_law_93 ⟨by decide, by decide⟩) hS2 hW2 (fun v3 σ3 H3 locs3 hQ3 hW3 hS3 => ?_)
    obtain ⟨rfl, w', x', h23, hM'⟩ := hQ3
    have kk : ∀ (σ : Sto) (w x : Cs), W2 σ w x → Rel w x → LG p l e s m below meth c D aC b 64 (k + 1) σ := ih (k + 1) (by omega)
    refine lv_if_eq (tgt := 150) C0.1 C0.2.1 dL_law_96 (by decide) (fun h => absurd h (by decide)) (fun _ => ?_)
    refine lv_iload C0.1 C0.2.1 dL_law_99 (lv_at hl 0 rfl) ?_
    refine lv_iconst (v := nI 4) C0.1 C0.2.1 dL_law_101 (by decide) ?_
    refine lv_irem C0.1 C0.2.1 dL_law_102 nz4 ?_
    refine lv_if_gt (tgt := 113) C0.1 C0.2.1 dL_law_103 (by decide) (fun _ => ?_) (fun _ => ?_)
    · exact G_113 (by omega) C0 h23 hM' kk H3 locs3 ls hW3 hS3 hl
    refine lv_aload_n C0.1 C0.2.1 dL_law_106 rfl (lv_at hl 3 rfl) ?_
    refine pw_after (pw_calls (As := [.ref 0]) (S := []) C0.1 C0.2.1 C0.2.2.1 C0.2.2.2.1 C0.2.2.2.2.1 C0.2.2.2.2.2.1 hW3 hl.1 (t_isWell h23) kL_102 rfl ⟨by decide, by decide⟩ (Nat.le_of_ble_eq_true rfl) dL_law_107 ⟨by decide, by decide⟩) hS3 hW3 (fun v4 σ4 H4 locs4 hQ4 hW4 hS4 => ?_)
    obtain ⟨rfl, h24⟩ := hQ4
    refine lv_if_eq (tgt := 150) C0.1 C0.2.1 dL_law_110 (by decide) (fun h => absurd h (by decide)) (fun _ => ?_)
    exact G_113 (by omega) C0 h24 hM' kk H4 locs4 ls hW4 hS4 hl
theorem arr_cls {s : State} {args : Array Value} {ty : FieldType} (h : (Cond.arrayClass ty).before args s = true) : ∃ cA, ArrOfT s cA ty ∧ s.vm.findClass ("[" ++ ty.toString) = some cA := by
  obtain ⟨c, kA, comp, h1, h2, h3⟩ := Cond.arrayClass_spec h
  exact ⟨c, fun n z => ⟨fun k h => (by cases h), kA, h2, comp, h3⟩, h1⟩
theorem arr_aoS {s : State} {args : Array Value} (h : (Cond.arrayOver tyS).before args s = true) : ∃ cA, ArrOfT s cA tyS ∧ va_RA s cA tyS := by
  obtain ⟨comp, c, kA, h1, h2, h3, h4, h5⟩ := Cond.arrayOver_spec h
  exact ⟨c, fun n z => ⟨fun k h => (by cases h), kA, h3, comp, h4⟩, kA, comp, h3, h4, h1, h5⟩
theorem arr_aoI {s : State} {args : Array Value} (hu : (Cond.arrayOver (.array .int)).before args s = true) : ∃ cA, ArrOfT s cA (.array .int) ∧ s.vm.findClass ("[" ++ (FieldType.array .int).toString) = some cA := by
  have e2 : (Cond.arrayOver (.array .int)).before args s = (((s.vm.findClass (FieldType.array .int).toString).bind fun comp => (s.vm.classes.findIdx? fun x => match x.kind with | .array component _ => component == comp | _ => false).bind fun c => (s.vm.classes[c]?).map fun k => match k.kind with | .array _ t => decide (t = .array .int) && decide (s.vm.findClass ("[" ++ (FieldType.array .int).toString) = some c) | _ => false) == some true) := rfl
  rw [e2] at hu
  simp only [beq_iff_eq, Option.bind_eq_some_iff, Option.map_eq_some_iff] at hu
  obtain ⟨comp, h1, c, h2, kA, h3, h4⟩ := hu
  cases hkind : kA.kind with
  | array comp2 t =>
    rw [hkind] at h4
    have h4 : (decide (t = .array .int) && decide (s.vm.findClass ("[" ++ (FieldType.array .int).toString) = some c)) = true := h4
    rw [Bool.and_eq_true] at h4
    obtain ⟨h5, h6⟩ := h4
    have h5 := of_decide_eq_true h5
    subst h5
    exact ⟨c, fun n z => ⟨fun k h => (by cases h), kA, h3, comp2, hkind⟩, of_decide_eq_true h6⟩
  | _ => rw [hkind] at h4; cases h4
def aCf (a0 a1 a2 a3 : ClassId) : FieldType → ClassId
  | .int => a0
  | .char => a1
  | .array _ => a2
  | _ => a3
theorem law_new {idx ci n cs sl pc : Nat} {fs rest : List Value} {σ : Sto} {H : Heap} {locs : List Loc} {ls : Array Slot} {Qm : State → Prop} (C0 : LC p s m c D aC b L xs) (d : decode cL_law pc = .ok (.new idx, 3)) (hl : LkN RL idx ci fs) (hf : ∀ h0, fs.map (pw_tv h0) = fs) (hc : cs + 1 ≤ 600000 ∧ sl + fs.length ≤ 7302250) (hn : cs = n) (hW : pw_W D aC s.heap.size n σ H) (hS : va_S (fun q => s.heap.size ≤ q) s.heap H locs)
    (kk : ∀ H1 : Heap, pw_W D aC s.heap.size (n + 1) (va_up σ n (pO ci fs)) H1 → va_S (fun q => s.heap.size ≤ q) s.heap H1 locs → W p l e room_1 s m #[Value.ref b] below meth c H1 locs (cs + 1) (sl + fs.length) Qm (F0 m (pc + 3) ls (.ref (s.heap.size + n) :: rest))) : W p l e room_1 s m #[Value.ref b] below meth c H locs cs sl Qm (F0 m pc ls rest) := by
  obtain ⟨C, T, N, ty, h1, h2, h3, h4, h5, h6, h7, rfl⟩ := hl
  refine va_new C0.1 C0.2.1 C0.2.2.2.2.1 h2 ty h3 C0.2.2.2.1 (C0.2.2.2.2.1 _ h5) (C0.2.2.2.2.1 _ h6) (C0.2.2.2.2.1 _ h7) C0.2.2.2.2.2.1.1 hW.1 (pw_D s.heap.size aC n σ) hS (fun q hq => hq) h1 h4 hc.1 hc.2 d (fun q0 H1 hP hD hS1 => ?_)
  have hx : (Sum.inr (ci, fs) : va_E) = pw_tr s.heap.size aC (pO ci fs) := by
    show _ = (Sum.inr (ci, fs.map (pw_tv s.heap.size)) : va_E)
    rw [hf]
  rw [hx] at hP hD
  refine W_sz fun hz => ?_
  have e := pw_next hP hD (by omega)
  subst e
  rw [pw_wl_push] at hP
  exact kk H1 (pw_W_mk hP hS1.1 (by omega)) hS1
end LAW
set_option maxRecDepth 100000 in
set_option maxHeartbeats 4000000 in
theorem whole_start {p : Program} {e : Env} {s : State} {m : MethodId} {below : List Frame} {meth : Method} {c : Code} (l : Launch) (hflags : l.flags = flags0) {b L : Nat} {xs : Nat → Int32} (hL : L ≤ 260) (C0 : lw_At p s m meth c b L xs) : W p l e room_1 s m #[Value.ref b] below meth c s.heap [] 0 0 (lw_Z below #[Value.ref b] s) (entryFrame m ([Value.ref b] : List Value).toArray 5) := by
  obtain ⟨hx, hb, hr, hml, hown, hts, hX, hbl, hlocks, hgv⟩ := id C0
  have htw : ∀ w ∈ lw_w, w.before #[Value.ref b] s = true := fun w h => hts w (List.mem_filter.mp h).1
  obtain ⟨c0, iS0, hKn0⟩ := u_known (C := RX0) (T := TX0) (N := 12) (n := 12) htw cls_0.2.1 (htw (.instantiable RX0 12) (lw_w_at (i := 98) (by decide +kernel) (by decide +kernel)))
  obtain ⟨c1, iS1, hKn1⟩ := u_known (C := RX1) (T := TX1) (N := 3) (n := 3) htw cls_1.2.1 (htw (.instantiable RX1 3) (lw_w_at (i := 216) (by decide +kernel) (by decide +kernel)))
  obtain ⟨c2, iS2, hKn2⟩ := u_known (C := RX2) (T := TX2) (N := 3) (n := 3) htw cls_2.2.1 (htw (.instantiable RX2 3) (lw_w_at (i := 162) (by decide +kernel) (by decide +kernel)))
  obtain ⟨c3, iS3, hKn3⟩ := u_known (C := RX3) (T := TX3) (N := 8) (n := 8) htw cls_3.2.1 (htw (.instantiable RX3 8) (lw_w_at (i := 104) (by decide +kernel) (by decide +kernel)))
  obtain ⟨c4, iS4, hKn4⟩ := u_known (C := RX4) (T := TX4) (N := 9) (n := 9) htw cls_4.2.1 (htw (.instantiable RX4 9) (lw_w_at (i := 44) (by decide +kernel) (by decide +kernel)))
  obtain ⟨c5, iS5, hKn5⟩ := u_known (C := RX5) (T := TX5) (N := 2) (n := 2) htw cls_5.2.1 (htw (.instantiable RX5 2) (lw_w_at (i := 148) (by decide +kernel) (by decide +kernel)))
  obtain ⟨c6, iS6, hKn6⟩ := u_known (C := RX6) (T := TX6) (N := 5) (n := 5) htw cls_6.2.1 (htw (.instantiable RX6 5) (lw_w_at (i := 236) (by decide +kernel) (by decide +kernel)))
  obtain ⟨c7, iS7, hKn7⟩ := u_known (C := RX7) (T := TX7) (N := 6) (n := 6) htw cls_7.2.1 (htw (.instantiable RX7 6) (lw_w_at (i := 36) (by decide +kernel) (by decide +kernel)))
  obtain ⟨dC, dI, hKc⟩ : ∃ (dC : Nat → ClassId) (dI : Nat → Nat → Nat), ∀ (k : Nat) (q : vw_C), vwCl[k]? = some q → u_Kn s q.1 q.2.1 q.2.2 (dC k) (dI k) := by
    refine ⟨fun k => if k = 0 then c0 else if k = 1 then c1 else if k = 2 then c2 else if k = 3 then c3 else if k = 4 then c4 else if k = 5 then c5 else if k = 6 then c6 else c7, fun k => if k = 0 then iS0 else if k = 1 then iS1 else if k = 2 then iS2 else if k = 3 then iS3 else if k = 4 then iS4 else if k = 5 then iS5 else if k = 6 then iS6 else iS7, ?_⟩
    intro k q hq
    match k, hq with
    | 0, hq => cases hq; exact hKn0
    | 1, hq => cases hq; exact hKn1
    | 2, hq => cases hq; exact hKn2
    | 3, hq => cases hq; exact hKn3
    | 4, hq => cases hq; exact hKn4
    | 5, hq => cases hq; exact hKn5
    | 6, hq => cases hq; exact hKn6
    | 7, hq => cases hq; exact hKn7
    | k + 8, hq => simp [vwCl] at hq
  obtain ⟨a0, r0, q0⟩ := arr_cls (htw _ w_arI)
  obtain ⟨a1, r1, q1⟩ := arr_cls (htw _ w_arC)
  obtain ⟨a2, r2, q2⟩ := arr_aoI (hts _ t_aoI)
  obtain ⟨a3, r3, q3⟩ := arr_aoS (hts _ t_aoS)
  have hK : va_K (dC, dI) vwCl (pw_tys (aCf a0 a1 a2 a3)) s := by
    refine ⟨hKc, fun k q h => ?_⟩
    match k, h with
    | 0, h => cases h; exact ⟨r0, q0⟩
    | 1, h => cases h; exact ⟨r1, q1⟩
    | 2, h => cases h; exact ⟨r2, q2⟩
    | 3, h => cases h; exact ⟨r3, q3⟩
    | k + 4, h => simp [pw_tys] at h
  have hPK : pw_K (dC, dI) (aCf a0 a1 a2 a3) s := by
    refine ⟨hK, fun w hw => ?_, fun ty hty => ?_⟩
    · have h1 := hts w (List.mem_filter.mp hw).1
      have h2 := (List.mem_filter.mp hw).2
      cases w <;> first | exact va_Nw.of rfl h1 | cases h2
    · rcases hty with rfl | rfl
      · exact hts _ t_aoI
      · exact hts _ t_aoS
  have CC : LC p s m c (dC, dI) (aCf a0 a1 a2 a3) b L xs := ⟨hx, hb, hml, hown, htw, hPK, hX, hbl, hL⟩
  have hS : va_S (fun q : Nat => s.heap.size ≤ q) s.heap s.heap [] := va_S.rf
  have hl := lv_entry ([.ref b]) (n := 5) (Nat.le_of_ble_eq_true rfl)
  rw [lg_entry_eq]
  generalize (lg_sl ([.ref b]) ++ List.replicate (5 - (lg_sl ([.ref b])).length) Slot.unset).toArray = ls at hl ⊢
  have hl : lv_has ls 5 [(0, .ref b)] := hl
  have hW0 : pw_W (dC, dI) (aCf a0 a1 a2 a3) s.heap.size 0 (fun _ => pO 0 []) s.heap := ⟨fun k q h => by simp [pw_wl] at h, rfl⟩
  refine law_new (fs := [.null, .null, .null, .null, .int 0, .null]) CC dL_law_0 nL_10 (fun _ => rfl) ⟨by decide, by decide⟩ rfl hW0 hS (fun H1 hW1 hS1 => ?_)
  refine lv_dup hx hb dL_law_3 rfl ?_
  refine pw_after (pw_calli (S := [.ref 0]) (As := []) (b := 0) hx hb hml hown htw hPK hW1 hl.1 (c_class (up_at _ _ _)) kL_94 rfl ⟨by decide, by decide⟩ (Nat.le_of_ble_eq_true rfl) dL_law_4 ⟨by decide, by decide⟩) hS1 hW1 (fun v σ1 H2 locs2 hQ hW2 hS2 => ?_)
  obtain ⟨rfl, hC1⟩ := hQ
  refine lv_astore_n (lv' := [(1, .ref (s.heap.size + 0)), (0, .ref b)]) hx hb dL_law_7 rfl hl (by decide) rfl (fun ls hl => ?_)
  refine law_new (fs := [.null, .null, .null, .null, .int 0, .null]) CC dL_law_8 nL_10 (fun _ => rfl) ⟨by decide, by decide⟩ (n := 114) rfl hW2 hS2 (fun H3 hW3 hS3 => ?_)
  refine lv_dup hx hb dL_law_11 rfl ?_
  have hcc := CP.shift (a := 114) (σ := va_up σ1 114 (pO 7 [.null, .null, .null, .null, .int 0, .null])) (c_class (σ := fun _ => pO 7 [.null, .null, .null, .null, .int 0, .null]) rfl) (fun k hk => by
    have : k = 0 := by omega
    subst this
    exact up_at _ _ _)
  refine pw_after (pw_calli (S := [.ref 114]) (As := []) (b := 114) hx hb hml hown htw hPK hW3 hl.1 hcc kL_94 rfl ⟨by decide, by decide⟩ (Nat.le_of_ble_eq_true rfl) dL_law_12 ⟨by decide, by decide⟩) hS3 hW3 (fun v σ2 H4 locs4 hQ hW4 hS4 => ?_)
  obtain ⟨v0, τ', ⟨rfl, hC2⟩, rfl, hq5, hq6⟩ := hQ
  have h2 : W2 σ2 w0 w0 := ⟨hC1.congr (fun k hk => (hq6 k (by omega)).trans (up_ne _ _ (by omega))), τ', hC2, fun k hk => hq5 k (by omega)⟩
  have hR0 : Rel0 w0 w0 := ⟨rfl, rfl, Or.inl ⟨rfl, rfl⟩, rfl⟩
  refine lv_astore_n (lv' := [(2, .ref (s.heap.size + 114)), (1, .ref (s.heap.size + 0)), (0, .ref b)]) hx hb dL_law_15 rfl hl (by decide) rfl (fun ls hl => ?_)
  refine lv_aload_n hx hb dL_law_16 rfl (lv_at hl 1 rfl) ?_
  refine lv_aload_n hx hb dL_law_17 rfl (lv_at hl 0 rfl) ?_
  refine lv_iconst (v := nI 2) hx hb dL_law_18 (by decide) ?_
  refine lv_aload_n hx hb dL_law_19 rfl (lv_at hl 2 rfl) ?_
  refine lv_iconst (v := nI 0) hx hb dL_law_20 (by decide) ?_
  refine law_cell CC dL_law_21 (by decide) hW4 hS4 hl.1 ⟨by decide, by decide⟩ (Nat.le_of_ble_eq_true rfl) (fun y1 G3 gl3 gW3 gS3 => ?_)
  refine lv_iconst (v := nI 5) hx hb dL_law_24 (by decide) ?_
  refine pw_after (pw_calls (As := [.int y1, .int (nI 5)]) (S := [.int (nI 2), .ref 114, .ref 0]) hx hb hml hown htw hPK gW3 hl.1 (t_up y1 (by decide) (by decide)) kL_23 rfl ⟨by decide, by decide⟩ (Nat.le_of_ble_eq_true rfl) dL_law_25 ⟨by decide, by decide⟩) gS3 gW3 (fun v4 σ4 G4 gl4 hQ4 gW4 gS4 => ?_)
  obtain ⟨rfl, rfl⟩ := hQ4
  refine lv_iadd hx hb dL_law_28 ?_
  rw [nI_add]
  refine lv_iconst (v := nI 1) hx hb dL_law_29 (by decide) ?_
  refine lv_aload_n hx hb dL_law_30 rfl (lv_at hl 2 rfl) ?_
  refine lv_iconst (v := nI 1) hx hb dL_law_31 (by decide) ?_
  refine law_cell CC dL_law_32 (by decide) gW4 gS4 hl.1 ⟨by decide, by decide⟩ (Nat.le_of_ble_eq_true rfl) (fun y2 G5 gl5 gW5 gS5 => ?_)
  refine lv_iconst (v := nI 3) hx hb dL_law_35 (by decide) ?_
  refine pw_after (pw_calls (As := [.int y2, .int (nI 3)]) (S := [.int (nI 1), .int (nI (2 + upV y1 5)), .ref 114, .ref 0]) hx hb hml hown htw hPK gW5 hl.1 (t_up y2 (by decide) (by decide)) kL_23 rfl ⟨by decide, by decide⟩ (Nat.le_of_ble_eq_true rfl) dL_law_36 ⟨by decide, by decide⟩) gS5 gW5 (fun v6 σ6 G6 gl6 hQ6 gW6 gS6 => ?_)
  obtain ⟨rfl, rfl⟩ := hQ6
  refine lv_iadd hx hb dL_law_39 ?_
  rw [nI_add]
  refine lv_aload_n hx hb dL_law_40 rfl (lv_at hl 2 rfl) ?_
  refine lv_iconst (v := nI 2) hx hb dL_law_41 (by decide) ?_
  refine law_cell CC dL_law_42 (by decide) gW6 gS6 hl.1 ⟨by decide, by decide⟩ (Nat.le_of_ble_eq_true rfl) (fun y3 G7 gl7 gW7 gS7 => ?_)
  refine lv_iconst (v := nI 2) hx hb dL_law_45 (by decide) ?_
  refine pw_after (pw_calls (As := [.int y3, .int (nI 2)]) (S := [.int (nI (1 + upV y2 3)), .int (nI (2 + upV y1 5)), .ref 114, .ref 0]) hx hb hml hown htw hPK gW7 hl.1 (t_up y3 (by decide) (by decide)) kL_23 rfl ⟨by decide, by decide⟩ (Nat.le_of_ble_eq_true rfl) dL_law_46 ⟨by decide, by decide⟩) gS7 gW7 (fun v8 σ8 G8 gl8 hQ8 gW8 gS8 => ?_)
  obtain ⟨rfl, rfl⟩ := hQ8
  have u5 := upV_lt y1 (k := 5) (by decide)
  have u3 := upV_lt y2 (k := 3) (by decide)
  have go : ∀ g : Bool, W p l e room_1 s m #[Value.ref b] below meth c G8 gl8 228 9672 (lw_Z below #[Value.ref b] s) (F0 m 57 ls [.int (bI g), .int (nI (1 + upV y2 3)), .int (nI (2 + upV y1 5)), .ref (s.heap.size + 114), .ref (s.heap.size + 0)]) := by
    intro g
    refine pw_after (pw_calls (As := [.ref 0, .ref 114, .int (nI (2 + upV y1 5)), .int (nI (1 + upV y2 3)), .int (bI g)]) (S := []) hx hb hml hown htw hPK gW8 hl.1 (t_isLaid h2 hR0 (by omega) (by omega) (by omega) (by omega) g) kL_28 rfl ⟨by decide, by decide⟩ (Nat.le_of_ble_eq_true rfl) dL_law_57 ⟨by decide, by decide⟩) gS8 gW8 (fun v9 σ9 G9 gl9 hQ9 gW9 gS9 => ?_)
    obtain ⟨rfl, w9, x9, h29, hM9⟩ := hQ9
    refine lv_istore_n (lv' := [(3, .int (nI 1)), (2, .ref (s.heap.size + 114)), (1, .ref (s.heap.size + 0)), (0, .ref b)]) hx hb dL_law_60 rfl hl (by decide) rfl (fun ls hl => ?_)
    refine lv_iconst (v := nI 3) hx hb dL_law_61 (by decide) ?_
    refine lv_istore (lv' := lw_L s b 3) hx hb dL_law_62 hl (by decide) rfl (fun ls hl => ?_)
    exact law_loop CC hr hlocks 47 3 (by decide) σ9 w9 x9 h29 hM9 G9 gl9 ls gW9 gS9 hl
  refine lv_if_ne (tgt := 56) hx hb dL_law_49 (by decide) (fun _ => ?_) (fun _ => ?_)
  · refine lv_iconst (v := bI false) hx hb dL_law_56 (by decide) ?_
    exact go false
  · refine lv_iconst (v := bI true) hx hb dL_law_52 (by decide) ?_
    refine lv_goto (tgt := 57) hx hb dL_law_53 (by decide) ?_
    exact go true
set_option maxHeartbeats 4000000 in
theorem lw_walk (l : Launch) (hflags : l.flags = flags0) (b : Addr) (xs : List Int32) : MetFree l x (headSpec (Jvm.Cond.code x code maxLocals ret :: tables_1) room_1) (lw_P b xs) (fun _ _ _ _ _ => True) lw_Q := by
  refine MetFree.of_bodyS (code := code) (maxLocals := maxLocals) (ret := ret) (by decide) ?_ ?_
  · intro args s m h hn
    obtain ⟨meth, c, h1, h2, h3, h4, h5, h6, -, -⟩ := Cond.code_spec hn (atoms_spec (ws := Jvm.Cond.code x code maxLocals ret :: tables_1) h _ List.mem_cons_self)
    exact ⟨meth, c, h1, h2, h3, h4, h5, h6⟩
  · intro p e s m args below meth c s₁ B hml0 hP _
    obtain ⟨rfl, hx, hbd, hgv⟩ := hP
    obtain ⟨scr, harrAt, hlist, hof, hsmall⟩ := hx
    obtain ⟨hcb, hkn, -, -⟩ := State.arrayAt?_spec harrAt
    have hown : s.vm.findClass R_law = some m.cls := findClass_of_methodNamed B.named
    have hts0 : ∀ c ∈ (Jvm.Cond.code x code maxLocals ret :: tables_1), c.before #[Value.ref b] s = true := atoms_spec (ws := Jvm.Cond.code x code maxLocals ret :: tables_1) B.pre
    have hts : ∀ w ∈ lw_tbl, w.before #[Value.ref b] s = true := k2_hts_sels lw_privs (fun w hw => hts0 w (List.mem_cons_of_mem _ hw)) lw_privs_ok
    have hml : c.maxLocals = 5 := B.maxLocals_eq (hts0 _ List.mem_cons_self)
    have X₀ : Stand p l e room_1 s m #[Value.ref b] below meth c s₁ [] 0 0 := Stand.of_body B
    have hh0 : s₁.heap = s.heap := by rw [B.state]; rfl
    have hsz : scr.slots.size = xs.length := by rw [← Array.length_toList, hlist, List.length_map]
    have hval : ∀ j : Nat, j < xs.length → scr.slots[j]? = some (.int (xs.getD j 0)) := fun j hj => by
      rw [← Array.getElem?_toList, hlist]
      simp [hj]
    have hbl : b < s.heap.size := (Array.getElem?_eq_some_iff.mp hcb).1
    have hX : va_X b xs.length (fun j => xs.getD j 0) s s.heap := ⟨scr, hcb, hof, hkn, hsz, hval⟩
    have K : W p l e room_1 s m #[Value.ref b] below meth c s₁.heap [] 0 0 (lw_Z below #[Value.ref b] s) (entryFrame m ([Value.ref b] : List Value).toArray 5) := by
      rw [hh0]
      exact whole_start l hflags hbd ⟨B.exec, B.bytes, B.returns, hml, hown, hts, hX, hbl, B.notSynchronized, hgv⟩
    obtain ⟨t, a1, o, b1, b2, b3⟩ := K s₁ rfl X₀
    exact ⟨t, o, a1, b1, b2, b3⟩
theorem lw_pre_spec {args : Array Value} {s : State} (h : (Jvm.Cond.and given_1 narrow_1).before args s = true) (hr : rest_1_c.before args s = true) : ∃ (b : Addr) (xs : List Int32), lw_P b xs args s := by
  have hs := flat_of_before _ h
  have hq := flat_of_before _ hr
  have hc : (Cond.count 1).before args s = true := hs _ (by decide +kernel)
  have harr : (Cond.arrayOf (.arg 0) .int).before args s = true := hs _ (by decide +kernel)
  have hle : (Cond.le (.length (.arg 0)) (.int 260)).before args s = true := hs _ (by decide +kernel)
  have hlen : (Cond.isInt (.length (.arg 0))).before args s = true := hq _ (by decide +kernel)
  have hall : (Cond.all (.arg 0) (.isInt (.elem (.arg 0) (.index 0)))).before args s = true := hq _ (by decide +kernel)
  obtain ⟨b, xs, hb, hx⟩ := State.ints_of_pre rfl harr hlen hall
  have hsm : xs.length < 2 ^ 31 := hx.choose_spec.2.2.2
  have hev : (Term.length (.arg 0)).eval args s none [] s = some (.int xs.length.toInt32) := hx.length_eval hb
  have hv := Cond.le_ints hev (show (Term.int 260).eval args s none [] s = some (.int 260) from rfl)
  have hd : xs.length.toInt32 ≤ 260 := by
    simpa [Cond.before, Cond.holds, hv] using hle
  have hN : xs.length ≤ 260 := (Int32.ofNat_le_ofNat hsm (by decide)).mp (show Int32.ofNat xs.length ≤ Int32.ofNat 260 from hd)
  exact ⟨b, xs, Cond.one_arg hc (show args[0]? = some (.ref b) from hb), hx, hN, h⟩
theorem lw_comes (l : Launch) (hflags : l.flags = flags0) : Comes l x (Jvm.Cond.code x code maxLocals ret :: tables_1) room_1 (fun tb e args s => Calls_1 tb e args s ∧ rest_1 tb e args s ∧ Pre_1 tb e args s)
    (fun _ _ args s o t => lw_Q args s o t) := by
  intro p e ha hc hk s m args below hf hfit hheap happ hpre
  obtain ⟨b, xs, hP⟩ := lw_pre_spec hpre.2.2 hpre.2.1
  obtain ⟨k, o, h1, h2, h3, hQ⟩ := lw_walk l hflags b xs p e ha hc hk s m args below hf ((Spec.applies_iff_loose hf).mp happ).1 hP trivial
  exact ⟨k, o, h1, h2, h3, hQ⟩
theorem lw_frame {s t : State} {o : Outcome} {args : Array Value} (h : State.butDraws s t lw_cs (fun t1 => Framed s o t1 [] 600000 7302250)) :
    State.butDraws s t [Jvm.Choice.named "NaN.bits"] (fun t1 => Framed s o t1 (fieldLocs frame_1_writes args s ++ arrayLocs frame_1_arrays args s ++ staticLocs frame_1_statics s) 600000 7302250) := h
theorem lw_limb (L : Cond) (hL : ∀ (args : Array Value) (s t : State), L.after args s (.returned (some (.int 1))) t = true) :
    ArmFor flags0 classFile x code maxLocals ret World_1 tables_1 room_1 Calls_1 rest_1 Pre_1
      (fun tb e a s o t => postC L tb e a s o t ∧ State.butDraws s t [Jvm.Choice.named "NaN.bits"] (fun t1 => Framed s o t1 (fieldLocs frame_1_writes a s ++ arrayLocs frame_1_arrays a s ++ staticLocs frame_1_statics s) 600000 7302250)) := by
  intro l hflags _ _ p e ha hc hk s m args below hf hfit hheap happ hpre
  obtain ⟨k, o, h1, h2, h3, rfl, hF⟩ := lw_comes l hflags p e ha hc hk s m args below hf hfit hheap happ hpre
  exact ⟨k, _, h1, h2, h3, hL args s _, lw_frame hF⟩
theorem i_vc : Claimed_1_1 ∧ Claimed_1_2 := ⟨lw_limb limb_1_1 (fun args s t => by simp [limb_1_1, Cond.after, Cond.holds, Cond.value]), lw_limb limb_1_2 (fun args s t => Cond.after_iff.mpr (by
  first | (rw [show limb_1_2 = Cond.eq .result (.int 1) from rfl, Cond.eq_ints (x := 1) (y := 1) rfl rfl]; simp; done) | (simp [limb_1_2, Cond.value, Term.eval]; done)))⟩
