/-! RULES OF PW, an instruction each (by program) -/
section PWR
variable {M : Mth} {mc ms : Nat} {Q : Option Value → Sto → Prop} {pc q n cs sl : Nat} {L : List (Option Value)} {S : List Value} {σ : Sto}
theorem P_step {L' : List (Option Value)} {S' : List Value} (h : ∀ (p : Program) (l : Launch) (e : Env) (R : Room) (s : State) (m : MethodId) (args : Array Value) (below : List Frame) (meth : Method) (c : Code) (D : va_G) (aC : FieldType → ClassId) (h0 : Nat) (H : Heap) (locs : List Loc) (ls : Array Slot) (Qm : State → Prop),
    pw_C p s m args meth c M D aC → pw_L h0 L ls M.2.2.1 → (∀ ls', pw_L h0 L' ls' M.2.2.1 → W p l e R s m args below meth c H locs cs sl Qm (F0 m q ls' (S'.map (pw_tv h0)))) → W p l e R s m args below meth c H locs cs sl Qm (F0 m pc ls (S.map (pw_tv h0))))
    (k : PW M mc ms Q q L' S' n σ cs sl) : PW M mc ms Q pc L S n σ cs sl :=
  fun p l e s m args below meth c D aC h0 H locs ls hC hh hz hW hS hL => h p l e _ s m args below meth c D aC h0 H locs ls _ hC hL (fun ls' hL' => k p l e s m args below meth c D aC h0 H locs ls' hC hh hz hW hS hL')
theorem P_iconst {z : Int} {v : Int32} (d : decode M.2.1 pc = .ok (.iconst z, 1)) (hq : pc + 1 = q) (hv : Int32.ofInt z = v) (k : PW M mc ms Q q L (.int v :: S) n σ cs sl) : PW M mc ms Q pc L (S) n σ cs sl := by
  subst hq
  exact P_step (fun p l e R s m args below meth c D aC h0 H locs ls Qm hC hL kk => lv_iconst hC.1 hC.2.1 d hv (kk ls hL)) k
theorem P_bipush {z : Int} {v : Int32} (d : decode M.2.1 pc = .ok (.bipush z, 2)) (hq : pc + 2 = q) (hv : (Int8.ofInt z).toInt32 = v) (k : PW M mc ms Q q L (.int v :: S) n σ cs sl) : PW M mc ms Q pc L (S) n σ cs sl := by
  subst hq
  exact P_step (fun p l e R s m args below meth c D aC h0 H locs ls Qm hC hL kk => lv_bipush hC.1 hC.2.1 d hv (kk ls hL)) k
theorem P_sipush {z : Int} {v : Int32} (d : decode M.2.1 pc = .ok (.sipush z, 3)) (hq : pc + 3 = q) (hv : (Int16.ofInt z).toInt32 = v) (k : PW M mc ms Q q L (.int v :: S) n σ cs sl) : PW M mc ms Q pc L (S) n σ cs sl := by
  subst hq
  exact P_step (fun p l e R s m args below meth c D aC h0 H locs ls Qm hC hL kk => lv_sipush hC.1 hC.2.1 d hv (kk ls hL)) k
theorem P_lconst {z : Fin 2} {v : Int64} (d : decode M.2.1 pc = .ok (.lconst z, 1)) (hq : pc + 1 = q) (hv : Int64.ofNat (z : Nat) = v) (k : PW M mc ms Q q L (.long v :: S) n σ cs sl) : PW M mc ms Q pc L (S) n σ cs sl := by
  subst hq
  exact P_step (fun p l e R s m args below meth c D aC h0 H locs ls Qm hC hL kk => lv_lconst hC.1 hC.2.1 d hv (kk ls hL)) k
theorem P_fconst0 (d : decode M.2.1 pc = .ok (.fconst 0, 1)) (hq : pc + 1 = q) (k : PW M mc ms Q q L (.float FP.fconst0 :: S) n σ cs sl) : PW M mc ms Q pc L (S) n σ cs sl := by
  subst hq
  exact P_step (fun p l e R s m args below meth c D aC h0 H locs ls Qm hC hL kk => lv_fconst0 hC.1 hC.2.1 d (kk ls hL)) k
theorem P_fconst1 (d : decode M.2.1 pc = .ok (.fconst 1, 1)) (hq : pc + 1 = q) (k : PW M mc ms Q q L (.float FP.fconst1 :: S) n σ cs sl) : PW M mc ms Q pc L (S) n σ cs sl := by
  subst hq
  exact P_step (fun p l e R s m args below meth c D aC h0 H locs ls Qm hC hL kk => lv_fconst1 hC.1 hC.2.1 d (kk ls hL)) k
theorem P_fconst2 (d : decode M.2.1 pc = .ok (.fconst 2, 1)) (hq : pc + 1 = q) (k : PW M mc ms Q q L (.float FP.fconst2 :: S) n σ cs sl) : PW M mc ms Q pc L (S) n σ cs sl := by
  subst hq
  exact P_step (fun p l e R s m args below meth c D aC h0 H locs ls Qm hC hL kk => lv_fconst2 hC.1 hC.2.1 d (kk ls hL)) k
theorem P_ldc {ix : Nat} {v : Int32} (d : decode M.2.1 pc = .ok (.ldc ix, 2)) (hq : pc + 2 = q) (hv : Cond.constant M.1.cls ix v ∈ lw_w) (k : PW M mc ms Q q L (.int v :: S) n σ cs sl) : PW M mc ms Q pc L (S) n σ cs sl := by
  subst hq
  exact P_step (fun p l e R s m args below meth c D aC h0 H locs ls Qm hC hL kk => lv_ldc hC.1 hC.2.1 hC.2.2.2.1 (hC.2.2.2.2.1 _ hv) d (kk ls hL)) k
theorem P_ldcw {ix : Nat} {v : Int32} (d : decode M.2.1 pc = .ok (.ldc_w ix, 3)) (hq : pc + 3 = q) (hv : Cond.constant M.1.cls ix v ∈ lw_w) (k : PW M mc ms Q q L (.int v :: S) n σ cs sl) : PW M mc ms Q pc L (S) n σ cs sl := by
  subst hq
  exact P_step (fun p l e R s m args below meth c D aC h0 H locs ls Qm hC hL kk => lv_ldcw hC.1 hC.2.1 hC.2.2.2.1 (hC.2.2.2.2.1 _ hv) d (kk ls hL)) k
theorem P_ldcf {ix : Nat} {v : UInt32} (d : decode M.2.1 pc = .ok (.ldc ix, 2)) (hq : pc + 2 = q) (hv : Cond.constantFloat M.1.cls ix v ∈ lw_w) (k : PW M mc ms Q q L (.float v :: S) n σ cs sl) : PW M mc ms Q pc L (S) n σ cs sl := by
  subst hq
  exact P_step (fun p l e R s m args below meth c D aC h0 H locs ls Qm hC hL kk => lv_ldcf hC.1 hC.2.1 hC.2.2.2.1 (hC.2.2.2.2.1 _ hv) d (kk ls hL)) k
theorem P_ldc2 {ix : Nat} {v : Int64} (d : decode M.2.1 pc = .ok (.ldc2_w ix, 3)) (hq : pc + 3 = q) (hv : Cond.constantLong M.1.cls ix v ∈ lw_w) (k : PW M mc ms Q q L (.long v :: S) n σ cs sl) : PW M mc ms Q pc L (S) n σ cs sl := by
  subst hq
  exact P_step (fun p l e R s m args below meth c D aC h0 H locs ls Qm hC hL kk => lv_ldc2 hC.1 hC.2.1 hC.2.2.2.1 (hC.2.2.2.2.1 _ hv) d (kk ls hL)) k
theorem P_iload_n {k4 : Fin 4} {x : Int32} (d : decode M.2.1 pc = .ok (.iload_n k4, 1)) (hq : pc + 1 = q) (hx : L[(k4 : Nat)]? = some (some (.int x))) (k : PW M mc ms Q q L (.int x :: S) n σ cs sl) : PW M mc ms Q pc L (S) n σ cs sl := by
  subst hq
  exact P_step (fun p l e R s m args below meth c D aC h0 H locs ls Qm hC hL kk => lv_iload_n hC.1 hC.2.1 d rfl (hL.2.2 _ _ hx) (kk ls hL)) k
theorem P_iload {i : Nat} {x : Int32} (d : decode M.2.1 pc = .ok (.iload i, 2)) (hq : pc + 2 = q) (hx : L[i]? = some (some (.int x))) (k : PW M mc ms Q q L (.int x :: S) n σ cs sl) : PW M mc ms Q pc L (S) n σ cs sl := by
  subst hq
  exact P_step (fun p l e R s m args below meth c D aC h0 H locs ls Qm hC hL kk => lv_iload hC.1 hC.2.1 d (hL.2.2 _ _ hx) (kk ls hL)) k
theorem P_lload_n {k4 : Fin 4} {x : Int64} (d : decode M.2.1 pc = .ok (.lload_n k4, 1)) (hq : pc + 1 = q) (hx : L[(k4 : Nat)]? = some (some (.long x))) (k : PW M mc ms Q q L (.long x :: S) n σ cs sl) : PW M mc ms Q pc L (S) n σ cs sl := by
  subst hq
  exact P_step (fun p l e R s m args below meth c D aC h0 H locs ls Qm hC hL kk => lv_lload_n hC.1 hC.2.1 d rfl (hL.2.2 _ _ hx) (kk ls hL)) k
theorem P_lload {i : Nat} {x : Int64} (d : decode M.2.1 pc = .ok (.lload i, 2)) (hq : pc + 2 = q) (hx : L[i]? = some (some (.long x))) (k : PW M mc ms Q q L (.long x :: S) n σ cs sl) : PW M mc ms Q pc L (S) n σ cs sl := by
  subst hq
  exact P_step (fun p l e R s m args below meth c D aC h0 H locs ls Qm hC hL kk => lv_lload hC.1 hC.2.1 d (hL.2.2 _ _ hx) (kk ls hL)) k
theorem P_fload_n {k4 : Fin 4} {x : UInt32} (d : decode M.2.1 pc = .ok (.fload_n k4, 1)) (hq : pc + 1 = q) (hx : L[(k4 : Nat)]? = some (some (.float x))) (k : PW M mc ms Q q L (.float x :: S) n σ cs sl) : PW M mc ms Q pc L (S) n σ cs sl := by
  subst hq
  exact P_step (fun p l e R s m args below meth c D aC h0 H locs ls Qm hC hL kk => lv_fload_n hC.1 hC.2.1 d rfl (hL.2.2 _ _ hx) (kk ls hL)) k
theorem P_fload {i : Nat} {x : UInt32} (d : decode M.2.1 pc = .ok (.fload i, 2)) (hq : pc + 2 = q) (hx : L[i]? = some (some (.float x))) (k : PW M mc ms Q q L (.float x :: S) n σ cs sl) : PW M mc ms Q pc L (S) n σ cs sl := by
  subst hq
  exact P_step (fun p l e R s m args below meth c D aC h0 H locs ls Qm hC hL kk => lv_fload hC.1 hC.2.1 d (hL.2.2 _ _ hx) (kk ls hL)) k
theorem P_aload_n {k4 : Fin 4} {x : Nat} (d : decode M.2.1 pc = .ok (.aload_n k4, 1)) (hq : pc + 1 = q) (hx : L[(k4 : Nat)]? = some (some (.ref x))) (k : PW M mc ms Q q L (.ref x :: S) n σ cs sl) : PW M mc ms Q pc L (S) n σ cs sl := by
  subst hq
  exact P_step (fun p l e R s m args below meth c D aC h0 H locs ls Qm hC hL kk => lv_aload_n hC.1 hC.2.1 d rfl (hL.2.2 _ _ hx) (kk ls hL)) k
theorem P_aload {i : Nat} {x : Nat} (d : decode M.2.1 pc = .ok (.aload i, 2)) (hq : pc + 2 = q) (hx : L[i]? = some (some (.ref x))) (k : PW M mc ms Q q L (.ref x :: S) n σ cs sl) : PW M mc ms Q pc L (S) n σ cs sl := by
  subst hq
  exact P_step (fun p l e R s m args below meth c D aC h0 H locs ls Qm hC hL kk => lv_aload hC.1 hC.2.1 d (hL.2.2 _ _ hx) (kk ls hL)) k
theorem P_istore_n {k4 : Fin 4} {x : Int32} {L' : List (Option Value)} (d : decode M.2.1 pc = .ok (.istore_n k4, 1)) (hq : pc + 1 = q) (hn : (k4 : Nat) < M.2.2.1) (hl : pw_st1 L (k4 : Nat) (.int x) = L') (k : PW M mc ms Q q L' (S) n σ cs sl) : PW M mc ms Q pc L (.int x :: S) n σ cs sl := by
  subst hq
  exact P_step (fun p l e R s m args below meth c D aC h0 H locs ls Qm hC hL kk => lv_istore_n hC.1 hC.2.1 d rfl hL.has hn rfl (fun ls' h' => kk ls' (hl ▸ pw_L.of1 (v := .int x) h'))) k
theorem P_istore {i : Nat} {x : Int32} {L' : List (Option Value)} (d : decode M.2.1 pc = .ok (.istore i, 2)) (hq : pc + 2 = q) (hn : i < M.2.2.1) (hl : pw_st1 L i (.int x) = L') (k : PW M mc ms Q q L' (S) n σ cs sl) : PW M mc ms Q pc L (.int x :: S) n σ cs sl := by
  subst hq
  exact P_step (fun p l e R s m args below meth c D aC h0 H locs ls Qm hC hL kk => lv_istore hC.1 hC.2.1 d hL.has hn rfl (fun ls' h' => kk ls' (hl ▸ pw_L.of1 (v := .int x) h'))) k
theorem P_fstore_n {k4 : Fin 4} {x : UInt32} {L' : List (Option Value)} (d : decode M.2.1 pc = .ok (.fstore_n k4, 1)) (hq : pc + 1 = q) (hn : (k4 : Nat) < M.2.2.1) (hl : pw_st1 L (k4 : Nat) (.float x) = L') (k : PW M mc ms Q q L' (S) n σ cs sl) : PW M mc ms Q pc L (.float x :: S) n σ cs sl := by
  subst hq
  exact P_step (fun p l e R s m args below meth c D aC h0 H locs ls Qm hC hL kk => lv_fstore_n hC.1 hC.2.1 d rfl hL.has hn rfl (fun ls' h' => kk ls' (hl ▸ pw_L.of1 (v := .float x) h'))) k
theorem P_fstore {i : Nat} {x : UInt32} {L' : List (Option Value)} (d : decode M.2.1 pc = .ok (.fstore i, 2)) (hq : pc + 2 = q) (hn : i < M.2.2.1) (hl : pw_st1 L i (.float x) = L') (k : PW M mc ms Q q L' (S) n σ cs sl) : PW M mc ms Q pc L (.float x :: S) n σ cs sl := by
  subst hq
  exact P_step (fun p l e R s m args below meth c D aC h0 H locs ls Qm hC hL kk => lv_fstore hC.1 hC.2.1 d hL.has hn rfl (fun ls' h' => kk ls' (hl ▸ pw_L.of1 (v := .float x) h'))) k
theorem P_astore_n {k4 : Fin 4} {x : Nat} {L' : List (Option Value)} (d : decode M.2.1 pc = .ok (.astore_n k4, 1)) (hq : pc + 1 = q) (hn : (k4 : Nat) < M.2.2.1) (hl : pw_st1 L (k4 : Nat) (.ref x) = L') (k : PW M mc ms Q q L' (S) n σ cs sl) : PW M mc ms Q pc L (.ref x :: S) n σ cs sl := by
  subst hq
  exact P_step (fun p l e R s m args below meth c D aC h0 H locs ls Qm hC hL kk => lv_astore_n hC.1 hC.2.1 d rfl hL.has hn rfl (fun ls' h' => kk ls' (hl ▸ pw_L.of1 (v := .ref x) h'))) k
theorem P_astore {i : Nat} {x : Nat} {L' : List (Option Value)} (d : decode M.2.1 pc = .ok (.astore i, 2)) (hq : pc + 2 = q) (hn : i < M.2.2.1) (hl : pw_st1 L i (.ref x) = L') (k : PW M mc ms Q q L' (S) n σ cs sl) : PW M mc ms Q pc L (.ref x :: S) n σ cs sl := by
  subst hq
  exact P_step (fun p l e R s m args below meth c D aC h0 H locs ls Qm hC hL kk => lv_astore hC.1 hC.2.1 d hL.has hn rfl (fun ls' h' => kk ls' (hl ▸ pw_L.of1 (v := .ref x) h'))) k
theorem P_lstore_n {k4 : Fin 4} {x : Int64} {L' : List (Option Value)} (d : decode M.2.1 pc = .ok (.lstore_n k4, 1)) (hq : pc + 1 = q) (hn : (k4 : Nat) + 1 < M.2.2.1) (hl : pw_st2 L (k4 : Nat) (.long x) = L') (k : PW M mc ms Q q L' (S) n σ cs sl) : PW M mc ms Q pc L (.long x :: S) n σ cs sl := by
  subst hq
  exact P_step (fun p l e R s m args below meth c D aC h0 H locs ls Qm hC hL kk => lv_lstore_n hC.1 hC.2.1 d rfl hL.has hn rfl (fun ls' h' => kk ls' (hl ▸ pw_L.of2 (v := .long x) h'))) k
theorem P_lstore {i : Nat} {x : Int64} {L' : List (Option Value)} (d : decode M.2.1 pc = .ok (.lstore i, 2)) (hq : pc + 2 = q) (hn : i + 1 < M.2.2.1) (hl : pw_st2 L i (.long x) = L') (k : PW M mc ms Q q L' (S) n σ cs sl) : PW M mc ms Q pc L (.long x :: S) n σ cs sl := by
  subst hq
  exact P_step (fun p l e R s m args below meth c D aC h0 H locs ls Qm hC hL kk => lv_lstore hC.1 hC.2.1 d hL.has hn rfl (fun ls' h' => kk ls' (hl ▸ pw_L.of2 (v := .long x) h'))) k
theorem P_iinc {i : Nat} {z : Int} {x v : Int32} {L' : List (Option Value)} (d : decode M.2.1 pc = .ok (.iinc i z, 3)) (hq : pc + 3 = q) (hn : i < M.2.2.1) (hx : L[i]? = some (some (.int x))) (hv : x + Int32.ofInt z = v) (hl : pw_st1 L i (.int v) = L') (k : PW M mc ms Q q L' S n σ cs sl) : PW M mc ms Q pc L S n σ cs sl := by
  subst hq
  refine P_step (fun p l e R s m args below meth c D aC h0 H locs ls Qm hC hL kk => ?_) k
  obtain ⟨k0, hk0⟩ := List.getElem?_of_mem (pw_asc_in (h0 := h0) hx)
  exact lv_iinc hC.1 hC.2.1 d hL.has hk0 hv hn rfl (fun ls' h' => kk ls' (hl ▸ pw_L.of1 (v := .int v) h'))
theorem P_iadd {x y : Int32} (d : decode M.2.1 pc = .ok (.iadd, 1)) (hq : pc + 1 = q) (k : PW M mc ms Q q L (.int (x + y) :: S) n σ cs sl) : PW M mc ms Q pc L (.int y :: .int x :: S) n σ cs sl := by
  subst hq
  exact P_step (fun p l e R s m args below meth c D aC h0 H locs ls Qm hC hL kk => lv_iadd hC.1 hC.2.1 d (kk ls hL)) k
theorem P_isub {x y : Int32} (d : decode M.2.1 pc = .ok (.isub, 1)) (hq : pc + 1 = q) (k : PW M mc ms Q q L (.int (x - y) :: S) n σ cs sl) : PW M mc ms Q pc L (.int y :: .int x :: S) n σ cs sl := by
  subst hq
  exact P_step (fun p l e R s m args below meth c D aC h0 H locs ls Qm hC hL kk => lv_isub hC.1 hC.2.1 d (kk ls hL)) k
theorem P_imul {x y : Int32} (d : decode M.2.1 pc = .ok (.imul, 1)) (hq : pc + 1 = q) (k : PW M mc ms Q q L (.int (x * y) :: S) n σ cs sl) : PW M mc ms Q pc L (.int y :: .int x :: S) n σ cs sl := by
  subst hq
  exact P_step (fun p l e R s m args below meth c D aC h0 H locs ls Qm hC hL kk => lv_imul hC.1 hC.2.1 d (kk ls hL)) k
theorem P_iand {x y : Int32} (d : decode M.2.1 pc = .ok (.iand, 1)) (hq : pc + 1 = q) (k : PW M mc ms Q q L (.int (x &&& y) :: S) n σ cs sl) : PW M mc ms Q pc L (.int y :: .int x :: S) n σ cs sl := by
  subst hq
  exact P_step (fun p l e R s m args below meth c D aC h0 H locs ls Qm hC hL kk => lv_iand hC.1 hC.2.1 d (kk ls hL)) k
theorem P_ior {x y : Int32} (d : decode M.2.1 pc = .ok (.ior, 1)) (hq : pc + 1 = q) (k : PW M mc ms Q q L (.int (x ||| y) :: S) n σ cs sl) : PW M mc ms Q pc L (.int y :: .int x :: S) n σ cs sl := by
  subst hq
  exact P_step (fun p l e R s m args below meth c D aC h0 H locs ls Qm hC hL kk => lv_ior hC.1 hC.2.1 d (kk ls hL)) k
theorem P_ixor {x y : Int32} (d : decode M.2.1 pc = .ok (.ixor, 1)) (hq : pc + 1 = q) (k : PW M mc ms Q q L (.int (x ^^^ y) :: S) n σ cs sl) : PW M mc ms Q pc L (.int y :: .int x :: S) n σ cs sl := by
  subst hq
  exact P_step (fun p l e R s m args below meth c D aC h0 H locs ls Qm hC hL kk => lv_ixor hC.1 hC.2.1 d (kk ls hL)) k
theorem P_ishl {x y : Int32} (d : decode M.2.1 pc = .ok (.ishl, 1)) (hq : pc + 1 = q) (k : PW M mc ms Q q L (.int (x <<< (y &&& 31)) :: S) n σ cs sl) : PW M mc ms Q pc L (.int y :: .int x :: S) n σ cs sl := by
  subst hq
  exact P_step (fun p l e R s m args below meth c D aC h0 H locs ls Qm hC hL kk => lv_ishl hC.1 hC.2.1 d (kk ls hL)) k
theorem P_ishr {x y : Int32} (d : decode M.2.1 pc = .ok (.ishr, 1)) (hq : pc + 1 = q) (k : PW M mc ms Q q L (.int (x >>> (y &&& 31)) :: S) n σ cs sl) : PW M mc ms Q pc L (.int y :: .int x :: S) n σ cs sl := by
  subst hq
  exact P_step (fun p l e R s m args below meth c D aC h0 H locs ls Qm hC hL kk => lv_ishr hC.1 hC.2.1 d (kk ls hL)) k
theorem P_idiv {x y : Int32} (d : decode M.2.1 pc = .ok (.idiv, 1)) (hq : pc + 1 = q) (hy : ¬ y = 0) (k : PW M mc ms Q q L (.int (x / y) :: S) n σ cs sl) : PW M mc ms Q pc L (.int y :: .int x :: S) n σ cs sl := by
  subst hq
  exact P_step (fun p l e R s m args below meth c D aC h0 H locs ls Qm hC hL kk => lv_idiv hC.1 hC.2.1 d hy (kk ls hL)) k
theorem P_irem {x y : Int32} (d : decode M.2.1 pc = .ok (.irem, 1)) (hq : pc + 1 = q) (hy : ¬ y = 0) (k : PW M mc ms Q q L (.int (x - x / y * y) :: S) n σ cs sl) : PW M mc ms Q pc L (.int y :: .int x :: S) n σ cs sl := by
  subst hq
  exact P_step (fun p l e R s m args below meth c D aC h0 H locs ls Qm hC hL kk => lv_irem hC.1 hC.2.1 d hy (kk ls hL)) k
theorem P_iushr {x y : Int32} (d : decode M.2.1 pc = .ok (.iushr, 1)) (hq : pc + 1 = q) (k : PW M mc ms Q q L (.int (x.toUInt32 >>> (y.toUInt32 &&& Int32.toUInt32 31)).toInt32 :: S) n σ cs sl) : PW M mc ms Q pc L (.int y :: .int x :: S) n σ cs sl := by
  subst hq
  exact P_step (fun p l e R s m args below meth c D aC h0 H locs ls Qm hC hL kk => lv_iushr hC.1 hC.2.1 d rfl (kk ls hL)) k
theorem P_ineg {x : Int32} (d : decode M.2.1 pc = .ok (.ineg, 1)) (hq : pc + 1 = q) (k : PW M mc ms Q q L (.int (-x) :: S) n σ cs sl) : PW M mc ms Q pc L (.int x :: S) n σ cs sl := by
  subst hq
  exact P_step (fun p l e R s m args below meth c D aC h0 H locs ls Qm hC hL kk => lv_ineg hC.1 hC.2.1 d (kk ls hL)) k
theorem P_i2c {x : Int32} (d : decode M.2.1 pc = .ok (.i2c, 1)) (hq : pc + 1 = q) (k : PW M mc ms Q q L (.int (x.toUInt32 % 65536).toInt32 :: S) n σ cs sl) : PW M mc ms Q pc L (.int x :: S) n σ cs sl := by
  subst hq
  exact P_step (fun p l e R s m args below meth c D aC h0 H locs ls Qm hC hL kk => lv_i2c hC.1 hC.2.1 d rfl (kk ls hL)) k
theorem P_i2l {x : Int32} (d : decode M.2.1 pc = .ok (.i2l, 1)) (hq : pc + 1 = q) (k : PW M mc ms Q q L (.long x.toInt64 :: S) n σ cs sl) : PW M mc ms Q pc L (.int x :: S) n σ cs sl := by
  subst hq
  exact P_step (fun p l e R s m args below meth c D aC h0 H locs ls Qm hC hL kk => lv_i2l hC.1 hC.2.1 d rfl (kk ls hL)) k
theorem P_l2i {x : Int64} (d : decode M.2.1 pc = .ok (.l2i, 1)) (hq : pc + 1 = q) (k : PW M mc ms Q q L (.int x.toInt32 :: S) n σ cs sl) : PW M mc ms Q pc L (.long x :: S) n σ cs sl := by
  subst hq
  exact P_step (fun p l e R s m args below meth c D aC h0 H locs ls Qm hC hL kk => lv_l2i hC.1 hC.2.1 d rfl (kk ls hL)) k
theorem P_ladd {x y : Int64} (d : decode M.2.1 pc = .ok (.ladd, 1)) (hq : pc + 1 = q) (k : PW M mc ms Q q L (.long (x + y) :: S) n σ cs sl) : PW M mc ms Q pc L (.long y :: .long x :: S) n σ cs sl := by
  subst hq
  exact P_step (fun p l e R s m args below meth c D aC h0 H locs ls Qm hC hL kk => lv_ladd hC.1 hC.2.1 d (kk ls hL)) k
theorem P_lsub {x y : Int64} (d : decode M.2.1 pc = .ok (.lsub, 1)) (hq : pc + 1 = q) (k : PW M mc ms Q q L (.long (x - y) :: S) n σ cs sl) : PW M mc ms Q pc L (.long y :: .long x :: S) n σ cs sl := by
  subst hq
  exact P_step (fun p l e R s m args below meth c D aC h0 H locs ls Qm hC hL kk => lv_lsub hC.1 hC.2.1 d (kk ls hL)) k
theorem P_lmul {x y : Int64} (d : decode M.2.1 pc = .ok (.lmul, 1)) (hq : pc + 1 = q) (k : PW M mc ms Q q L (.long (x * y) :: S) n σ cs sl) : PW M mc ms Q pc L (.long y :: .long x :: S) n σ cs sl := by
  subst hq
  exact P_step (fun p l e R s m args below meth c D aC h0 H locs ls Qm hC hL kk => lv_lmul hC.1 hC.2.1 d (kk ls hL)) k
theorem P_land {x y : Int64} (d : decode M.2.1 pc = .ok (.land, 1)) (hq : pc + 1 = q) (k : PW M mc ms Q q L (.long (x &&& y) :: S) n σ cs sl) : PW M mc ms Q pc L (.long y :: .long x :: S) n σ cs sl := by
  subst hq
  exact P_step (fun p l e R s m args below meth c D aC h0 H locs ls Qm hC hL kk => lv_land hC.1 hC.2.1 d (kk ls hL)) k
theorem P_lor {x y : Int64} (d : decode M.2.1 pc = .ok (.lor, 1)) (hq : pc + 1 = q) (k : PW M mc ms Q q L (.long (x ||| y) :: S) n σ cs sl) : PW M mc ms Q pc L (.long y :: .long x :: S) n σ cs sl := by
  subst hq
  exact P_step (fun p l e R s m args below meth c D aC h0 H locs ls Qm hC hL kk => lv_lor hC.1 hC.2.1 d (kk ls hL)) k
theorem P_lxor {x y : Int64} (d : decode M.2.1 pc = .ok (.lxor, 1)) (hq : pc + 1 = q) (k : PW M mc ms Q q L (.long (x ^^^ y) :: S) n σ cs sl) : PW M mc ms Q pc L (.long y :: .long x :: S) n σ cs sl := by
  subst hq
  exact P_step (fun p l e R s m args below meth c D aC h0 H locs ls Qm hC hL kk => lv_lxor hC.1 hC.2.1 d (kk ls hL)) k
theorem P_ldiv {x y : Int64} (d : decode M.2.1 pc = .ok (.ldiv, 1)) (hq : pc + 1 = q) (hy : ¬ y = 0) (k : PW M mc ms Q q L (.long (x / y) :: S) n σ cs sl) : PW M mc ms Q pc L (.long y :: .long x :: S) n σ cs sl := by
  subst hq
  exact P_step (fun p l e R s m args below meth c D aC h0 H locs ls Qm hC hL kk => lv_ldiv hC.1 hC.2.1 d hy (kk ls hL)) k
theorem P_lshl {x : Int64} {y : Int32} (d : decode M.2.1 pc = .ok (.lshl, 1)) (hq : pc + 1 = q) (k : PW M mc ms Q q L (.long (x <<< (y.toInt64 &&& 63)) :: S) n σ cs sl) : PW M mc ms Q pc L (.int y :: .long x :: S) n σ cs sl := by
  subst hq
  exact P_step (fun p l e R s m args below meth c D aC h0 H locs ls Qm hC hL kk => lv_lshl hC.1 hC.2.1 d rfl (kk ls hL)) k
theorem P_lushr {x : Int64} {y : Int32} (d : decode M.2.1 pc = .ok (.lushr, 1)) (hq : pc + 1 = q) (k : PW M mc ms Q q L (.long (x.toUInt64 >>> (y.toInt64.toUInt64 &&& Int64.toUInt64 63)).toInt64 :: S) n σ cs sl) : PW M mc ms Q pc L (.int y :: .long x :: S) n σ cs sl := by
  subst hq
  exact P_step (fun p l e R s m args below meth c D aC h0 H locs ls Qm hC hL kk => lv_lushr hC.1 hC.2.1 d rfl (kk ls hL)) k
theorem P_lcmp {x y : Int64} (d : decode M.2.1 pc = .ok (.lcmp, 1)) (hq : pc + 1 = q) (k : PW M mc ms Q q L (.int (lg_cmp x y) :: S) n σ cs sl) : PW M mc ms Q pc L (.long y :: .long x :: S) n σ cs sl := by
  subst hq
  exact P_step (fun p l e R s m args below meth c D aC h0 H locs ls Qm hC hL kk => W.lcmp hC.1 hC.2.1 d (kk ls hL)) k
theorem P_dup {v : Value} (d : decode M.2.1 pc = .ok (.dup, 1)) (hq : pc + 1 = q) (hc : v.category = 1) (k : PW M mc ms Q q L (v :: v :: S) n σ cs sl) : PW M mc ms Q pc L (v :: S) n σ cs sl := by
  subst hq
  exact P_step (fun p l e R s m args below meth c D aC h0 H locs ls Qm hC hL kk => lv_dup hC.1 hC.2.1 d ((pw_tv_cat h0 v).trans hc) (kk ls hL)) k
theorem P_dup2 {v w : Value} (d : decode M.2.1 pc = .ok (.dup2, 1)) (hq : pc + 1 = q) (hc : v.category = 1) (hc2 : w.category = 1) (k : PW M mc ms Q q L (v :: w :: v :: w :: S) n σ cs sl) : PW M mc ms Q pc L (v :: w :: S) n σ cs sl := by
  subst hq
  exact P_step (fun p l e R s m args below meth c D aC h0 H locs ls Qm hC hL kk => lv_dup2_11 hC.1 hC.2.1 d ((pw_tv_cat h0 v).trans hc) ((pw_tv_cat h0 w).trans hc2) (kk ls hL)) k
theorem P_dup2_2 {v : Value} (d : decode M.2.1 pc = .ok (.dup2, 1)) (hq : pc + 1 = q) (hc : v.category = 2) (k : PW M mc ms Q q L (v :: v :: S) n σ cs sl) : PW M mc ms Q pc L (v :: S) n σ cs sl := by
  subst hq
  exact P_step (fun p l e R s m args below meth c D aC h0 H locs ls Qm hC hL kk => lv_dup2_2 hC.1 hC.2.1 d ((pw_tv_cat h0 v).trans hc) (kk ls hL)) k
theorem P_fadd {x y : UInt32} (d : decode M.2.1 pc = .ok (.fadd, 1)) (hq : pc + 1 = q) (hy : vf_n32 (FP.fadd x y)) (k : PW M mc ms Q q L (.float (FP.fadd x y) :: S) n σ cs sl) : PW M mc ms Q pc L (.float y :: .float x :: S) n σ cs sl := by
  subst hq
  exact P_step (fun p l e R s m args below meth c D aC h0 H locs ls Qm hC hL kk => lv_fadd hC.1 hC.2.1 d hy (kk ls hL)) k
theorem P_fsub {x y : UInt32} (d : decode M.2.1 pc = .ok (.fsub, 1)) (hq : pc + 1 = q) (hy : vf_n32 (FP.fsub x y)) (k : PW M mc ms Q q L (.float (FP.fsub x y) :: S) n σ cs sl) : PW M mc ms Q pc L (.float y :: .float x :: S) n σ cs sl := by
  subst hq
  exact P_step (fun p l e R s m args below meth c D aC h0 H locs ls Qm hC hL kk => lv_fsub hC.1 hC.2.1 d hy (kk ls hL)) k
theorem P_fmul {x y : UInt32} (d : decode M.2.1 pc = .ok (.fmul, 1)) (hq : pc + 1 = q) (hy : vf_n32 (FP.fmul x y)) (k : PW M mc ms Q q L (.float (FP.fmul x y) :: S) n σ cs sl) : PW M mc ms Q pc L (.float y :: .float x :: S) n σ cs sl := by
  subst hq
  exact P_step (fun p l e R s m args below meth c D aC h0 H locs ls Qm hC hL kk => lv_fmul hC.1 hC.2.1 d hy (kk ls hL)) k
theorem P_fdiv {x y : UInt32} (d : decode M.2.1 pc = .ok (.fdiv, 1)) (hq : pc + 1 = q) (hy : vf_n32 (FP.fdiv x y)) (k : PW M mc ms Q q L (.float (FP.fdiv x y) :: S) n σ cs sl) : PW M mc ms Q pc L (.float y :: .float x :: S) n σ cs sl := by
  subst hq
  exact P_step (fun p l e R s m args below meth c D aC h0 H locs ls Qm hC hL kk => lv_fdiv hC.1 hC.2.1 d hy (kk ls hL)) k
theorem P_fneg {x : UInt32} (d : decode M.2.1 pc = .ok (.fneg, 1)) (hq : pc + 1 = q) (k : PW M mc ms Q q L (.float (FP.fneg x) :: S) n σ cs sl) : PW M mc ms Q pc L (.float x :: S) n σ cs sl := by
  subst hq
  exact P_step (fun p l e R s m args below meth c D aC h0 H locs ls Qm hC hL kk => lv_fneg hC.1 hC.2.1 d (kk ls hL)) k
theorem P_fcmp {x y : UInt32} {op : CmpOp} (d : decode M.2.1 pc = .ok (.fcmp op, 1)) (hq : pc + 1 = q) (k : PW M mc ms Q q L (.int (Op.cmpValue (FP.fcmp x y) op) :: S) n σ cs sl) : PW M mc ms Q pc L (.float y :: .float x :: S) n σ cs sl := by
  subst hq
  exact P_step (fun p l e R s m args below meth c D aC h0 H locs ls Qm hC hL kk => lv_fcmp hC.1 hC.2.1 d (kk ls hL)) k
theorem P_i2f {x : Int32} (d : decode M.2.1 pc = .ok (.i2f, 1)) (hq : pc + 1 = q) (k : PW M mc ms Q q L (.float (FP.i2f x) :: S) n σ cs sl) : PW M mc ms Q pc L (.int x :: S) n σ cs sl := by
  subst hq
  exact P_step (fun p l e R s m args below meth c D aC h0 H locs ls Qm hC hL kk => lv_i2f hC.1 hC.2.1 d (kk ls hL)) k
theorem P_f2i {x : UInt32} (d : decode M.2.1 pc = .ok (.f2i, 1)) (hq : pc + 1 = q) (k : PW M mc ms Q q L (.int (FP.f2i x) :: S) n σ cs sl) : PW M mc ms Q pc L (.float x :: S) n σ cs sl := by
  subst hq
  exact P_step (fun p l e R s m args below meth c D aC h0 H locs ls Qm hC hL kk => lv_f2i hC.1 hC.2.1 d (kk ls hL)) k
theorem P_if_eq {x : Int32} {off : Int} {tgt : Nat} (d : decode M.2.1 pc = .ok (.ifCond .eq off, 3)) (hq : pc + 3 = q) (ht : (pc : Int) + off = (tgt : Int)) (kt : x = 0 → PW M mc ms Q tgt L S n σ cs sl) (kf : ¬ x = 0 → PW M mc ms Q q L S n σ cs sl) : PW M mc ms Q pc L (.int x :: S) n σ cs sl := by
  subst hq
  exact fun p l e s m args below meth c D aC h0 H locs ls hC hh hz hW hS hL => lv_if_eq hC.1 hC.2.1 d ht (fun h => kt h p l e s m args below meth c D aC h0 H locs ls hC hh hz hW hS hL) (fun h => kf h p l e s m args below meth c D aC h0 H locs ls hC hh hz hW hS hL)
theorem P_icmp_eq {x y : Int32} {off : Int} {tgt : Nat} (d : decode M.2.1 pc = .ok (.if_icmp .eq off, 3)) (hq : pc + 3 = q) (ht : (pc : Int) + off = (tgt : Int)) (kt : x = y → PW M mc ms Q tgt L S n σ cs sl) (kf : ¬ x = y → PW M mc ms Q q L S n σ cs sl) : PW M mc ms Q pc L (.int y :: .int x :: S) n σ cs sl := by
  subst hq
  exact fun p l e s m args below meth c D aC h0 H locs ls hC hh hz hW hS hL => lv_icmp_eq hC.1 hC.2.1 d ht (fun h => kt h p l e s m args below meth c D aC h0 H locs ls hC hh hz hW hS hL) (fun h => kf h p l e s m args below meth c D aC h0 H locs ls hC hh hz hW hS hL)
theorem P_if_ne {x : Int32} {off : Int} {tgt : Nat} (d : decode M.2.1 pc = .ok (.ifCond .ne off, 3)) (hq : pc + 3 = q) (ht : (pc : Int) + off = (tgt : Int)) (kt : ¬ x = 0 → PW M mc ms Q tgt L S n σ cs sl) (kf : x = 0 → PW M mc ms Q q L S n σ cs sl) : PW M mc ms Q pc L (.int x :: S) n σ cs sl := by
  subst hq
  intro p l e s m args below meth c D aC h0 H locs ls hC hh hz hW hS hL
  by_cases hx : x = 0
  · exact lv_if_ne hC.1 hC.2.1 d ht (fun h => absurd hx h) (fun _ => kf hx p l e s m args below meth c D aC h0 H locs ls hC hh hz hW hS hL)
  · exact lv_if_ne hC.1 hC.2.1 d ht (fun _ => kt hx p l e s m args below meth c D aC h0 H locs ls hC hh hz hW hS hL) (fun h => absurd h (by first | exact fun z => hx (by simpa using z) | simpa using hx))
theorem P_icmp_ne {x y : Int32} {off : Int} {tgt : Nat} (d : decode M.2.1 pc = .ok (.if_icmp .ne off, 3)) (hq : pc + 3 = q) (ht : (pc : Int) + off = (tgt : Int)) (kt : ¬ x = y → PW M mc ms Q tgt L S n σ cs sl) (kf : x = y → PW M mc ms Q q L S n σ cs sl) : PW M mc ms Q pc L (.int y :: .int x :: S) n σ cs sl := by
  subst hq
  intro p l e s m args below meth c D aC h0 H locs ls hC hh hz hW hS hL
  by_cases hx : x = y
  · exact lv_icmp_ne hC.1 hC.2.1 d ht (fun h => absurd hx h) (fun _ => kf hx p l e s m args below meth c D aC h0 H locs ls hC hh hz hW hS hL)
  · exact lv_icmp_ne hC.1 hC.2.1 d ht (fun _ => kt hx p l e s m args below meth c D aC h0 H locs ls hC hh hz hW hS hL) (fun h => absurd h (by first | exact fun z => hx (by simpa using z) | simpa using hx))
theorem P_if_lt {x : Int32} {off : Int} {tgt : Nat} (d : decode M.2.1 pc = .ok (.ifCond .lt off, 3)) (hq : pc + 3 = q) (ht : (pc : Int) + off = (tgt : Int)) (kt : x < 0 → PW M mc ms Q tgt L S n σ cs sl) (kf : ¬ x < 0 → PW M mc ms Q q L S n σ cs sl) : PW M mc ms Q pc L (.int x :: S) n σ cs sl := by
  subst hq
  exact fun p l e s m args below meth c D aC h0 H locs ls hC hh hz hW hS hL => lv_if_lt hC.1 hC.2.1 d ht (fun h => kt h p l e s m args below meth c D aC h0 H locs ls hC hh hz hW hS hL) (fun h => kf h p l e s m args below meth c D aC h0 H locs ls hC hh hz hW hS hL)
theorem P_icmp_lt {x y : Int32} {off : Int} {tgt : Nat} (d : decode M.2.1 pc = .ok (.if_icmp .lt off, 3)) (hq : pc + 3 = q) (ht : (pc : Int) + off = (tgt : Int)) (kt : x < y → PW M mc ms Q tgt L S n σ cs sl) (kf : ¬ x < y → PW M mc ms Q q L S n σ cs sl) : PW M mc ms Q pc L (.int y :: .int x :: S) n σ cs sl := by
  subst hq
  exact fun p l e s m args below meth c D aC h0 H locs ls hC hh hz hW hS hL => lv_icmp_lt hC.1 hC.2.1 d ht (fun h => kt h p l e s m args below meth c D aC h0 H locs ls hC hh hz hW hS hL) (fun h => kf h p l e s m args below meth c D aC h0 H locs ls hC hh hz hW hS hL)
theorem P_if_ge {x : Int32} {off : Int} {tgt : Nat} (d : decode M.2.1 pc = .ok (.ifCond .ge off, 3)) (hq : pc + 3 = q) (ht : (pc : Int) + off = (tgt : Int)) (kt : 0 ≤ x → PW M mc ms Q tgt L S n σ cs sl) (kf : ¬ 0 ≤ x → PW M mc ms Q q L S n σ cs sl) : PW M mc ms Q pc L (.int x :: S) n σ cs sl := by
  subst hq
  exact fun p l e s m args below meth c D aC h0 H locs ls hC hh hz hW hS hL => lv_if_ge hC.1 hC.2.1 d ht (fun h => kt h p l e s m args below meth c D aC h0 H locs ls hC hh hz hW hS hL) (fun h => kf h p l e s m args below meth c D aC h0 H locs ls hC hh hz hW hS hL)
theorem P_icmp_ge {x y : Int32} {off : Int} {tgt : Nat} (d : decode M.2.1 pc = .ok (.if_icmp .ge off, 3)) (hq : pc + 3 = q) (ht : (pc : Int) + off = (tgt : Int)) (kt : y ≤ x → PW M mc ms Q tgt L S n σ cs sl) (kf : ¬ y ≤ x → PW M mc ms Q q L S n σ cs sl) : PW M mc ms Q pc L (.int y :: .int x :: S) n σ cs sl := by
  subst hq
  exact fun p l e s m args below meth c D aC h0 H locs ls hC hh hz hW hS hL => lv_icmp_ge hC.1 hC.2.1 d ht (fun h => kt h p l e s m args below meth c D aC h0 H locs ls hC hh hz hW hS hL) (fun h => kf h p l e s m args below meth c D aC h0 H locs ls hC hh hz hW hS hL)
theorem P_if_gt {x : Int32} {off : Int} {tgt : Nat} (d : decode M.2.1 pc = .ok (.ifCond .gt off, 3)) (hq : pc + 3 = q) (ht : (pc : Int) + off = (tgt : Int)) (kt : 0 < x → PW M mc ms Q tgt L S n σ cs sl) (kf : ¬ 0 < x → PW M mc ms Q q L S n σ cs sl) : PW M mc ms Q pc L (.int x :: S) n σ cs sl := by
  subst hq
  exact fun p l e s m args below meth c D aC h0 H locs ls hC hh hz hW hS hL => lv_if_gt hC.1 hC.2.1 d ht (fun h => kt h p l e s m args below meth c D aC h0 H locs ls hC hh hz hW hS hL) (fun h => kf h p l e s m args below meth c D aC h0 H locs ls hC hh hz hW hS hL)
theorem P_icmp_gt {x y : Int32} {off : Int} {tgt : Nat} (d : decode M.2.1 pc = .ok (.if_icmp .gt off, 3)) (hq : pc + 3 = q) (ht : (pc : Int) + off = (tgt : Int)) (kt : y < x → PW M mc ms Q tgt L S n σ cs sl) (kf : ¬ y < x → PW M mc ms Q q L S n σ cs sl) : PW M mc ms Q pc L (.int y :: .int x :: S) n σ cs sl := by
  subst hq
  exact fun p l e s m args below meth c D aC h0 H locs ls hC hh hz hW hS hL => lv_icmp_gt hC.1 hC.2.1 d ht (fun h => kt h p l e s m args below meth c D aC h0 H locs ls hC hh hz hW hS hL) (fun h => kf h p l e s m args below meth c D aC h0 H locs ls hC hh hz hW hS hL)
theorem P_if_le {x : Int32} {off : Int} {tgt : Nat} (d : decode M.2.1 pc = .ok (.ifCond .le off, 3)) (hq : pc + 3 = q) (ht : (pc : Int) + off = (tgt : Int)) (kt : x ≤ 0 → PW M mc ms Q tgt L S n σ cs sl) (kf : ¬ x ≤ 0 → PW M mc ms Q q L S n σ cs sl) : PW M mc ms Q pc L (.int x :: S) n σ cs sl := by
  subst hq
  exact fun p l e s m args below meth c D aC h0 H locs ls hC hh hz hW hS hL => lv_if_le hC.1 hC.2.1 d ht (fun h => kt h p l e s m args below meth c D aC h0 H locs ls hC hh hz hW hS hL) (fun h => kf h p l e s m args below meth c D aC h0 H locs ls hC hh hz hW hS hL)
theorem P_icmp_le {x y : Int32} {off : Int} {tgt : Nat} (d : decode M.2.1 pc = .ok (.if_icmp .le off, 3)) (hq : pc + 3 = q) (ht : (pc : Int) + off = (tgt : Int)) (kt : x ≤ y → PW M mc ms Q tgt L S n σ cs sl) (kf : ¬ x ≤ y → PW M mc ms Q q L S n σ cs sl) : PW M mc ms Q pc L (.int y :: .int x :: S) n σ cs sl := by
  subst hq
  exact fun p l e s m args below meth c D aC h0 H locs ls hC hh hz hW hS hL => lv_icmp_le hC.1 hC.2.1 d ht (fun h => kt h p l e s m args below meth c D aC h0 H locs ls hC hh hz hW hS hL) (fun h => kf h p l e s m args below meth c D aC h0 H locs ls hC hh hz hW hS hL)
theorem P_goto {off : Int} {tgt : Nat} (d : decode M.2.1 pc = .ok (.goto off, 3)) (ht : (pc : Int) + off = (tgt : Int)) (k : PW M mc ms Q tgt L S n σ cs sl) : PW M mc ms Q pc L S n σ cs sl :=
  P_step (fun p l e R s m args below meth c D aC h0 H locs ls Qm hC hL kk => lv_goto hC.1 hC.2.1 d ht (kk ls hL)) k
theorem P_tabOut {dflt lo hi : Int} {offs : Array Int} {len : Nat} {x : Int32} {tgt : Nat} (d : decode M.2.1 pc = .ok (.tableswitch dflt lo hi offs, len)) (h : x.toInt < lo ∨ hi < x.toInt) (ht : (pc : Int) + dflt = (tgt : Int)) (k : PW M mc ms Q tgt L S n σ cs sl) : PW M mc ms Q pc L (.int x :: S) n σ cs sl :=
  P_step (fun p l e R s m args below meth c D aC h0 H locs ls Qm hC hL kk => lv_tableOut hC.1 hC.2.1 d h ht (kk ls hL)) k
theorem P_tabIn {dflt lo hi : Int} {offs : Array Int} {len : Nat} {x : Int32} {off : Int} {tgt : Nat} (d : decode M.2.1 pc = .ok (.tableswitch dflt lo hi offs, len)) (h1 : ¬ x.toInt < lo) (h2 : ¬ hi < x.toInt) (ho : offs[(x.toInt - lo).toNat]? = some off) (ht : (pc : Int) + off = (tgt : Int)) (k : PW M mc ms Q tgt L S n σ cs sl) : PW M mc ms Q pc L (.int x :: S) n σ cs sl :=
  P_step (fun p l e R s m args below meth c D aC h0 H locs ls Qm hC hL kk => lv_tableIn hC.1 hC.2.1 d h1 h2 ho ht (kk ls hL)) k
/-- the ends -/
theorem P_iret {v : Int32} {ty : FieldType} (d : decode M.2.1 pc = .ok (.ireturn, 1)) (hr : M.2.2.2.1 = some ty) (hn : narrow ty (.int v) = .int v) (hQ : Q (some (.int v)) σ) : PW M mc ms Q pc L [.int v] n σ mc ms :=
  fun p l e s m args below meth c D aC h0 H locs ls hC hh hz hW hS hL => W.zret hC.1 hC.2.1 (hC.2.2.2.2.2.2.2.1.trans hr) hn (fun t ht _ => ⟨⟨some (.int v), n, σ, rfl, hQ, by rw [ht]; exact hW, hz⟩, hS.F ht⟩) hS.2.2 d hC.2.2.2.2.2.2.1
theorem P_lret {v : Int64} (d : decode M.2.1 pc = .ok (.lreturn, 1)) (hr : M.2.2.2.1 = some .long) (hQ : Q (some (.long v)) σ) : PW M mc ms Q pc L [.long v] n σ mc ms :=
  fun p l e s m args below meth c D aC h0 H locs ls hC hh hz hW hS hL => W.lret hC.1 hC.2.1 (hC.2.2.2.2.2.2.2.1.trans hr) (fun t ht _ => ⟨⟨some (.long v), n, σ, rfl, hQ, by rw [ht]; exact hW, hz⟩, hS.F ht⟩) hS.2.2 d hC.2.2.2.2.2.2.1
theorem P_fret {v : UInt32} (d : decode M.2.1 pc = .ok (.freturn, 1)) (hr : M.2.2.2.1 = some .float) (hQ : Q (some (.float v)) σ) : PW M mc ms Q pc L [.float v] n σ mc ms :=
  fun p l e s m args below meth c D aC h0 H locs ls hC hh hz hW hS hL => W.fret hC.1 hC.2.1 (hC.2.2.2.2.2.2.2.1.trans hr) (fun t ht _ => ⟨⟨some (.float v), n, σ, rfl, hQ, by rw [ht]; exact hW, hz⟩, hS.F ht⟩) hS.2.2 d hC.2.2.2.2.2.2.1
theorem P_vret (d : decode M.2.1 pc = .ok (.return_, 1)) (hr : M.2.2.2.1 = none) (hQ : Q none σ) : PW M mc ms Q pc L [] n σ mc ms :=
  fun p l e s m args below meth c D aC h0 H locs ls hC hh hz hW hS hL => W.vret hC.1 hC.2.1 (hC.2.2.2.2.2.2.2.1.trans hr) (fun t ht _ => ⟨⟨none, n, σ, rfl, hQ, by rw [ht]; exact hW, hz⟩, hS.F ht⟩) hS.2.2 d hC.2.2.2.2.2.2.1
end PWR
