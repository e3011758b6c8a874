/-! RULES OF PW FOR CELLS AND CALLS -/
def CLS (ci : Nat) (C : String) (T : u_T) (N : Nat) : Prop := vwCl[ci]? = some (C, T, N) ∧ (∀ w ∈ u_ws C T N, w ∈ lw_w) ∧ (∃ ty0 : Nat → FieldType, ∀ k, k < N → parseFieldDescriptor (T k).2.2.1 = some (ty0 k)) ∧ (∀ a, a < N → ∀ b, b < N → a ≠ b → (T a).2.1 ≠ (T b).2.1)
def LkX (own : String) (idx : Nat) (T : u_T) (k : Nat) : Prop := Cond.fieldLink own idx (T k).1 (T k).2.1 (T k).2.2.1 ∈ lw_w ∨ ∃ host : String, Cond.fieldLinkNest own idx (T k).1 (T k).2.1 (T k).2.2.1 host ∈ lw_x
def LkF (own : String) (idx ci k : Nat) : Prop := ∃ (C : String) (T : u_T) (N : Nat), CLS ci C T N ∧ k < N ∧ LkX own idx T k
def LkP (own : String) (idx ci k : Nat) (ty : FieldType) : Prop := ∃ (C : String) (T : u_T) (N : Nat), CLS ci C T N ∧ k < N ∧ LkX own idx T k ∧ parseFieldDescriptor (T k).2.2.1 = some ty ∧ (T k).2.2.2 = false
def LkQ (own : String) (idx ci k : Nat) (ty : FieldType) : Prop := ∃ (C : String) (T : u_T) (N : Nat), CLS ci C T N ∧ k < N ∧ Cond.fieldLink own idx (T k).1 (T k).2.1 (T k).2.2.1 ∈ lw_w ∧ parseFieldDescriptor (T k).2.2.1 = some ty ∧ (T k).2.2.2 = true ∧ (T k).1 = own
theorem W_sz {p : Program} {l : Launch} {e : Env} {R : Room} {s : State} {m : MethodId} {args : Array Value} {below : List Frame} {meth : Method} {c : Code} {H : Heap} {locs : List Loc} {cells slots : Nat} {Qm : State → Prop} {g : JFrame} (k : H.size ≤ s.heap.size + cells → W p l e R s m args below meth c H locs cells slots Qm g) : W p l e R s m args below meth c H locs cells slots Qm g := fun T hT X => k (hT ▸ X.heapSize) T hT X
theorem pw_W_mk {D : va_G} {aC : FieldType → ClassId} {h0 n : Nat} {σ : Sto} {H : Heap} (hP : va_P D vwCl (pw_wl h0 aC n σ) H) (h1 : h0 ≤ H.size) (h2 : H.size ≤ h0 + n) : pw_W D aC h0 n σ H := by
  refine ⟨hP, ?_⟩
  cases n with
  | zero => omega
  | succ n =>
    have := (hP n _ (pw_wl_at (Nat.lt_succ_self n))).lt
    have h3 : h0 + n < H.size := this
    omega
theorem pw_at {D : va_G} {aC : FieldType → ClassId} {h0 n a : Nat} {σ : Sto} {c : PC} (ha : a < n) (hσ : σ a = c) : (pw_wl h0 aC n σ)[a]? = some (h0 + a, pw_tr h0 aC c) := by
  rw [← hσ]; exact pw_wl_at ha
section PWH
variable {M : Mth} {mc ms : Nat} {Q : Option Value → Sto → Prop} {pc q n cs sl : Nat} {L : List (Option Value)} {S : List Value} {σ : Sto}
theorem P_get {idx a ci k : Nat} {fs : List Value} {v : Value} (d : decode M.2.1 pc = .ok (.getfield idx, 3)) (hq : pc + 3 = q) (hf : LkF M.1.cls idx ci k) (ha : a < n) (hσ : σ a = pO ci fs) (hv : fs[k]? = some v) (kk : PW M mc ms Q q L (v :: S) n σ cs sl) : PW M mc ms Q pc L (.ref a :: S) n σ cs sl := by
  subst hq
  intro p l e s m args below meth c D aC h0 H locs ls hC hh hz hW hS hL
  obtain ⟨C, T, N, ⟨hc, hin, -, -⟩, hk, hl⟩ := hf
  have he := pw_at (D := D) (aC := aC) (h0 := h0) ha hσ
  have hv' : (fs.map (pw_tv h0))[k]? = some (pw_tv h0 v) := by simp [hv]
  have kk' := kk p l e s m args below meth c D aC h0 H locs ls hC hh hz hW hS hL
  rcases hl with hl | ⟨host, hl⟩
  · exact va_get hC.1 hC.2.1 hC.2.2.2.2.1 hin hC.2.2.2.1 hC.2.2.2.2.2.1.1 hW.1 a he hc k hk (hC.2.2.2.2.1 _ hl) (fun _ h => h) hv' d kk'
  · exact va_getN hC.1 hC.2.1 hC.2.2.2.2.1 hin hC.2.2.2.1 hC.2.2.2.2.2.1.1 hW.1 a he hc k hk (va_Nw.use rfl (hC.2.2.2.2.2.1.2.1 _ hl)) (fun _ h => h) hv' d kk'
/-- behind a store into the cell a -/
theorem pw_back {a : Nat} {cx : PC} {σ' : Sto} (hs : va_up σ a cx = σ') {pc' : Nat} {L' : List (Option Value)} {S' : List Value} (kk : PW M mc ms Q pc' L' S' n σ' cs sl) {p : Program} {l : Launch} {e : Env} {s : State} {m : MethodId} {args : Array Value} {below : List Frame} {meth : Method} {c : Code} {D : va_G} {aC : FieldType → ClassId} {h0 : Nat} {H1 : Heap} {locs1 : List Loc} {ls : Array Slot}
    (hC : pw_C p s m args meth c M D aC) (hh : h0 ≤ s.heap.size) (hz : s.heap.size + cs = h0 + n) (hL : pw_L h0 L' ls M.2.2.1) {x : va_E} (hx : x = pw_tr h0 aC cx) (hP : va_P D vwCl ((pw_wl h0 aC n σ).set a (h0 + a, x)) H1) (hS : va_S (fun q => h0 ≤ q) s.heap H1 locs1) :
    W p l e (pw_rm M.2.2.2.2 mc ms) s m args below meth c H1 locs1 cs sl (MQ below (pw_Q D aC h0 mc Q) args s mc ms (fun q => h0 ≤ q)) (F0 m pc' ls (S'.map (pw_tv h0))) := by
  subst hx
  rw [pw_wl_set, hs] at hP
  refine W_sz fun h2 => ?_
  exact kk p l e s m args below meth c D aC h0 H1 locs1 ls hC hh hz (pw_W_mk hP (Nat.le_trans hh hS.1) (by omega)) hS hL
theorem P_put {idx a ci k : Nat} {fs fs' : List Value} {v : Value} {ty : FieldType} {σ' : Sto} (d : decode M.2.1 pc = .ok (.putfield idx, 3)) (hq : pc + 3 = q) (hf : LkP M.1.cls idx ci k ty) (ha : a < n) (hσ : σ a = pO ci fs) (hn : ∀ h0, narrow ty (pw_tv h0 v) = pw_tv h0 v) (ht : ∀ h0, fits ty (pw_tv h0 v) = true) (hl : k < fs.length) (hs : fs.set k v = fs') (hs' : va_up σ a (pO ci fs') = σ') (kk : PW M mc ms Q q L S n σ' cs sl) : PW M mc ms Q pc L (v :: .ref a :: S) n σ cs sl := by
  subst hq
  intro p l e s m args below meth c D aC h0 H locs ls hC hh hz hW hS hL
  obtain ⟨C, T, N, ⟨hc, hin, ⟨ty0, hty⟩, hnm⟩, hk, hlk, hd, hfin⟩ := hf
  have he := pw_at (D := D) (aC := aC) (h0 := h0) ha hσ
  have hlen : k < (fs.map (pw_tv h0)).length := by simpa using hl
  have hx : (Sum.inr (ci, (fs.map (pw_tv h0)).set k (pw_tv h0 v)) : va_E) = pw_tr h0 aC (pO ci fs') := by
    show _ = (Sum.inr (ci, fs'.map (pw_tv h0)) : va_E)
    rw [← hs, List.map_set]
  rcases hlk with hlk | ⟨host, hlk⟩
  · exact va_put hC.1 hC.2.1 hC.2.2.2.2.1 hin ty0 hty hnm hC.2.2.2.1 hC.2.2.2.2.2.1.1 hW.1 (pw_D h0 aC n σ) hS a he hc k hk (hC.2.2.2.2.1 _ hlk) (fun _ h => h) hfin hd (hn h0) (ht h0) hlen d (fun H1 locs1 hP _ hS1 => pw_back hs' kk hC hh hz hL hx hP hS1)
  · exact va_putN hC.1 hC.2.1 hC.2.2.2.2.1 hin ty0 hty hnm hC.2.2.2.1 hC.2.2.2.2.2.1.1 hW.1 (pw_D h0 aC n σ) hS a he hc k hk (va_Nw.use rfl (hC.2.2.2.2.2.1.2.1 _ hlk)) (fun _ h => h) hfin hd (hn h0) (ht h0) hlen d (fun H1 locs1 hP _ hS1 => pw_back hs' kk hC hh hz hL hx hP hS1)
theorem P_putF {idx a ci k : Nat} {fs fs' : List Value} {v : Value} {ty : FieldType} {σ' : Sto} (d : decode M.2.1 pc = .ok (.putfield idx, 3)) (hq : pc + 3 = q) (hf : LkQ M.1.cls idx ci k ty) (hi : M.1.name = "<init>") (ha : a < n) (hσ : σ a = pO ci fs) (hn : ∀ h0, narrow ty (pw_tv h0 v) = pw_tv h0 v) (ht : ∀ h0, fits ty (pw_tv h0 v) = true) (hl : k < fs.length) (hs : fs.set k v = fs') (hs' : va_up σ a (pO ci fs') = σ') (kk : PW M mc ms Q q L S n σ' cs sl) : PW M mc ms Q pc L (v :: .ref a :: S) n σ cs sl := by
  subst hq
  intro p l e s m args below meth c D aC h0 H locs ls hC hh hz hW hS hL
  obtain ⟨C, T, N, ⟨hc, hin, ⟨ty0, hty⟩, hnm⟩, hk, hlk, hd, hfin, hdecl⟩ := hf
  have he := pw_at (D := D) (aC := aC) (h0 := h0) ha hσ
  have hlen : k < (fs.map (pw_tv h0)).length := by simpa using hl
  have hx : (Sum.inr (ci, (fs.map (pw_tv h0)).set k (pw_tv h0 v)) : va_E) = pw_tr h0 aC (pO ci fs') := by
    show _ = (Sum.inr (ci, fs'.map (pw_tv h0)) : va_E)
    rw [← hs, List.map_set]
  exact va_putF hC.1 hC.2.1 hC.2.2.2.2.1 hin ty0 hty hnm hC.2.2.2.1 hC.2.2.2.2.2.1.1 hW.1 (pw_D h0 aC n σ) hS a he hc k hk (hC.2.2.2.2.1 _ hlk) (fun _ h => h) hfin (hC.2.2.2.2.2.2.2.2.trans hi) hdecl hd (hn h0) (ht h0) hlen d (fun H1 locs1 hP _ hS1 => pw_back hs' kk hC hh hz hL hx hP hS1)
/-- arrays; an index is told as a number -/
theorem P_iald {a N j : Nat} {f : Nat → Int32} {i : Int32} (d : decode M.2.1 pc = .ok (.iaload, 1)) (hq : pc + 1 = q) (ha : a < n) (hσ : σ a = pI .int N f) (hi : i = nI j) (hj : j < N) (hN : N < 2 ^ 31) (kk : PW M mc ms Q q L (.int (f j) :: S) n σ cs sl) : PW M mc ms Q pc L (.int i :: .ref a :: S) n σ cs sl := by
  subst hq; subst hi
  intro p l e s m args below meth c D aC h0 H locs ls hC hh hz hW hS hL
  have he := pw_at (D := D) (aC := aC) (h0 := h0) ha hσ
  have kk' := kk p l e s m args below meth c D aC h0 H locs ls hC hh hz hW hS hL
  refine va_iald hC.1 hC.2.1 hC.2.2.2.2.2.1.1 hW.1 a 0 he rfl (vp_in_nI hj hN) d ?_
  rw [nI_clamp (by omega)]
  exact kk'
theorem P_cald {a N j : Nat} {f : Nat → Int32} {i : Int32} (d : decode M.2.1 pc = .ok (.caload, 1)) (hq : pc + 1 = q) (ha : a < n) (hσ : σ a = pI .char N f) (hi : i = nI j) (hj : j < N) (hN : N < 2 ^ 31) (kk : PW M mc ms Q q L (.int (f j) :: S) n σ cs sl) : PW M mc ms Q pc L (.int i :: .ref a :: S) n σ cs sl := by
  subst hq; subst hi
  intro p l e s m args below meth c D aC h0 H locs ls hC hh hz hW hS hL
  have he := pw_at (D := D) (aC := aC) (h0 := h0) ha hσ
  have kk' := kk p l e s m args below meth c D aC h0 H locs ls hC hh hz hW hS hL
  refine va_cald hC.1 hC.2.1 hC.2.2.2.2.2.1.1 hW.1 a 1 he rfl (vp_in_nI hj hN) d ?_
  rw [nI_clamp (by omega)]
  exact kk'
theorem P_qald {a N j b : Nat} {ty : FieldType} {g : Nat → Option Nat} {i : Int32} (t0 : Nat) (ht : ∀ aC : FieldType → ClassId, (pw_tys aC)[t0]? = some (aC ty, ty)) (hty : ty.isReference = true) (d : decode M.2.1 pc = .ok (.aaload, 1)) (hq : pc + 1 = q) (ha : a < n) (hσ : σ a = pR ty N g) (hi : i = nI j) (hj : j < N) (hN : N < 2 ^ 31) (hb : g j = some b) (kk : PW M mc ms Q q L (.ref b :: S) n σ cs sl) : PW M mc ms Q pc L (.int i :: .ref a :: S) n σ cs sl := by
  subst hq; subst hi
  intro p l e s m args below meth c D aC h0 H locs ls hC hh hz hW hS hL
  have he := pw_at (D := D) (aC := aC) (h0 := h0) ha hσ
  have kk' := kk p l e s m args below meth c D aC h0 H locs ls hC hh hz hW hS hL
  have hcell := hW.1 a _ he
  refine W.aald (v := .ref (h0 + b)) (ty := ty) hC.1 hC.2.1 hcell ((hC.2.2.2.2.2.1.1.2 t0 _ (ht aC)).1 N (fun j => va_rf ((g j).map (fun k => h0 + k)))) hty (fun q => by cases q) (by show ¬ (_ ∨ (arrV _ _ _).slots.size ≤ _); rw [arrV_size]; exact vp_in_nI hj hN) ?_ rfl rfl d kk'
  rw [nI_clamp (by omega)]
  show (arrV _ _ _).slots[_]? = _
  rw [arrV_read _ _ hj]
  show some (va_rf ((g j).map (fun k => h0 + k))) = _
  rw [hb]
  rfl
theorem P_iast {a N j : Nat} {f f' : Nat → Int32} {i x : Int32} {σ' : Sto} (d : decode M.2.1 pc = .ok (.iastore, 1)) (hq : pc + 1 = q) (ha : a < n) (hσ : σ a = pI .int N f) (hi : i = nI j) (hj : j < N) (hN : N < 2 ^ 31) (hf : upd f j x = f') (hs : va_up σ a (pI .int N f') = σ') (kk : PW M mc ms Q q L S n σ' cs sl) : PW M mc ms Q pc L (.int x :: .int i :: .ref a :: S) n σ cs sl := by
  subst hq; subst hi
  intro p l e s m args below meth c D aC h0 H locs ls hC hh hz hW hS hL
  have he := pw_at (D := D) (aC := aC) (h0 := h0) ha hσ
  refine va_iast hC.1 hC.2.1 hC.2.2.2.2.2.1.1 hW.1 (pw_D h0 aC n σ) hS a 0 he rfl (vp_in_nI hj hN) d (fun H1 locs1 hP _ hS1 => pw_back hs kk hC hh hz hL ?_ hP hS1)
  rw [nI_clamp (by omega), hf]
  rfl
theorem P_cast {a N j : Nat} {f f' : Nat → Int32} {i x : Int32} {σ' : Sto} (d : decode M.2.1 pc = .ok (.castore, 1)) (hq : pc + 1 = q) (ha : a < n) (hσ : σ a = pI .char N f) (hi : i = nI j) (hj : j < N) (hN : N < 2 ^ 31) (hf : upd f j (vp_nar .char x) = f') (hs : va_up σ a (pI .char N f') = σ') (kk : PW M mc ms Q q L S n σ' cs sl) : PW M mc ms Q pc L (.int x :: .int i :: .ref a :: S) n σ cs sl := by
  subst hq; subst hi
  intro p l e s m args below meth c D aC h0 H locs ls hC hh hz hW hS hL
  have he := pw_at (D := D) (aC := aC) (h0 := h0) ha hσ
  refine va_cast hC.1 hC.2.1 hC.2.2.2.2.2.1.1 hW.1 (pw_D h0 aC n σ) hS a 1 he rfl (vp_in_nI hj hN) d (fun H1 locs1 hP _ hS1 => pw_back hs kk hC hh hz hL ?_ hP hS1)
  rw [nI_clamp (by omega), hf]
  rfl
theorem P_ilen {a N : Nat} {ty : FieldType} {f : Nat → Int32} (t0 : Nat) (ht : ∀ aC : FieldType → ClassId, (pw_tys aC)[t0]? = some (aC ty, ty)) (d : decode M.2.1 pc = .ok (.arraylength, 1)) (hq : pc + 1 = q) (ha : a < n) (hσ : σ a = pI ty N f) (kk : PW M mc ms Q q L (.int (nI N) :: S) n σ cs sl) : PW M mc ms Q pc L (.ref a :: S) n σ cs sl := by
  subst hq
  intro p l e s m args below meth c D aC h0 H locs ls hC hh hz hW hS hL
  exact va_alen hC.1 hC.2.1 hC.2.2.2.2.2.1.1 hW.1 a t0 (pw_at (D := D) (aC := aC) (h0 := h0) ha hσ) (ht aC) rfl d (kk p l e s m args below meth c D aC h0 H locs ls hC hh hz hW hS hL)
end PWH
