/-! THE PURE LAYER. A world is a store of numbered cells, the cell k of it lies at the address h0 + k. 'PW' says of a place in a method: from here the method comes to its end, with Q of its answer and of the store then. -/
abbrev PC : Type := (FieldType × Nat × (Nat → Int32)) ⊕ (FieldType × Nat × (Nat → Option Nat)) ⊕ (Nat × List Value)
abbrev pI (ty : FieldType) (n : Nat) (f : Nat → Int32) : PC := .inl (ty, n, f)
abbrev pR (ty : FieldType) (n : Nat) (f : Nat → Option Nat) : PC := .inr (.inl (ty, n, f))
abbrev pO (ci : Nat) (fs : List Value) : PC := .inr (.inr (ci, fs))
abbrev Sto : Type := Nat → PC
abbrev Mth : Type := MethodName × ByteArray × Nat × Option FieldType × Nat
def pw_tv (h0 : Nat) : Value → Value
  | .ref k => .ref (h0 + k)
  | v => v
theorem pw_tv_cat (h0 : Nat) (v : Value) : (pw_tv h0 v).category = v.category := by cases v <;> rfl
def pw_tr (h0 : Nat) (aC : FieldType → ClassId) : PC → va_E
  | .inl (ty, n, f) => .inl (aC ty, n, .inl f)
  | .inr (.inl (ty, n, f)) => .inl (aC ty, n, .inr (.inr (.inr (.inr (fun j => (f j).map (fun k => h0 + k))))))
  | .inr (.inr (ci, fs)) => .inr (ci, fs.map (pw_tv h0))
def pw_wl (h0 : Nat) (aC : FieldType → ClassId) (n : Nat) (σ : Sto) : va_W := (List.range n).map (fun k => (h0 + k, pw_tr h0 aC (σ k)))
theorem pw_wl_at {h0 : Nat} {aC : FieldType → ClassId} {n : Nat} {σ : Sto} {k : Nat} (h : k < n) : (pw_wl h0 aC n σ)[k]? = some (h0 + k, pw_tr h0 aC (σ k)) := by
  simp [pw_wl, h]
theorem pw_wl_in {h0 : Nat} {aC : FieldType → ClassId} {n : Nat} {σ : Sto} {k : Nat} {q : Nat × va_E} (h : (pw_wl h0 aC n σ)[k]? = some q) : k < n ∧ q = (h0 + k, pw_tr h0 aC (σ k)) := by
  have hl := (List.getElem?_eq_some_iff.mp h).1
  have hk : k < n := by simpa [pw_wl] using hl
  rw [pw_wl_at hk] at h
  exact ⟨hk, (Option.some.inj h).symm⟩
theorem pw_wl_len (h0 : Nat) (aC : FieldType → ClassId) (n : Nat) (σ : Sto) : (pw_wl h0 aC n σ).length = n := by simp [pw_wl]
theorem pw_wl_set {h0 : Nat} {aC : FieldType → ClassId} {n : Nat} {σ : Sto} {k : Nat} (c : PC) : (pw_wl h0 aC n σ).set k (h0 + k, pw_tr h0 aC c) = pw_wl h0 aC n (va_up σ k c) := by
  apply List.ext_getElem?
  intro j
  rw [List.getElem?_set]
  by_cases hj : k = j
  · subst hj
    rw [if_pos rfl, pw_wl_len]
    by_cases hn : k < n
    · rw [if_pos hn, pw_wl_at hn]
      simp [va_up]
    · rw [if_neg hn, List.getElem?_eq_none (by rw [pw_wl_len]; omega)]
  · rw [if_neg hj]
    by_cases hn : j < n
    · rw [pw_wl_at hn, pw_wl_at hn]
      simp [va_up, Ne.symm hj]
    · rw [List.getElem?_eq_none (by rw [pw_wl_len]; omega), List.getElem?_eq_none (by rw [pw_wl_len]; omega)]
theorem pw_wl_congr {h0 : Nat} {aC : FieldType → ClassId} {n : Nat} {σ τ : Sto} (h : ∀ k, k < n → σ k = τ k) : pw_wl h0 aC n σ = pw_wl h0 aC n τ := by
  apply List.map_congr_left
  intro k hk
  rw [h k (List.mem_range.mp hk)]
theorem pw_wl_push {h0 : Nat} {aC : FieldType → ClassId} {n : Nat} {σ : Sto} (c : PC) : pw_wl h0 aC n σ ++ [(h0 + n, pw_tr h0 aC c)] = pw_wl h0 aC (n + 1) (va_up σ n c) := by
  have h : pw_wl h0 aC n σ = pw_wl h0 aC n (va_up σ n c) := pw_wl_congr fun k hk => by
    rw [va_up, if_neg (Nat.ne_of_lt hk)]
  rw [h]
  simp [pw_wl, List.range_succ, va_up]
theorem pw_D (h0 : Nat) (aC : FieldType → ClassId) (n : Nat) (σ : Sto) : va_D (fun q => h0 ≤ q) (pw_wl h0 aC n σ) := by
  refine ⟨fun i j p q hi hj h => ?_, fun k q hk => ?_⟩
  · obtain ⟨-, rfl⟩ := pw_wl_in hi
    obtain ⟨-, rfl⟩ := pw_wl_in hj
    have h' : h0 + i = h0 + j := h
    omega
  · obtain ⟨-, rfl⟩ := pw_wl_in hk
    exact Nat.le_add_right _ _
/-- the heap holds the store: its n cells are the last ones -/
def pw_W (D : va_G) (aC : FieldType → ClassId) (h0 n : Nat) (σ : Sto) (H : Heap) : Prop := va_P D vwCl (pw_wl h0 aC n σ) H ∧ H.size = h0 + n
def pw_tys (aC : FieldType → ClassId) : List (ClassId × FieldType) := [(aC .int, .int), (aC .char, .char), (aC (.array .int), .array .int), (aC (.object "SpinStrips$Strip"), .object "SpinStrips$Strip")]
/-- the tables' words: those that any later table keeps; those on nest mates; the array classes -/
def lw_w : List Cond := lw_tbl.filter goodWord
def pw_nest : Cond → Bool
  | .fieldLinkNest .. => true
  | .methodLinkNest .. => true
  | _ => false
def lw_x : List Cond := lw_tbl.filter pw_nest
theorem lw_w_at {w : Cond} {i : Nat} (h : lw_tbl[i]? = some w) (hg : goodWord w = true) : w ∈ lw_w := List.mem_filter.mpr ⟨List.mem_of_getElem? h, hg⟩
theorem lw_x_at {w : Cond} {i : Nat} (h : lw_tbl[i]? = some w) (hg : pw_nest w = true) : w ∈ lw_x := List.mem_filter.mpr ⟨List.mem_of_getElem? h, hg⟩
def pw_AO (U : State) : Prop := ∀ ty : FieldType, ty = .array .int ∨ ty = .object "SpinStrips$Strip" → (Cond.arrayOver ty).before #[] U = true
theorem pw_AO.moved {u U : State} (hvm : u.vm.Alike U.vm) (h : pw_AO u) : pw_AO U := by
  intro ty hty
  have key : ∀ (ty : FieldType) (nm : String), ((Cond.arrayOver ty).before #[] U = (((U.vm.findClass nm).bind fun comp => (U.vm.classes.findIdx? fun x => match x.kind with | .array component _ => component == comp | _ => false).bind fun c => (U.vm.classes[c]?).map fun k => match k.kind with | .array _ t => decide (t = ty) && decide (U.vm.findClass ("[" ++ ty.toString) = some c) | _ => false) == some true)) → ((Cond.arrayOver ty).before #[] u = (((u.vm.findClass nm).bind fun comp => (u.vm.classes.findIdx? fun x => match x.kind with | .array component _ => component == comp | _ => false).bind fun c => (u.vm.classes[c]?).map fun k => match k.kind with | .array _ t => decide (t = ty) && decide (u.vm.findClass ("[" ++ ty.toString) = some c) | _ => false) == some true)) → (Cond.arrayOver ty).before #[] u = true → (Cond.arrayOver ty).before #[] U = true := by
    intro ty nm e1 e2 hu
    rw [e2] at hu
    rw [e1]
    simp only [beq_iff_eq, Option.bind_eq_some_iff, Option.map_eq_some_iff] at hu ⊢
    obtain ⟨comp, h1, c, h2, k, h3, h4⟩ := hu
    obtain ⟨k', hk', he⟩ := hvm.2.2 _ _ h3
    refine ⟨comp, by rw [hvm.findClass]; exact h1, c, by rw [hvm.findIdx?_eq _ (fun _ => rfl)]; exact h2, k', hk', ?_⟩
    have hkk : k'.kind = k.kind := by rw [he]
    rw [hkk, hvm.findClass]
    exact h4
  rcases hty with rfl | rfl
  · exact key _ (FieldType.array .int).toString rfl rfl (h _ (Or.inl rfl))
  · exact key _ "SpinStrips$Strip" rfl rfl (h _ (Or.inr rfl))
def pw_K (D : va_G) (aC : FieldType → ClassId) (U : State) : Prop := va_K D vwCl (pw_tys aC) U ∧ (∀ w ∈ lw_x, va_Nw w U) ∧ pw_AO U
theorem pw_x_warm {s U : State} (hW : s.WarmedH U.vm) (h : ∀ w ∈ lw_x, va_Nw w s) : ∀ w ∈ lw_x, va_Nw w U := by
  intro w hw
  have h1 := h w hw
  have h2 := (List.mem_filter.mp hw).2
  cases w <;> first | exact va_Nw.warmF hW h1 | exact va_Nw.warmM hW h1 | cases h2
theorem pw_x_same {u U : State} (hvm : u.vm = U.vm) (h : ∀ w ∈ lw_x, va_Nw w u) : ∀ w ∈ lw_x, va_Nw w U := by
  intro w hw
  have h1 := h w hw
  have h2 := (List.mem_filter.mp hw).2
  cases w <;> first | exact va_Nw.same rfl hvm h1 | cases h2
theorem pw_K.warm {D : va_G} {aC : FieldType → ClassId} {s U : State} (hW : s.WarmedH U.vm) (h : pw_K D aC s) : pw_K D aC U := ⟨va_K.moved hW.alike h.1, pw_x_warm hW h.2.1, h.2.2.moved hW.alike⟩
theorem pw_K.same {D : va_G} {aC : FieldType → ClassId} {u U : State} (hvm : u.vm = U.vm) (h : pw_K D aC u) : pw_K D aC U := by
  have hal : u.vm.Alike U.vm := by rw [hvm]; exact Vm.Alike.refl _
  exact ⟨va_K.moved hal h.1, pw_x_same hvm h.2.1, h.2.2.moved hal⟩
def pw_C (p : Program) (s : State) (m : MethodId) (args : Array Value) (meth : Method) (c : Code) (M : Mth) (D : va_G) (aC : FieldType → ClassId) : Prop :=
  p.tables.exec = Jvm.exec ∧ c.code = M.2.1 ∧ c.maxLocals = M.2.2.1 ∧ s.vm.findClass M.1.cls = some m.cls ∧ (∀ w ∈ lw_w, w.before args s = true) ∧ pw_K D aC s ∧ meth.locks = false ∧ meth.sig.returnType = M.2.2.2.1 ∧ meth.name = M.1.name
def pw_L (h0 : Nat) (L : List (Option Value)) (ls : Array Slot) (nL : Nat) : Prop := ls.size = nL ∧ lv_wf ls ∧ ∀ (i : Nat) (v : Value), L[i]? = some (some v) → ls[i]? = some (.val (pw_tv h0 v))
def pw_rm (d mc ms : Nat) : Room := { frames := d, cells := mc, slots := ms, locals := 37 * d }
def pw_Q (D : va_G) (aC : FieldType → ClassId) (h0 mc : Nat) (Q : Option Value → Sto → Prop) : Array Value → State → Outcome → State → Prop := fun _ st o t =>
  (∃ (v : Option Value) (n : Nat) (σ : Sto), o = .returned (v.map (pw_tv h0)) ∧ Q v σ ∧ pw_W D aC h0 n σ t.heap ∧ st.heap.size + mc = h0 + n) ∧ va_F (fun q => h0 ≤ q) st t
def PW (M : Mth) (mc ms : Nat) (Q : Option Value → Sto → Prop) (pc : Nat) (L : List (Option Value)) (S : List Value) (n : Nat) (σ : Sto) (cs sl : Nat) : Prop :=
  ∀ (p : Program) (l : Launch) (e : Env) (s : State) (m : MethodId) (args : Array Value) (below : List Frame) (meth : Method) (c : Code) (D : va_G) (aC : FieldType → ClassId) (h0 : Nat) (H : Heap) (locs : List Loc) (ls : Array Slot),
    pw_C p s m args meth c M D aC → h0 ≤ s.heap.size → s.heap.size + cs = h0 + n → pw_W D aC h0 n σ H → va_S (fun q => h0 ≤ q) s.heap H locs → pw_L h0 L ls M.2.2.1 →
    W p l e (pw_rm M.2.2.2.2 mc ms) s m args below meth c H locs cs sl (MQ below (pw_Q D aC h0 mc Q) args s mc ms (fun q => h0 ≤ q)) (F0 m pc ls (S.map (pw_tv h0)))
/-- the contract of a method M: called with As in the store σ of n cells it ends with Q, having made mc cells of ms places -/
def CP (M : Mth) (mc ms : Nat) (As : List Value) (n : Nat) (σ : Sto) (Q : Option Value → Sto → Prop) : Prop :=
  ∀ (l : Launch) (D : va_G) (aC : FieldType → ClassId) (h0 : Nat), Met l M.1 (Cond.code M.1 M.2.1 M.2.2.1 M.2.2.2.1 :: lw_w) (pw_rm M.2.2.2.2 mc ms) (va_Pc (As.map (pw_tv h0)) (fun U => pw_W D aC h0 n σ U.heap ∧ pw_K D aC U)) (pw_Q D aC h0 mc Q) mc ms (fun q => h0 ≤ q)
/-- the locals at a method's entry -/
def pw_ent : List Value → Nat → List (Option Value)
  | [], n => List.replicate n none
  | .long x :: vs, n => some (.long x) :: none :: pw_ent vs (n - 2)
  | .double x :: vs, n => some (.double x) :: none :: pw_ent vs (n - 2)
  | v :: vs, n => some v :: pw_ent vs (n - 1)
theorem pw_ent_in (h0 : Nat) : ∀ (vs : List Value) (n k i : Nat) (v : Value), (pw_ent vs n)[i]? = some (some v) → (k + i, pw_tv h0 v) ∈ lv_args k (vs.map (pw_tv h0)) := by
  intro vs
  induction vs with
  | nil =>
    intro n k i v h
    simp [pw_ent, List.getElem?_replicate] at h
  | cons w vs ih =>
    intro n k i v h
    have two : ∀ x : Value, x.category = 2 → (some x :: none :: pw_ent vs (n - 2))[i]? = some (some v) → (k + i, pw_tv h0 v) ∈ lv_args k ((x :: vs).map (pw_tv h0)) := by
      intro x hx h
      rw [List.map_cons, lv_args, pw_tv_cat, if_pos hx]
      match i, h with
      | 0, h => cases h; exact List.mem_cons_self
      | 1, h => cases h
      | i + 2, h =>
        refine List.mem_cons_of_mem _ ?_
        rw [show k + (i + 2) = (k + 2) + i by omega]
        exact ih (n - 2) (k + 2) i v h
    have one : ∀ x : Value, x.category = 1 → (some x :: pw_ent vs (n - 1))[i]? = some (some v) → (k + i, pw_tv h0 v) ∈ lv_args k ((x :: vs).map (pw_tv h0)) := by
      intro x hx h
      rw [List.map_cons, lv_args, pw_tv_cat, if_neg (by omega)]
      match i, h with
      | 0, h => cases h; exact List.mem_cons_self
      | i + 1, h =>
        refine List.mem_cons_of_mem _ ?_
        rw [show k + (i + 1) = (k + 1) + i by omega]
        exact ih (n - 1) (k + 1) i v h
    cases w with
    | long x => exact two _ rfl h
    | double x => exact two _ rfl h
    | int x => exact one _ rfl h
    | float x => exact one _ rfl h
    | null => exact one _ rfl h
    | ref x => exact one _ rfl h
    | retAddr x => exact one _ rfl h
theorem pw_sl_len (h0 : Nat) (vs : List Value) : (lg_sl (vs.map (pw_tv h0))).length = (lg_sl vs).length := by
  induction vs with
  | nil => rfl
  | cons v vs ih =>
    have e : ∀ (x : Value) (xs : List Value), lg_sl (x :: xs) = (if x.category = 2 then [.val x, .second] else [.val x]) ++ lg_sl xs := fun x xs => by simp [lg_sl]
    rw [List.map_cons, e, e, List.length_append, List.length_append, ih, pw_tv_cat]
    split <;> rfl
theorem CP_of {M : Mth} {mc ms : Nat} {As : List Value} {n : Nat} {σ : Sto} {Q : Option Value → Sto → Prop} (hy : plainName M.1.cls = true) (hn : (lg_sl As).length ≤ M.2.2.1) (k : PW M mc ms Q 0 (pw_ent As M.2.2.1) [] n σ 0 0) : CP M mc ms As n σ Q := by
  intro l D aC h0
  refine Met.ofW (cc := M.2.1) (maxL := M.2.2.1) (ret := M.2.2.2.1) hy rfl ?_
  intro p e s m args below meth c s₁ B hml hv
  obtain ⟨rfl, hW, hK⟩ := hv
  have hts := atoms_spec (ws := Cond.code M.1 M.2.1 M.2.2.1 M.2.2.2.1 :: lw_w) B.pre
  have hsz : s.heap.size = h0 + n := hW.2
  have hl := lv_entry (As.map (pw_tv h0)) (n := M.2.2.1) (by rw [pw_sl_len]; exact hn)
  rw [lg_entry_eq]
  refine k p l e s m _ below meth c D aC h0 s.heap [] _ ⟨B.exec, B.bytes, hml, findClass_of_methodNamed B.named, fun w hw => hts w (List.mem_cons_of_mem _ hw), hK, B.notSynchronized, B.returns, (name_of_methodNamed B.named B.method).1⟩ (by omega) (by omega) hW va_S.rf ⟨hl.1, hl.2.1, fun i v hi => ?_⟩
  have h2 := pw_ent_in h0 As M.2.2.1 0 i v hi
  rw [Nat.zero_add] at h2
  exact hl.2.2 _ h2
/-- storing into a local -/
def pw_clr : Option Value → Option Value
  | some (.long _) => none
  | some (.double _) => none
  | x => x
def pw_cl1 : List (Option Value) → Nat → List (Option Value)
  | x :: l, 1 => pw_clr x :: l
  | x :: l, i + 2 => x :: pw_cl1 l (i + 1)
  | l, _ => l
def pw_st1 (L : List (Option Value)) (i : Nat) (v : Value) : List (Option Value) := (pw_cl1 L i).set i (some v)
def pw_st2 (L : List (Option Value)) (i : Nat) (v : Value) : List (Option Value) := ((pw_cl1 L i).set (i + 1) none).set i (some v)
theorem pw_clr_some {x : Option Value} {v : Value} (h : pw_clr x = some v) : x = some v ∧ ¬ v.category = 2 := by
  cases x with
  | none => cases h
  | some w => cases w <;> first | cases h; done | (cases h; exact ⟨rfl, by simp [Value.category]⟩)
theorem pw_cl1_at : ∀ (L : List (Option Value)) (i j : Nat) (w : Value), (pw_cl1 L i)[j]? = some (some w) → L[j]? = some (some w) ∧ ¬ (j + 1 = i ∧ w.category = 2)
  | [], i, j, w, h => by simp [pw_cl1] at h
  | x :: l, 0, j, w, h => ⟨h, by omega⟩
  | x :: l, 1, j, w, h => by
    cases j with
    | zero =>
      simp only [pw_cl1, List.getElem?_cons_zero, Option.some.injEq] at h
      obtain ⟨a, b⟩ := pw_clr_some h
      exact ⟨by rw [a]; rfl, fun q => b q.2⟩
    | succ j => exact ⟨h, by omega⟩
  | x :: l, i + 2, j, w, h => by
    cases j with
    | zero => exact ⟨h, by omega⟩
    | succ j =>
      obtain ⟨a, b⟩ := pw_cl1_at l (i + 1) j w h
      exact ⟨a, fun q => b ⟨by omega, q.2⟩⟩
theorem pw_st1_at {L : List (Option Value)} {i j : Nat} {v w : Value} (h : (pw_st1 L i v)[j]? = some (some w)) : (j = i ∧ w = v) ∨ (j ≠ i ∧ L[j]? = some (some w) ∧ ¬ (j + 1 = i ∧ w.category = 2)) := by
  unfold pw_st1 at h
  rw [List.getElem?_set] at h
  by_cases e : i = j
  · rw [if_pos e] at h
    split at h
    · cases h; exact Or.inl ⟨e.symm, rfl⟩
    · cases h
  · rw [if_neg e] at h
    obtain ⟨a, b⟩ := pw_cl1_at L i j w h
    exact Or.inr ⟨Ne.symm e, a, b⟩
theorem pw_st2_at {L : List (Option Value)} {i j : Nat} {v w : Value} (h : (pw_st2 L i v)[j]? = some (some w)) : (j = i ∧ w = v) ∨ (j ≠ i ∧ j ≠ i + 1 ∧ L[j]? = some (some w) ∧ ¬ (j + 1 = i ∧ w.category = 2)) := by
  unfold pw_st2 at h
  rw [List.getElem?_set] at h
  by_cases e : i = j
  · rw [if_pos e] at h
    split at h
    · cases h; exact Or.inl ⟨e.symm, rfl⟩
    · cases h
  · rw [if_neg e, List.getElem?_set] at h
    by_cases e1 : i + 1 = j
    · rw [if_pos e1] at h
      split at h <;> cases h
    · rw [if_neg e1] at h
      obtain ⟨a, b⟩ := pw_cl1_at L i j w h
      exact Or.inr ⟨Ne.symm e, Ne.symm e1, a, b⟩
/-- the locals as the kit's rows take them -/
def pw_asc (h0 : Nat) (L : List (Option Value)) : List (Nat × Value) := (List.range L.length).filterMap (fun j => (L[j]?.join).map (fun v => (j, pw_tv h0 v)))
theorem pw_asc_in {h0 : Nat} {L : List (Option Value)} {i : Nat} {v : Value} (h : L[i]? = some (some v)) : (i, pw_tv h0 v) ∈ pw_asc h0 L := by
  refine List.mem_filterMap.mpr ⟨i, List.mem_range.mpr (List.getElem?_eq_some_iff.mp h).1, ?_⟩
  rw [h]; rfl
theorem pw_asc_of {h0 : Nat} {L : List (Option Value)} {q : Nat × Value} (h : q ∈ pw_asc h0 L) : ∃ v, L[q.1]? = some (some v) ∧ q.2 = pw_tv h0 v := by
  obtain ⟨j, -, hj⟩ := List.mem_filterMap.mp h
  cases hL : L[j]? with
  | none => rw [hL] at hj; cases hj
  | some x =>
    cases x with
    | none => rw [hL] at hj; cases hj
    | some v =>
      rw [hL] at hj
      cases hj
      exact ⟨v, hL, rfl⟩
theorem pw_L.has {h0 nL : Nat} {L : List (Option Value)} {ls : Array Slot} (h : pw_L h0 L ls nL) : lv_has ls nL (pw_asc h0 L) := by
  refine ⟨h.1, h.2.1, fun q hq => ?_⟩
  obtain ⟨v, h1, h2⟩ := pw_asc_of hq
  rw [h2]
  exact h.2.2 _ _ h1
theorem pw_L.of1 {h0 nL i : Nat} {L : List (Option Value)} {ls : Array Slot} {v : Value} (h : lv_has ls nL ((i, pw_tv h0 v) :: (pw_asc h0 L).filter (fun q => !(q.1 == i) && !(q.1 + 1 == i && q.2.category == 2)))) : pw_L h0 (pw_st1 L i v) ls nL := by
  refine ⟨h.1, h.2.1, fun j w hj => ?_⟩
  rcases pw_st1_at hj with ⟨rfl, rfl⟩ | ⟨a, b, c⟩
  · exact h.2.2 _ List.mem_cons_self
  · refine h.2.2 (j, pw_tv h0 w) (List.mem_cons_of_mem _ (List.mem_filter.mpr ⟨pw_asc_in b, ?_⟩))
    have e1 : (j == i) = false := by simpa using a
    have e2 : (j + 1 == i && (pw_tv h0 w).category == 2) = false := by
      rw [pw_tv_cat, Bool.and_eq_false_iff]
      by_cases q : j + 1 = i
      · exact Or.inr (by simpa using fun z => c ⟨q, z⟩)
      · exact Or.inl (by simpa using q)
    simp only [e1, e2, Bool.not_false, Bool.and_self]
theorem pw_L.of2 {h0 nL i : Nat} {L : List (Option Value)} {ls : Array Slot} {v : Value} (h : lv_has ls nL ((i, pw_tv h0 v) :: (pw_asc h0 L).filter (fun q => !(q.1 == i) && (!(q.1 == i + 1) && !(q.1 + 1 == i && q.2.category == 2))))) : pw_L h0 (pw_st2 L i v) ls nL := by
  refine ⟨h.1, h.2.1, fun j w hj => ?_⟩
  rcases pw_st2_at hj with ⟨rfl, rfl⟩ | ⟨a, a1, b, c⟩
  · exact h.2.2 _ List.mem_cons_self
  · refine h.2.2 (j, pw_tv h0 w) (List.mem_cons_of_mem _ (List.mem_filter.mpr ⟨pw_asc_in b, ?_⟩))
    have e1 : (j == i) = false := by simpa using a
    have e3 : (j == i + 1) = false := by simpa using a1
    have e2 : (j + 1 == i && (pw_tv h0 w).category == 2) = false := by
      rw [pw_tv_cat, Bool.and_eq_false_iff]
      by_cases q : j + 1 = i
      · exact Or.inr (by simpa using fun z => c ⟨q, z⟩)
      · exact Or.inl (by simpa using q)
    simp only [e1, e2, e3, Bool.not_false, Bool.and_self]
theorem pw_len_cl1 : ∀ (L : List (Option Value)) (i : Nat), (pw_cl1 L i).length = L.length
  | [], i => rfl
  | x :: l, 0 => rfl
  | x :: l, 1 => rfl
  | x :: l, i + 2 => by simp [pw_cl1, pw_len_cl1 l (i + 1)]
