/-! CALLS -/
theorem lw_good : ∀ w ∈ lw_w, (w.onTables && w.keeps) = true ∨ ∃ ty, w = .arrayClass ty := fun _ hw => good_of_word (List.mem_filter.mp hw).2
/-- what the tables say of a method -/
def MOK (M : Mth) (na : Nat) : Prop := Cond.code M.1 M.2.1 M.2.2.1 M.2.2.2.1 ∈ lw_w ∧ Cond.initialized M.1.cls ∈ lw_w ∧ (M.1.cls ≠ "java/lang/invoke/MethodHandle" ∧ M.1.cls ≠ "java/lang/invoke/VarHandle" ∧ (parseMethodDescriptor M.1.desc).map (fun d => d.parameters.length) = some na)
def LkS (own : String) (idx : Nat) (M : Mth) (na : Nat) : Prop := MOK M na ∧ Cond.methodLink own idx M.1 ∈ lw_w ∧ Cond.static M.1 ∈ lw_w
def LkV (own : String) (idx : Nat) (M : Mth) (na : Nat) : Prop := MOK M na ∧ Cond.methodLink own idx M.1 ∈ lw_w ∧ Cond.instanceMethod M.1 ∈ lw_w ∧ Cond.selects M.1.cls M.1 M.1 ∈ lw_w
def LkI (own : String) (idx : Nat) (M : Mth) (na : Nat) : Prop := MOK M na ∧ (Cond.methodLink own idx M.1 ∈ lw_w ∨ ∃ host : String, Cond.methodLinkNest own idx M.1 host ∈ lw_x) ∧ Cond.instanceMethod M.1 ∈ lw_w ∧ M.1.name = "<init>" ∧ M.2.2.2.1 = none
theorem MOK.gin {M : Mth} {na : Nat} (h : MOK M na) : GoodIn lw_w (Cond.code M.1 M.2.1 M.2.2.1 M.2.2.2.1 :: lw_w) := by
  intro w hw
  rcases List.mem_cons.mp hw with rfl | hw
  · exact ⟨h.1, lw_good _ h.1⟩
  · exact ⟨hw, lw_good _ hw⟩
theorem pw_blind {D : va_G} {aC : FieldType → ClassId} {h0 n : Nat} {σ : Sto} {As : List Value} : FrameBlind (va_Pc As (fun U => pw_W D aC h0 n σ U.heap ∧ pw_K D aC U)) := by
  intro a U g mk h
  obtain ⟨h1, h2, h3⟩ := h
  exact ⟨h1, h2, pw_K.same (u := U) (U := U.calling g mk a) rfl h3⟩
theorem pw_map_rev (h0 : Nat) (As S : List Value) : (As.reverse ++ S).map (pw_tv h0) = (As.map (pw_tv h0)).reverse ++ S.map (pw_tv h0) := by
  rw [List.map_append, List.map_reverse]
theorem pw_map_cat (h0 : Nat) (S : List Value) : ((S.map (pw_tv h0)).map fun v => v.category).sum = (S.map fun v => v.category).sum := by
  rw [List.map_map]
  congr 1
  apply List.map_congr_left
  intro v _
  exact pw_tv_cat h0 v
section PWK
variable {p : Program} {l : Launch} {e : Env} {R : Room} {s : State} {m : MethodId} {args : Array Value} {below : List Frame} {meth : Method} {c : Code} {H : Heap} {locs : List Loc} {cs sl : Nat} {Qm : State → Prop}
variable {D : va_G} {aC : FieldType → ClassId} {h0 n pc : Nat} {σ : Sto} {ls : Array Slot}
variable {N : Mth} {mc' ms' na idx : Nat} {As : List Value} {Q' : Option Value → Sto → Prop} {own : String} {cc : ByteArray} {nL : Nat}
/-- the room that a call of N wants -/
def pw_fit (N : Mth) (R : Room) : Prop := N.2.2.2.2 + 1 ≤ R.frames ∧ 8 + (N.2.2.1 + 11) + 37 * N.2.2.2.2 ≤ R.locals
theorem pw_after {st rest : List Value} {a : Array Value} (hr : va_Run p l e R s m args below meth c H locs cs sl mc' ms' (F0 m pc ls st) rest (pw_Q D aC h0 mc' Q' a) (fun q => h0 ≤ q)) (hS : va_S (fun q => h0 ≤ q) s.heap H locs) (hW : pw_W D aC h0 n σ H)
    (kk : ∀ (v : Option Value) (σ' : Sto) (H1 : Heap) (locs1 : List Loc), Q' v σ' → pw_W D aC h0 (n + mc') σ' H1 → va_S (fun q => h0 ≤ q) s.heap H1 locs1 → W p l e R s m args below meth c H1 locs1 (cs + mc') (sl + ms') Qm (F0 m (pc + 3) ls ((v.map (pw_tv h0)).toList ++ rest))) : W p l e R s m args below meth c H locs cs sl Qm (F0 m pc ls st) := by
  intro T hT X
  obtain ⟨v, st₀, t, T', Lc, e0, X', hL, e1, e2, ⟨⟨v', n', σ', hv, hQ, hW', hz'⟩, hz, hk⟩, go⟩ := hr T hT X
  cases hv
  rw [e0] at hz hk hz'
  have hn : n' = n + mc' := by have := hW.2; omega
  subst hn
  obtain ⟨t2, a1, b1⟩ := kk v' σ' T'.heap (locs ++ Lc) hQ (by rw [e1]; exact hW') ⟨Nat.le_trans hS.1 (by rw [e1]; exact hz), fun q h1 h2 => by rw [e1, hk q (Nat.lt_of_lt_of_le h1 hS.1) h2]; exact hS.2.1 q h1 h2, fun q hq => by
      rcases List.mem_append.mp hq with h | h
      · exact hS.2.2 q h
      · exact hL q h⟩ T' rfl X'
  exact ⟨t2, go t2 a1, b1⟩
theorem pw_calls {S : List Value} (hx : p.tables.exec = Jvm.exec) (hb : c.code = cc) (hml : c.maxLocals = nL) (hown : s.vm.findClass own = some m.cls) (hts : ∀ w ∈ lw_w, w.before args s = true) (hK : pw_K D aC s) (hW : pw_W D aC h0 n σ H) (hls : ls.size = nL)
    (hM : CP N mc' ms' As n σ Q') (hl : LkS own idx N na) (hna : As.length = na) (hR : pw_fit N R) (hsum : (S.map fun v => v.category).sum ≤ 8) (d : decode cc pc = .ok (.invokestatic idx, 3)) (hf : cs + mc' ≤ R.cells ∧ sl + ms' ≤ R.slots) :
    va_Run p l e R s m args below meth c H locs cs sl mc' ms' (F0 m pc ls ((As.reverse ++ S).map (pw_tv h0))) (S.map (pw_tv h0)) (pw_Q D aC h0 mc' Q' (As.map (pw_tv h0)).toArray) (fun q => h0 ≤ q) := by
  obtain ⟨hok, hl1, hl2⟩ := hl
  exact va_runS (As := As.map (pw_tv h0)) ⟨hx, hb, hml, hown, hts⟩ (hM l D aC h0) ⟨callB_of na hts hok.gin rfl rfl rfl (hts _ hok.2.1) (hts _ hl1) hok.2.2 hR, hts _ hl2⟩
    ⟨pw_blind, fun U hU hWm => ⟨rfl, by rw [hU]; exact hW, hK.warm hWm⟩⟩ rfl (by rw [List.length_map]; exact hna) hls (pw_map_rev h0 As S) (lv_room (by rw [pw_map_cat]; exact hsum)) d hf
theorem pw_callv {S : List Value} {b ci : Nat} {fs : List Value} (hx : p.tables.exec = Jvm.exec) (hb : c.code = cc) (hml : c.maxLocals = nL) (hown : s.vm.findClass own = some m.cls) (hts : ∀ w ∈ lw_w, w.before args s = true) (hK : pw_K D aC s) (hW : pw_W D aC h0 n σ H) (hls : ls.size = nL)
    (hM : CP N mc' ms' (.ref b :: As) n σ Q') (hl : LkV own idx N na) (hna : As.length = na) (hbn : b < n) (hσ : σ b = pO ci fs) (hci : (vwCl[ci]?).map (fun q => q.1) = some N.1.cls) (hR : pw_fit N R) (hsum : (S.map fun v => v.category).sum ≤ 8) (d : decode cc pc = .ok (.invokevirtual idx, 3)) (hf : cs + mc' ≤ R.cells ∧ sl + ms' ≤ R.slots) :
    va_Run p l e R s m args below meth c H locs cs sl mc' ms' (F0 m pc ls ((As.reverse ++ .ref b :: S).map (pw_tv h0))) (S.map (pw_tv h0)) (pw_Q D aC h0 mc' Q' ((.ref b :: As).map (pw_tv h0)).toArray) (fun q => h0 ≤ q) := by
  obtain ⟨hok, hl1, hl2, hl3⟩ := hl
  obtain ⟨r, hr1, hr2⟩ := Option.map_eq_some_iff.mp hci
  have hrec := va_recv hK.1 hW.1 hr1 (pw_at (D := D) (aC := aC) (h0 := h0) hbn hσ)
  rw [hr2] at hrec
  exact va_runV (As := As.map (pw_tv h0)) (b := h0 + b) ⟨hx, hb, hml, hown, hts⟩ (hM l D aC h0) ⟨callB_of na hts hok.gin rfl rfl rfl (hts _ hok.2.1) (hts _ hl1) hok.2.2 hR, hts _ hl2, hts _ hl3⟩
    ⟨pw_blind, hrec, fun U hU hWm => ⟨rfl, by rw [hU]; exact hW, hK.warm hWm⟩⟩ rfl (by rw [List.length_map]; exact hna) hls (pw_map_rev h0 As (.ref b :: S)) (lv_room (by rw [pw_map_cat]; exact hsum)) d hf
theorem pw_calli {S : List Value} {b : Nat} (hx : p.tables.exec = Jvm.exec) (hb : c.code = cc) (hml : c.maxLocals = nL) (hown : s.vm.findClass own = some m.cls) (hts : ∀ w ∈ lw_w, w.before args s = true) (hK : pw_K D aC s) (hW : pw_W D aC h0 n σ H) (hls : ls.size = nL)
    (hM : CP N mc' ms' (.ref b :: As) n σ Q') (hl : LkI own idx N na) (hna : As.length = na) (hR : pw_fit N R) (hsum : (S.map fun v => v.category).sum ≤ 8) (d : decode cc pc = .ok (.invokespecial idx, 3)) (hf : cs + mc' ≤ R.cells ∧ sl + ms' ≤ R.slots) :
    va_Run p l e R s m args below meth c H locs cs sl mc' ms' (F0 m pc ls ((As.reverse ++ .ref b :: S).map (pw_tv h0))) (S.map (pw_tv h0)) (pw_Q D aC h0 mc' Q' ((.ref b :: As).map (pw_tv h0)).toArray) (fun q => h0 ≤ q) := by
  obtain ⟨hok, hl1, hl2, hl3, hl4⟩ := hl
  have hM' := hM l D aC h0
  obtain ⟨y, bytes, maxL, ret, dep⟩ := N
  dsimp only at hl4
  subst hl4
  rcases hl1 with hl1 | ⟨host, hl1⟩
  · exact va_runI (As := As.map (pw_tv h0)) (b := h0 + b) ⟨hx, hb, hml, hown, hts⟩ hM' ⟨callB_of na hts hok.gin rfl rfl rfl (hts _ hok.2.1) (hts _ hl1) hok.2.2 hR, hl3, hts _ hl2⟩
      ⟨pw_blind, fun U hU hWm => ⟨rfl, by rw [hU]; exact hW, hK.warm hWm⟩⟩ rfl (by rw [List.length_map]; exact hna) hls (pw_map_rev h0 As (.ref b :: S)) (lv_room (by rw [pw_map_cat]; exact hsum)) d hf
  · exact va_runIN (As := As.map (pw_tv h0)) (b := h0 + b) ⟨hx, hb, hml, hown, hts⟩ hM' ⟨va_cnB na hts hok.gin rfl rfl rfl (hK.2.1 _ hl1) (hts _ hok.2.1) hok.2.2 hR, hl3, hts _ hl2⟩
      ⟨pw_blind, fun U hU hWm => ⟨rfl, by rw [hU]; exact hW, hK.warm hWm⟩⟩ rfl (by rw [List.length_map]; exact hna) hls (pw_map_rev h0 As (.ref b :: S)) (lv_room (by rw [pw_map_cat]; exact hsum)) d hf
end PWK
section PWC
variable {M : Mth} {mc ms : Nat} {Q : Option Value → Sto → Prop} {pc q n cs sl : Nat} {L : List (Option Value)} {S st : List Value} {σ : Sto}
variable {N : Mth} {mc' ms' na idx : Nat} {As : List Value} {Q' : Option Value → Sto → Prop}
def pw_fits (N M : Mth) : Prop := N.2.2.2.2 + 1 ≤ M.2.2.2.2 ∧ 8 + (N.2.2.1 + 11) + 37 * N.2.2.2.2 ≤ 37 * M.2.2.2.2
theorem pw_stk (h0 : Nat) (v : Option Value) (S : List Value) : (v.map (pw_tv h0)).toList ++ S.map (pw_tv h0) = (v.toList ++ S).map (pw_tv h0) := by
  cases v <;> rfl
theorem P_calls (d : decode M.2.1 pc = .ok (.invokestatic idx, 3)) (hq : pc + 3 = q) (hM : CP N mc' ms' As n σ Q') (hl : LkS M.1.cls idx N na) (hna : As.length = na) (hst : As.reverse ++ S = st) (hR : pw_fits N M) (hsum : (S.map fun v => v.category).sum ≤ 8) (hf : cs + mc' ≤ mc ∧ sl + ms' ≤ ms)
    (kk : ∀ (v : Option Value) (σ' : Sto), Q' v σ' → PW M mc ms Q q L (v.toList ++ S) (n + mc') σ' (cs + mc') (sl + ms')) : PW M mc ms Q pc L st n σ cs sl := by
  subst hq; subst hst
  intro p l e s m args below meth c D aC h0 H locs ls hC hh hz hW hS hL
  refine pw_after (pw_calls hC.1 hC.2.1 hC.2.2.1 hC.2.2.2.1 hC.2.2.2.2.1 hC.2.2.2.2.2.1 hW hL.1 hM hl hna hR hsum d hf) hS hW (fun v σ' H1 locs1 hQ hW1 hS1 => ?_)
  rw [pw_stk]
  exact kk v σ' hQ p l e s m args below meth c D aC h0 H1 locs1 ls hC hh (by omega) hW1 hS1 hL
theorem P_callv {b ci : Nat} {fs : List Value} (d : decode M.2.1 pc = .ok (.invokevirtual idx, 3)) (hq : pc + 3 = q) (hM : CP N mc' ms' (.ref b :: As) n σ Q') (hl : LkV M.1.cls idx N na) (hna : As.length = na) (hst : As.reverse ++ .ref b :: S = st) (hbn : b < n) (hσ : σ b = pO ci fs) (hci : (vwCl[ci]?).map (fun q => q.1) = some N.1.cls) (hR : pw_fits N M) (hsum : (S.map fun v => v.category).sum ≤ 8) (hf : cs + mc' ≤ mc ∧ sl + ms' ≤ ms)
    (kk : ∀ (v : Option Value) (σ' : Sto), Q' v σ' → PW M mc ms Q q L (v.toList ++ S) (n + mc') σ' (cs + mc') (sl + ms')) : PW M mc ms Q pc L st n σ cs sl := by
  subst hq; subst hst
  intro p l e s m args below meth c D aC h0 H locs ls hC hh hz hW hS hL
  refine pw_after (pw_callv hC.1 hC.2.1 hC.2.2.1 hC.2.2.2.1 hC.2.2.2.2.1 hC.2.2.2.2.2.1 hW hL.1 hM hl hna hbn hσ hci hR hsum d hf) hS hW (fun v σ' H1 locs1 hQ hW1 hS1 => ?_)
  rw [pw_stk]
  exact kk v σ' hQ p l e s m args below meth c D aC h0 H1 locs1 ls hC hh (by omega) hW1 hS1 hL
theorem P_calli {b : Nat} (d : decode M.2.1 pc = .ok (.invokespecial idx, 3)) (hq : pc + 3 = q) (hM : CP N mc' ms' (.ref b :: As) n σ Q') (hl : LkI M.1.cls idx N na) (hna : As.length = na) (hst : As.reverse ++ .ref b :: S = st) (hR : pw_fits N M) (hsum : (S.map fun v => v.category).sum ≤ 8) (hf : cs + mc' ≤ mc ∧ sl + ms' ≤ ms)
    (kk : ∀ (v : Option Value) (σ' : Sto), Q' v σ' → PW M mc ms Q q L (v.toList ++ S) (n + mc') σ' (cs + mc') (sl + ms')) : PW M mc ms Q pc L st n σ cs sl := by
  subst hq; subst hst
  intro p l e s m args below meth c D aC h0 H locs ls hC hh hz hW hS hL
  refine pw_after (pw_calli hC.1 hC.2.1 hC.2.2.1 hC.2.2.2.1 hC.2.2.2.2.1 hC.2.2.2.2.2.1 hW hL.1 hM hl hna hR hsum d hf) hS hW (fun v σ' H1 locs1 hQ hW1 hS1 => ?_)
  rw [pw_stk]
  exact kk v σ' hQ p l e s m args below meth c D aC h0 H1 locs1 ls hC hh (by omega) hW1 hS1 hL
theorem P_objinit {b : Nat} (d : decode M.2.1 pc = .ok (.invokespecial idx, 3)) (hq : pc + 3 = q) (h1 : Cond.methodLink M.1.cls idx Lib.objectInit ∈ lw_w) (h2 : Cond.instanceMethod Lib.objectInit ∈ lw_w) (h3 : Cond.code Lib.objectInit ⟨#[0xb1]⟩ 1 none ∈ lw_w) (hd : 1 ≤ M.2.2.2.2) (hsum : (S.map fun v => v.category).sum ≤ 8) (kk : PW M mc ms Q q L S n σ cs sl) : PW M mc ms Q pc L (.ref b :: S) n σ cs sl := by
  subst hq
  intro p l e s m args below meth c D aC h0 H locs ls hC hh hz hW hS hL
  refine W.objInit hC.1 hC.2.1 hC.2.2.2.1 (hC.2.2.2.2.1 _ h1) (hC.2.2.2.2.1 _ h2) (hC.2.2.2.2.1 _ h3) rfl (hL.1.trans hC.2.2.1.symm) rfl d (by show 1 ≤ M.2.2.2.2; exact hd) ?_ (W.eq (g2 := F0 m (pc + 3) ls (S.map (pw_tv h0))) rfl (kk p l e s m args below meth c D aC h0 H locs ls hC hh hz hW hS hL))
  show 2 * 0 + ((S.map (pw_tv h0)).map fun v => v.category).sum + 12 ≤ 37 * M.2.2.2.2
  rw [pw_map_cat]
  omega
/-- a contract said more weakly -/
theorem CP.imp {Q₁ Q₂ : Option Value → Sto → Prop} (h : CP N mc ms As n σ Q₁) (hi : ∀ v σ', Q₁ v σ' → Q₂ v σ') : CP N mc ms As n σ Q₂ := by
  intro l D aC h0 p e ha hc hk s m args below hf h1 h2 h3
  obtain ⟨k, o, g1, g2, g3, ⟨⟨⟨v, n', σ', a, b, c⟩, d⟩, r⟩⟩ := h l D aC h0 p e ha hc hk s m args below hf h1 h2 h3
  exact ⟨k, o, g1, g2, g3, ⟨⟨⟨v, n', σ', a, hi v σ' b, c⟩, d⟩, r⟩⟩
end PWC
/-- a contract with one answer and one store behind it, nothing made -/
def CD (N : Mth) (As : List Value) (n : Nat) (σ : Sto) (r : Option Value) (τ : Sto) : Prop := CP N 0 0 As n σ (fun v σ' => v = r ∧ σ' = τ)
section PWD
variable {M : Mth} {mc ms : Nat} {Q : Option Value → Sto → Prop} {pc q n cs sl : Nat} {L : List (Option Value)} {S st : List Value} {σ τ : Sto}
variable {N : Mth} {na idx : Nat} {As : List Value} {r : Value}
theorem P_cs1 (d : decode M.2.1 pc = .ok (.invokestatic idx, 3)) (hq : pc + 3 = q) (hl : LkS M.1.cls idx N na) (hM : CD N As n σ (some r) τ) (hna : As.length = na) (hst : As.reverse ++ S = st) (hR : pw_fits N M) (hsum : (S.map fun v => v.category).sum ≤ 8) (hf : cs ≤ mc ∧ sl ≤ ms) (kk : PW M mc ms Q q L (r :: S) n τ cs sl) : PW M mc ms Q pc L st n σ cs sl := by
  refine P_calls d hq hM hl hna hst hR hsum hf (fun v σ' h => ?_)
  obtain ⟨rfl, rfl⟩ := h
  exact kk
theorem P_cs0 (d : decode M.2.1 pc = .ok (.invokestatic idx, 3)) (hq : pc + 3 = q) (hl : LkS M.1.cls idx N na) (hM : CD N As n σ none τ) (hna : As.length = na) (hst : As.reverse ++ S = st) (hR : pw_fits N M) (hsum : (S.map fun v => v.category).sum ≤ 8) (hf : cs ≤ mc ∧ sl ≤ ms) (kk : PW M mc ms Q q L S n τ cs sl) : PW M mc ms Q pc L st n σ cs sl := by
  refine P_calls d hq hM hl hna hst hR hsum hf (fun v σ' h => ?_)
  obtain ⟨rfl, rfl⟩ := h
  exact kk
theorem P_cv1 {b ci : Nat} {fs : List Value} (d : decode M.2.1 pc = .ok (.invokevirtual idx, 3)) (hq : pc + 3 = q) (hl : LkV M.1.cls idx N na) (hM : CD N (.ref b :: As) n σ (some r) τ) (hna : As.length = na) (hst : As.reverse ++ .ref b :: S = st) (hbn : b < n) (hσ : σ b = pO ci fs) (hci : (vwCl[ci]?).map (fun q => q.1) = some N.1.cls) (hR : pw_fits N M) (hsum : (S.map fun v => v.category).sum ≤ 8) (hf : cs ≤ mc ∧ sl ≤ ms) (kk : PW M mc ms Q q L (r :: S) n τ cs sl) : PW M mc ms Q pc L st n σ cs sl := by
  refine P_callv d hq hM hl hna hst hbn hσ hci hR hsum hf (fun v σ' h => ?_)
  obtain ⟨rfl, rfl⟩ := h
  exact kk
theorem P_cv0 {b ci : Nat} {fs : List Value} (d : decode M.2.1 pc = .ok (.invokevirtual idx, 3)) (hq : pc + 3 = q) (hl : LkV M.1.cls idx N na) (hM : CD N (.ref b :: As) n σ none τ) (hna : As.length = na) (hst : As.reverse ++ .ref b :: S = st) (hbn : b < n) (hσ : σ b = pO ci fs) (hci : (vwCl[ci]?).map (fun q => q.1) = some N.1.cls) (hR : pw_fits N M) (hsum : (S.map fun v => v.category).sum ≤ 8) (hf : cs ≤ mc ∧ sl ≤ ms) (kk : PW M mc ms Q q L S n τ cs sl) : PW M mc ms Q pc L st n σ cs sl := by
  refine P_callv d hq hM hl hna hst hbn hσ hci hR hsum hf (fun v σ' h => ?_)
  obtain ⟨rfl, rfl⟩ := h
  exact kk
end PWD
