/-! RULES OF PW FOR WHAT IS MADE: objects, arrays -/
/-- the new cell's address is the next one -/
theorem pw_next {D : va_G} {aC : FieldType → ClassId} {h0 n q0 : Nat} {σ : Sto} {x : va_E} {H1 : Heap} (hP : va_P D vwCl (pw_wl h0 aC n σ ++ [(q0, x)]) H1) (hD : va_D (fun q => h0 ≤ q) (pw_wl h0 aC n σ ++ [(q0, x)])) (hz : H1.size ≤ h0 + n + 1) : q0 = h0 + n := by
  have e : (pw_wl h0 aC n σ ++ [(q0, x)])[n]? = some (q0, x) := by
    rw [List.getElem?_append_right (by rw [pw_wl_len]; exact Nat.le_refl _), pw_wl_len, Nat.sub_self]; rfl
  have h1 : h0 ≤ q0 := hD.2 n _ e
  have h2 : q0 < H1.size := (hP n _ e).lt
  refine Classical.byContradiction fun hne => ?_
  have hi : q0 - h0 < n := by omega
  have e2 : (pw_wl h0 aC n σ ++ [(q0, x)])[q0 - h0]? = some (h0 + (q0 - h0), pw_tr h0 aC (σ (q0 - h0))) := by
    rw [List.getElem?_append_left (by rw [pw_wl_len]; exact hi)]
    exact pw_wl_at hi
  have := hD.1 _ _ _ _ e2 e (show h0 + (q0 - h0) = q0 by omega)
  omega
section PWN
variable {M : Mth} {mc ms : Nat} {Q : Option Value → Sto → Prop} {pc q n cs sl : Nat} {L : List (Option Value)} {S : List Value} {σ : Sto}
theorem pw_made {pc' : Nat} {L' : List (Option Value)} {S' : List Value} {cx : PC} {sl' : Nat} (kk : PW M mc ms Q pc' L' (.ref n :: S') (n + 1) (va_up σ n cx) (cs + 1) sl') {p : Program} {l : Launch} {e : Env} {s : State} {m : MethodId} {args : Array Value} {below : List Frame} {meth : Method} {c : Code} {D : va_G} {aC : FieldType → ClassId} {h0 q0 : Nat} {H1 : Heap} {locs1 : List Loc} {ls : Array Slot}
    (hC : pw_C p s m args meth c M D aC) (hh : h0 ≤ s.heap.size) (hz : s.heap.size + cs = h0 + n) (hL : pw_L h0 L' ls M.2.2.1) {x : va_E} (hx : x = pw_tr h0 aC cx) (hP : va_P D vwCl (pw_wl h0 aC n σ ++ [(q0, x)]) H1) (hD : va_D (fun q => h0 ≤ q) (pw_wl h0 aC n σ ++ [(q0, x)])) (hS : va_S (fun q => h0 ≤ q) s.heap H1 locs1) :
    W p l e (pw_rm M.2.2.2.2 mc ms) s m args below meth c H1 locs1 (cs + 1) sl' (MQ below (pw_Q D aC h0 mc Q) args s mc ms (fun q => h0 ≤ q)) (F0 m pc' ls (.ref q0 :: S'.map (pw_tv h0))) := by
  subst hx
  refine W_sz fun h2 => ?_
  have e := pw_next hP hD (by omega)
  subst e
  rw [pw_wl_push] at hP
  exact kk p l e s m args below meth c D aC h0 H1 locs1 ls hC hh (by omega) (pw_W_mk hP (Nat.le_trans hh hS.1) (by omega)) hS hL
/-- an object -/
def LkN (own : String) (idx ci : Nat) (fs : List Value) : Prop := ∃ (C : String) (T : u_T) (N : Nat) (ty : Nat → FieldType), vwCl[ci]? = some (C, T, N) ∧ (∀ w ∈ u_ws C T N, w ∈ lw_w) ∧ (∀ k, k < N → parseFieldDescriptor (T k).2.2.1 = some (ty k)) ∧ (∀ j, j < N → defaultValue (ty j) = vp_V fs j) ∧ Cond.classLink own idx C ∈ lw_w ∧ Cond.instantiable C N ∈ lw_w ∧ Cond.initialized C ∈ lw_w ∧ N = fs.length
theorem P_new {idx ci : Nat} {fs : List Value} (d : decode M.2.1 pc = .ok (.new idx, 3)) (hq : pc + 3 = q) (hl : LkN M.1.cls idx ci fs) (hf : ∀ h0, fs.map (pw_tv h0) = fs) (hc : cs + 1 ≤ mc ∧ sl + fs.length ≤ ms) (kk : PW M mc ms Q q L (.ref n :: S) (n + 1) (va_up σ n (pO ci fs)) (cs + 1) (sl + fs.length)) : PW M mc ms Q pc L S n σ cs sl := by
  subst hq
  intro p l e s m args below meth c D aC h0 H locs ls hC hh hz hW hS hL
  obtain ⟨C, T, N, ty, h1, h2, h3, h4, h5, h6, h7, rfl⟩ := hl
  exact va_new hC.1 hC.2.1 hC.2.2.2.2.1 h2 ty h3 hC.2.2.2.1 (hC.2.2.2.2.1 _ h5) (hC.2.2.2.2.1 _ h6) (hC.2.2.2.2.1 _ h7) hC.2.2.2.2.2.1.1 hW.1 (pw_D h0 aC n σ) hS (fun q hq => Nat.le_trans hh hq) h1 h4 hc.1 hc.2 d (fun q0 H1 hP hD hS1 => pw_made kk hC hh hz hL (by show _ = (Sum.inr (ci, fs.map (pw_tv h0)) : va_E); rw [hf]) hP hD hS1)
/-- arrays of ints, of chars -/
theorem pw_same {D : va_G} {aC : FieldType → ClassId} {cA : ClassId} {s : State} {ty : FieldType} (t0 : Nat) (ht : (pw_tys aC)[t0]? = some (aC ty, ty)) (hK : va_K D vwCl (pw_tys aC ++ [(cA, ty)]) s) : cA = aC ty := by
  have hlen : (pw_tys aC).length = 4 := rfl
  have hlt : t0 < (pw_tys aC).length := (List.getElem?_eq_some_iff.mp ht).1
  have h1 := (hK.2 t0 _ ((List.getElem?_append_left hlt).trans ht)).2
  have h2 := (hK.2 4 (cA, ty) (by rw [List.getElem?_append_right (by rw [hlen]; exact Nat.le_refl 4)]; rfl)).2
  have nm : ∀ (c : ClassId), va_RA s c ty → s.vm.findClass ("[" ++ ty.toString) = some c := fun c h => by
    cases ty with
    | object C => obtain ⟨kA, comp, -, -, -, h4⟩ := h; exact h4
    | _ => exact h
  exact Option.some.inj ((nm _ h2).symm.trans (nm _ h1))
theorem P_newI {N : Nat} {x : Int32} (d : decode M.2.1 pc = .ok (.newarray .int, 2)) (hq : pc + 2 = q) (ha : Cond.arrayClass .int ∈ lw_w) (hx : x = nI N) (hN : N ≤ 100000) (hc : cs + 1 ≤ mc ∧ sl + N ≤ ms) (kk : PW M mc ms Q q L (.ref n :: S) (n + 1) (va_up σ n (pI .int N (fun _ => 0))) (cs + 1) (sl + N)) : PW M mc ms Q pc L (.int x :: S) n σ cs sl := by
  subst hq; subst hx
  intro p l e s m args below meth c D aC h0 H locs ls hC hh hz hW hS hL
  refine va_newa (atype := .int) hC.1 hC.2.1 (hC.2.2.2.2.1 _ ha) (ty := .int) rfl hC.2.2.2.2.2.1.1 hW.1 (pw_D h0 aC n σ) hS (fun q hq => Nat.le_trans hh hq) (N' := N) (a0 := (N, .inl (fun _ => 0))) (fun cA => rfl) (fun h => ?_) (nI_clamp (by omega)) (by show N * 4 ≤ _; omega) hc.1 hc.2 d (fun q0 cA H1 hK hP hD hS1 => pw_made kk hC hh hz hL ?_ hP hD hS1)
  · rw [show (0 : Int32) = nI 0 from rfl, nI_ltI (by omega) (by decide)] at h; omega
  · rw [pw_same 0 rfl hK]; rfl
theorem P_newC {N : Nat} {x : Int32} (d : decode M.2.1 pc = .ok (.newarray .char, 2)) (hq : pc + 2 = q) (ha : Cond.arrayClass .char ∈ lw_w) (hx : x = nI N) (hN : N ≤ 100000) (hc : cs + 1 ≤ mc ∧ sl + N ≤ ms) (kk : PW M mc ms Q q L (.ref n :: S) (n + 1) (va_up σ n (pI .char N (fun _ => 0))) (cs + 1) (sl + N)) : PW M mc ms Q pc L (.int x :: S) n σ cs sl := by
  subst hq; subst hx
  intro p l e s m args below meth c D aC h0 H locs ls hC hh hz hW hS hL
  refine va_newa (atype := .char) hC.1 hC.2.1 (hC.2.2.2.2.1 _ ha) (ty := .char) rfl hC.2.2.2.2.2.1.1 hW.1 (pw_D h0 aC n σ) hS (fun q hq => Nat.le_trans hh hq) (N' := N) (a0 := (N, .inl (fun _ => 0))) (fun cA => rfl) (fun h => ?_) (nI_clamp (by omega)) (by show N * 2 ≤ _; omega) hc.1 hc.2 d (fun q0 cA H1 hK hP hD hS1 => pw_made kk hC hh hz hL ?_ hP hD hS1)
  · rw [show (0 : Int32) = nI 0 from rfl, nI_ltI (by omega) (by decide)] at h; omega
  · rw [pw_same 1 rfl hK]; rfl
/-- an array of strips; a strip is put into it -/
abbrev tyS : FieldType := .object "SpinStrips$Strip"
theorem P_newQ {idx N : Nat} {x : Int32} (d : decode M.2.1 pc = .ok (.anewarray idx, 3)) (hq : pc + 3 = q) (hl : Cond.classLink M.1.cls idx "SpinStrips$Strip" ∈ lw_w) (hx : x = nI N) (hN : N ≤ 100000) (hc : cs + 1 ≤ mc ∧ sl + N ≤ ms) (kk : PW M mc ms Q q L (.ref n :: S) (n + 1) (va_up σ n (pR tyS N (fun _ => none))) (cs + 1) (sl + N)) : PW M mc ms Q pc L (.int x :: S) n σ cs sl := by
  subst hq; subst hx
  intro p l e s m args below meth c D aC h0 H locs ls hC hh hz hW hS hL
  refine va_newq hC.1 hC.2.1 hC.2.2.2.1 (hC.2.2.2.2.1 _ hl) (hC.2.2.2.2.2.1.2.2 _ (Or.inr rfl)) hC.2.2.2.2.2.1.1 hW.1 (pw_D h0 aC n σ) hS (fun q hq => Nat.le_trans hh hq) (N' := N) (fun h => ?_) (nI_clamp (by omega)) (by omega) hc.1 hc.2 d (fun q0 cA H1 hK hP hD hS1 => pw_made kk hC hh hz hL ?_ hP hD hS1)
  · rw [show (0 : Int32) = nI 0 from rfl, nI_ltI (by omega) (by decide)] at h; omega
  · rw [pw_same 3 rfl hK]; rfl
theorem P_qast {a b N j : Nat} {g g' : Nat → Option Nat} {i : Int32} {fs : List Value} {T : u_T} {NN : Nat} {σ' : Sto} (d : decode M.2.1 pc = .ok (.aastore, 1)) (hq : pc + 1 = q) (ha : a < n) (hσ : σ a = pR tyS N g) (hb : b < n) (hσb : σ b = pO 4 fs) (hcl : vwCl[4]? = some ("SpinStrips$Strip", T, NN)) (hi : i = nI j) (hj : j < N) (hN : N < 2 ^ 31) (hg : va_up g j (some b) = g') (hs : va_up σ a (pR tyS N g') = σ') (kk : PW M mc ms Q q L S n σ' cs sl) : PW M mc ms Q pc L (.ref b :: .int i :: .ref a :: S) n σ cs sl := by
  subst hq; subst hi
  intro p l e s m args below meth c D aC h0 H locs ls hC hh hz hW hS hL
  have he := pw_at (D := D) (aC := aC) (h0 := h0) ha hσ
  have heb := pw_at (D := D) (aC := aC) (h0 := h0) hb hσb
  refine va_astq hC.1 hC.2.1 hC.2.2.2.2.2.1.1 hW.1 (pw_D h0 aC n σ) hS a 3 b 4 he rfl heb hcl (vp_in_nI hj hN) d (fun H1 locs1 hP _ hS1 => ?_)
  rw [nI_clamp (by omega)] at hP
  refine pw_back (cx := pR tyS N g') hs kk hC hh hz hL ?_ hP hS1
  show _ = (Sum.inl (aC tyS, N, .inr (.inr (.inr (.inr (fun j => (g' j).map (fun k => h0 + k)))))) : va_E)
  rw [← hg]
  congr 7
  funext k
  unfold va_up
  by_cases e : k = j
  · rw [if_pos e, if_pos e]; rfl
  · rw [if_neg e, if_neg e]
end PWN
theorem nX0_9 : LkN RX0 9 3 [.int 0, .int 0, .int 0, .int 0, .int 0, .null, .null, .null] := ⟨_, _, _, tyX3, cls_3.1, cls_3.2.1, tyX3_ok, by decide, lw_w_at (i := 103) (by decide +kernel) (by decide +kernel), lw_w_at (i := 104) (by decide +kernel) (by decide +kernel), lw_w_at (i := 25) (by decide +kernel) (by decide +kernel), rfl⟩
theorem nX0_21 : LkN RX0 21 5 [.null, .null] := ⟨_, _, _, tyX5, cls_5.1, cls_5.2.1, tyX5_ok, by decide, lw_w_at (i := 147) (by decide +kernel) (by decide +kernel), lw_w_at (i := 148) (by decide +kernel) (by decide +kernel), lw_w_at (i := 26) (by decide +kernel) (by decide +kernel), rfl⟩
theorem nX0_28 : LkN RX0 28 2 [.null, .null, .null] := ⟨_, _, _, tyX2, cls_2.1, cls_2.2.1, tyX2_ok, by decide, lw_w_at (i := 161) (by decide +kernel) (by decide +kernel), lw_w_at (i := 162) (by decide +kernel) (by decide +kernel), lw_w_at (i := 27) (by decide +kernel) (by decide +kernel), rfl⟩
theorem nX1_9 : LkN RX1 9 4 [.int 0, .int 0, .int 0, .int 0, .int 0, .long 0, .long 0, .int 0, .null] := ⟨_, _, _, tyX4, cls_4.1, cls_4.2.1, tyX4_ok, by decide, lw_w_at (i := 221) (by decide +kernel) (by decide +kernel), lw_w_at (i := 44) (by decide +kernel) (by decide +kernel), lw_w_at (i := 23) (by decide +kernel) (by decide +kernel), rfl⟩
theorem nX7_9 : LkN RX7 9 4 [.int 0, .int 0, .int 0, .int 0, .int 0, .long 0, .long 0, .int 0, .null] := ⟨_, _, _, tyX4, cls_4.1, cls_4.2.1, tyX4_ok, by decide, lw_w_at (i := 43) (by decide +kernel) (by decide +kernel), lw_w_at (i := 44) (by decide +kernel) (by decide +kernel), lw_w_at (i := 23) (by decide +kernel) (by decide +kernel), rfl⟩
theorem nX7_16 : LkN RX7 16 0 [.null, .null, .null, .null, .null, .null, .null, .int 0, .int 0, .int 0, .int 0, .int 0] := ⟨_, _, _, tyX0, cls_0.1, cls_0.2.1, tyX0_ok, by decide, lw_w_at (i := 97) (by decide +kernel) (by decide +kernel), lw_w_at (i := 98) (by decide +kernel) (by decide +kernel), lw_w_at (i := 24) (by decide +kernel) (by decide +kernel), rfl⟩
theorem nX7_23 : LkN RX7 23 1 [.null, .int 0, .int 0] := ⟨_, _, _, tyX1, cls_1.1, cls_1.2.1, tyX1_ok, by decide, lw_w_at (i := 215) (by decide +kernel) (by decide +kernel), lw_w_at (i := 216) (by decide +kernel) (by decide +kernel), lw_w_at (i := 28) (by decide +kernel) (by decide +kernel), rfl⟩
theorem nX7_37 : LkN RX7 37 6 [.null, .int 0, .int 0, .int 0, .long 0] := ⟨_, _, _, tyX6, cls_6.1, cls_6.2.1, tyX6_ok, by decide, lw_w_at (i := 235) (by decide +kernel) (by decide +kernel), lw_w_at (i := 236) (by decide +kernel) (by decide +kernel), lw_w_at (i := 29) (by decide +kernel) (by decide +kernel), rfl⟩
theorem iX2_9 : Cond.classLink RX2 9 "[[I" ∈ lw_w := lw_w_at (i := 167) (by decide +kernel) (by decide +kernel)
theorem iX3_32 : Cond.classLink RX3 32 "[[I" ∈ lw_w := lw_w_at (i := 109) (by decide +kernel) (by decide +kernel)
theorem iX5_9 : Cond.classLink RX5 9 "[[I" ∈ lw_w := lw_w_at (i := 153) (by decide +kernel) (by decide +kernel)
theorem iX1_9 : Cond.classLink RX1 9 "SpinStrips$Strip" ∈ lw_w := lw_w_at (i := 221) (by decide +kernel) (by decide +kernel)
theorem w_arI : Cond.arrayClass .int ∈ lw_w := lw_w_at (i := 96) (by decide +kernel) (by decide +kernel)
theorem w_arC : Cond.arrayClass .char ∈ lw_w := lw_w_at (i := 261) (by decide +kernel) (by decide +kernel)
