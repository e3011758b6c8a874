/-! FLOATS: the machine's own bits -/
section PWF
variable {M : Mth} {mc ms : Nat} {Q : Option Value → Sto → Prop} {pc q n cs sl : Nat} {L : List (Option Value)} {S : List Value} {σ : Sto}
def fltRaw : MethodName := ⟨"java/lang/Float", "floatToRawIntBits", "(F)I"⟩
theorem raw_st : Cond.static fltRaw ∈ lw_w := lw_w_at (i := 1065) (by decide +kernel) (by decide +kernel)
theorem raw_nat : Cond.native fltRaw ∈ lw_w := lw_w_at (i := 1066) (by decide +kernel) (by decide +kernel)
theorem P_rawf {idx : Nat} {x : UInt32} (d : decode M.2.1 pc = .ok (.invokestatic idx, 3)) (hq : pc + 3 = q) (hl : Cond.methodLink M.1.cls idx fltRaw ∈ lw_w) (hf : 1 ≤ M.2.2.2.2) (hsum : (S.map fun v => v.category).sum ≤ 8) (k : PW M mc ms Q q L (.int x.toInt32 :: S) n σ cs sl) : PW M mc ms Q pc L (.float x :: S) n σ cs sl := by
  subst hq
  intro p l e s m args below meth c D aC h0 H locs ls hC hh hz hW hS hL
  refine vn_f2i hC.1 hC.2.1 (hC.2.2.1.trans hL.1.symm) hC.2.2.2.1 (hC.2.2.2.2.1 _ hl) (hC.2.2.2.2.1 _ raw_nat) (hC.2.2.2.2.1 _ raw_st) (hC.2.2.2.2.1 _ ok_Jxf58ca_floatToIntBits_5c35a.2.1) hf ?_ d (k p l e s m args below meth c D aC h0 H locs ls hC hh hz hW hS hL)
  rw [pw_map_cat]
  show _ ≤ 37 * M.2.2.2.2
  omega
end PWF
/-- a method of a class of the platform that no row of the machine's own stands in for -/
theorem CP_ofF {M : Mth} {mc ms : Nat} {As : List Value} {n : Nat} {σ : Sto} {Q : Option Value → Sto → Prop} (hy : plainFor M.1 = true) (hn : (lg_sl As).length ≤ M.2.2.1) (k : PW M mc ms Q 0 (pw_ent As M.2.2.1) [] n σ 0 0) : CP M mc ms As n σ Q := by
  intro l D aC h0
  refine MetFree.of_bodySF (code := M.2.1) (maxLocals := M.2.2.1) (ret := M.2.2.2.1) hy ?_ ?_
  · intro args s m h hnm
    obtain ⟨meth, c, h1, h2, h3, h4, h5, h6, -, -⟩ := Cond.code_spec hnm (atoms_spec (ws := Cond.code M.1 M.2.1 M.2.2.1 M.2.2.2.1 :: lw_w) h _ List.mem_cons_self)
    exact ⟨meth, c, h1, h2, h3, h4, h5, h6⟩
  · intro p e s m args below meth c s₁ B hml hv _
    obtain ⟨rfl, hW, hK⟩ := hv
    have hts := atoms_spec (ws := Cond.code M.1 M.2.1 M.2.2.1 M.2.2.2.1 :: lw_w) B.pre
    have hsz : s.heap.size = h0 + n := hW.2
    have hl := lv_entry (As.map (pw_tv h0)) (n := M.2.2.1) (by rw [pw_sl_len]; exact hn)
    have hh0 : s₁.heap = s.heap := by rw [B.state]; rfl
    have key := k p l e s m _ below meth c D aC h0 s.heap [] _ ⟨B.exec, B.bytes, hml, findClass_of_methodNamed B.named, fun w hw => hts w (List.mem_cons_of_mem _ hw), hK, B.notSynchronized, B.returns, (name_of_methodNamed B.named B.method).1⟩ (by omega) (by omega) hW va_S.rf ⟨hl.1, hl.2.1, fun i v hi => by
      have h2 := pw_ent_in h0 As M.2.2.1 0 i v hi
      rw [Nat.zero_add] at h2
      exact hl.2.2 _ h2⟩
    obtain ⟨t, a1, o, b1, b2, b3⟩ := key s₁ hh0 (Stand.of_body B)
    rw [lg_entry_eq]
    exact ⟨t, o, a1, b1, b2, ⟨b3.1, b3.2⟩⟩
set_option maxRecDepth 100000 in
set_option maxHeartbeats 4000000 in
theorem t_isNaN {n : Nat} {σ : Sto} {x : UInt32} {s : Bool} {m : Nat} (hx : FZ x s m) : CD mJxf58ca_isNaN_12338 [.float x] n σ (some (.int 0)) σ := by
  refine CP_ofF (by decide +kernel) (Nat.le_of_ble_eq_true rfl) ?_
  change PW _ _ _ _ 0 [_] [] _ _ _ _
  refine P_fload_n (q := 1) dJxf58ca_isNaN_12338_0 rfl rfl ?_
  refine P_fload_n (q := 2) dJxf58ca_isNaN_12338_1 rfl rfl ?_
  refine P_fcmp (q := 3) dJxf58ca_isNaN_12338_2 rfl ?_
  refine P_if_eq (q := 6) (tgt := 10) dJxf58ca_isNaN_12338_3 rfl (by decide) (fun c_3 => ?_) (fun c_3 => ?_)
  · refine P_iconst (q := 11) (v := nI 0) dJxf58ca_isNaN_12338_10 rfl (by decide +kernel) ?_
    refine P_iret dJxf58ca_isNaN_12338_11 rfl (rfl) ?_
    exact ⟨rfl, rfl⟩
  · exact absurd ((cv_0 hx hx).mpr rfl) c_3
set_option maxRecDepth 100000 in
set_option maxHeartbeats 4000000 in
theorem t_f2ib {n : Nat} {σ : Sto} {x : UInt32} {s : Bool} {m : Nat} (hx : FZ x s m) : CD mJxf58ca_floatToIntBits_5c35a [.float x] n σ (some (.int x.toInt32)) σ := by
  refine CP_ofF (by decide +kernel) (Nat.le_of_ble_eq_true rfl) ?_
  change PW _ _ _ _ 0 [_] [] _ _ _ _
  refine P_fload_n (q := 1) dJxf58ca_floatToIntBits_5c35a_0 rfl rfl ?_
  refine P_cs1 (q := 4) dJxf58ca_floatToIntBits_5c35a_1 rfl kJxf58ca_59 (t_isNaN hx) rfl rfl ⟨by decide, by decide⟩ (Nat.le_of_ble_eq_true rfl) ⟨Nat.le_refl _, Nat.le_refl _⟩ ?_
  refine P_if_ne (q := 7) (tgt := 12) dJxf58ca_floatToIntBits_5c35a_4 rfl (by decide) (fun c_4 => ?_) (fun c_4 => ?_)
  · exact absurd rfl c_4
  · refine P_fload_n (q := 8) dJxf58ca_floatToIntBits_5c35a_7 rfl rfl ?_
    refine P_rawf (q := 11) dJxf58ca_floatToIntBits_5c35a_8 rfl kJxf58ca_74 (by decide) (by decide) ?_
    refine P_iret dJxf58ca_floatToIntBits_5c35a_11 rfl (rfl) ?_
    exact ⟨rfl, rfl⟩
