/-! THE LAW'S LOOP; ITS START -/
theorem arr_cls {s : State} {args : Array Value} {ty : FieldType} (h : (Cond.arrayClass ty).before args s = true) : ∃ cA, ArrOfT s cA ty ∧ s.vm.findClass ("[" ++ ty.toString) = some cA := by
  obtain ⟨c, kA, comp, h1, h2, h3⟩ := Cond.arrayClass_spec h
  exact ⟨c, fun n z => ⟨fun k h => (by cases h), kA, h2, comp, h3⟩, h1⟩
theorem arr_aoS {s : State} {args : Array Value} (h : (Cond.arrayOver tyS).before args s = true) : ∃ cA, ArrOfT s cA tyS ∧ va_RA s cA tyS := by
  obtain ⟨comp, c, kA, h1, h2, h3, h4, h5⟩ := Cond.arrayOver_spec h
  exact ⟨c, fun n z => ⟨fun k h => (by cases h), kA, h3, comp, h4⟩, kA, comp, h3, h4, h1, h5⟩
theorem arr_aoI {s : State} {args : Array Value} (hu : (Cond.arrayOver (.array .int)).before args s = true) : ∃ cA, ArrOfT s cA (.array .int) ∧ s.vm.findClass ("[" ++ (FieldType.array .int).toString) = some cA := by
  have e2 : (Cond.arrayOver (.array .int)).before args s = (((s.vm.findClass (FieldType.array .int).toString).bind fun comp => (s.vm.classes.findIdx? fun x => match x.kind with | .array component _ => component == comp | _ => false).bind fun c => (s.vm.classes[c]?).map fun k => match k.kind with | .array _ t => decide (t = .array .int) && decide (s.vm.findClass ("[" ++ (FieldType.array .int).toString) = some c) | _ => false) == some true) := rfl
  rw [e2] at hu
  simp only [beq_iff_eq, Option.bind_eq_some_iff, Option.map_eq_some_iff] at hu
  obtain ⟨comp, h1, c, h2, kA, h3, h4⟩ := hu
  cases hkind : kA.kind with
  | array comp2 t =>
    rw [hkind] at h4
    have h4 : (decide (t = .array .int) && decide (s.vm.findClass ("[" ++ (FieldType.array .int).toString) = some c)) = true := h4
    rw [Bool.and_eq_true] at h4
    obtain ⟨h5, h6⟩ := h4
    have h5 := of_decide_eq_true h5
    subst h5
    exact ⟨c, fun n z => ⟨fun k h => (by cases h), kA, h3, comp2, hkind⟩, of_decide_eq_true h6⟩
  | _ => rw [hkind] at h4; cases h4
def aCf (a0 a1 a2 a3 : ClassId) : FieldType → ClassId
  | .int => a0
  | .char => a1
  | .array _ => a2
  | _ => a3
section LAW
variable {p : Program} {l : Launch} {e : Env} {s : State} {m : MethodId} {below : List Frame} {meth : Method} {c : Code} {D : va_G} {aC : FieldType → ClassId} {b L : Nat} {xs : Nat → Int32}
theorem G_end {i : Nat} {σ : Sto} (C0 : LC p s m c D aC b L xs) (hr : meth.sig.returnType = ret) (hlocks : meth.locks = false) : LG p l e s m below meth c D aC b 753 [] i σ := by
  intro H locs ls hW hS hl
  refine lv_iconst (v := 1) C0.1 C0.2.1 dL_law_753 (by decide) ?_
  refine va_forget (fun q hq => hS.2.2 q hq) ?_
  refine W.widen (k := 600000) (n := 7302250) (by decide) (by decide) ?_
  exact W.base (lw_ret (Drawn.sameBut.refl s.drawn lw_cs) C0.1 C0.2.1 hr hlocks dL_law_754)
theorem G_go {i : Nat} {σ : Sto} (C0 : LC p s m c D aC b L xs) (k : LG p l e s m below meth c D aC b 18 [] (i + 4) σ) : LG p l e s m below meth c D aC b 747 [] i σ := by
  intro H locs ls hW hS hl
  refine lv_iinc (v := nI (i + 4)) (lv' := lw_L s b (i + 4)) C0.1 C0.2.1 dL_law_747 hl (k := 0) rfl (nI_add i 4) (by decide) rfl (fun ls hl => ?_)
  refine lv_goto (tgt := 18) C0.1 C0.2.1 dL_law_750 (by decide) ?_
  exact k H locs ls hW hS hl
set_option maxRecDepth 100000 in
set_option maxHeartbeats 4000000 in
theorem law_loop (C0 : LC p s m c D aC b L xs) (hr : meth.sig.returnType = ret) (hlocks : meth.locks = false) : ∀ (n i : Nat) (w : Cs) (σ : Sto), L + 1 ≤ i + n → i ≤ 3000 → CW σ w → MW σ w → LG p l e s m below meth c D aC b 18 [] i σ := by
  have hL := C0.2.2.2.2.2.2.2.2
  have hbl := C0.2.2.2.2.2.2.2.1
  intro n
  induction n with
  | zero =>
    intro i w σ h1 h2 hw hm H locs ls hW hS hl
    refine lv_iload_n C0.1 C0.2.1 dL_law_18 rfl (lv_at hl 0 rfl) ?_
    refine lv_aload_n C0.1 C0.2.1 dL_law_19 rfl (lv_at hl 3 rfl) ?_
    refine va_slen C0.1 C0.2.1 C0.2.2.2.2.2.2.1 hbl (Nat.not_le.mpr hbl) hS dL_law_20 ?_
    refine lv_iconst (v := nI 4) C0.1 C0.2.1 dL_law_21 (by decide) ?_
    refine lv_isub C0.1 C0.2.1 dL_law_22 ?_
    refine lv_icmp_gt (tgt := 753) C0.1 C0.2.1 dL_law_23 (by decide) (fun _ => ?_) (fun h => ?_)
    · exact G_end C0 hr hlocks H locs ls hW hS hl
    · exfalso
      rw [show Int32.ofNat L = nI L from rfl, iI_nI, iI_nI, iI_nI, iI_sub, iI_lt (by omega) (by omega) (by omega) (by omega)] at h
      omega
  | succ n ih =>
    intro i w σ h1 h2 hw hm H locs ls hW hS hl
    refine lv_iload_n C0.1 C0.2.1 dL_law_18 rfl (lv_at hl 0 rfl) ?_
    refine lv_aload_n C0.1 C0.2.1 dL_law_19 rfl (lv_at hl 3 rfl) ?_
    refine va_slen C0.1 C0.2.1 C0.2.2.2.2.2.2.1 hbl (Nat.not_le.mpr hbl) hS dL_law_20 ?_
    refine lv_iconst (v := nI 4) C0.1 C0.2.1 dL_law_21 (by decide) ?_
    refine lv_isub C0.1 C0.2.1 dL_law_22 ?_
    refine lv_icmp_gt (tgt := 753) C0.1 C0.2.1 dL_law_23 (by decide) (fun _ => ?_) (fun h => ?_)
    · exact G_end C0 hr hlocks H locs ls hW hS hl
    · rw [show Int32.ofNat L = nI L from rfl, iI_nI, iI_nI, iI_nI, iI_sub, iI_lt (by omega) (by omega) (by omega) (by omega)] at h
      have hi : i + 3 < L := by omega
      have kk : ∀ (w' : Cs) (σ' : Sto), CW σ' w' → MW σ' w' → LG p l e s m below meth c D aC b 747 [] i σ' := fun w' σ' a b => G_go C0 (ih (i + 4) w' σ' (by omega) (by omega) a b)
      refine lv_aload_n C0.1 C0.2.1 dL_law_26 rfl (lv_at hl 3 rfl) ?_
      refine lv_iload_n C0.1 C0.2.1 dL_law_27 rfl (lv_at hl 0 rfl) ?_
      refine va_sld C0.1 C0.2.1 C0.2.2.2.2.2.2.1 hbl (Nat.not_le.mpr hbl) hS (vp_in_nI (show i < L by omega) (by omega)) dL_law_28 ?_
      refine lv_bipush (v := nI 31) C0.1 C0.2.1 dL_law_29 (by decide +kernel) ?_
      refine lv_iand C0.1 C0.2.1 dL_law_31 ?_
      generalize xs (nI i).toNatClampNeg = x
      obtain ⟨k, hk, hx⟩ : ∃ k : Nat, k < 32 ∧ x &&& nI 31 = nI k := by
        obtain ⟨z, rfl, -, -⟩ := i32_ex x
        rw [iI_mod, nI_and]
        exact ⟨_, Nat.lt_succ_of_le Nat.and_le_right, rfl⟩
      rw [hx]
      by_cases h21 : 21 ≤ k
      · refine lv_tableOut (tgt := 747) C0.1 C0.2.1 dL_law_32 (Or.inr (by rw [nI_toInt (by omega)]; omega)) (by decide) ?_
        exact kk w σ hw hm H locs ls hW hS hl
      · rcases (show k = 0 ∨ k = 1 ∨ k = 2 ∨ k = 3 ∨ k = 4 ∨ k = 5 ∨ k = 6 ∨ k = 7 ∨ k = 8 ∨ k = 9 ∨ k = 10 ∨ k = 11 ∨ k = 12 ∨ k = 13 ∨ k = 14 ∨ k = 15 ∨ k = 16 ∨ k = 17 ∨ k = 18 ∨ k = 19 ∨ k = 20 by omega) with rfl | rfl | rfl | rfl | rfl | rfl | rfl | rfl | rfl | rfl | rfl | rfl | rfl | rfl | rfl | rfl | rfl | rfl | rfl | rfl | rfl
        · refine lv_tableIn (off := 100) (tgt := 132) C0.1 C0.2.1 dL_law_32 (by decide +kernel) (by decide +kernel) (by decide +kernel) (by decide) ?_
          exact cs_lay C0 hi hw hm kk H locs ls hW hS hl
        · refine lv_tableIn (off := 159) (tgt := 191) C0.1 C0.2.1 dL_law_32 (by decide +kernel) (by decide +kernel) (by decide +kernel) (by decide) ?_
          exact cs_read C0 hi hw hm kk H locs ls hW hS hl
        · refine lv_tableIn (off := 172) (tgt := 204) C0.1 C0.2.1 dL_law_32 (by decide +kernel) (by decide +kernel) (by decide +kernel) (by decide) ?_
          exact cs_close C0 hi hw hm kk H locs ls hW hS hl
        · refine lv_tableIn (off := 211) (tgt := 243) C0.1 C0.2.1 dL_law_32 (by decide +kernel) (by decide +kernel) (by decide +kernel) (by decide) ?_
          exact cs_pull C0 hi hw hm kk H locs ls hW hS hl
        · refine lv_tableIn (off := 260) (tgt := 292) C0.1 C0.2.1 dL_law_32 (by decide +kernel) (by decide +kernel) (by decide +kernel) (by decide) ?_
          exact cs_field C0 hi hw hm kk H locs ls hW hS hl
        · refine lv_tableIn (off := 303) (tgt := 335) C0.1 C0.2.1 dL_law_32 (by decide +kernel) (by decide +kernel) (by decide +kernel) (by decide) ?_
          exact cs_turn C0 hi hw hm kk H locs ls hW hS hl
        · refine lv_tableIn (off := 336) (tgt := 368) C0.1 C0.2.1 dL_law_32 (by decide +kernel) (by decide +kernel) (by decide +kernel) (by decide) ?_
          exact cs_patch C0 hi hw hm kk H locs ls hW hS hl
        · refine lv_tableIn (off := 369) (tgt := 401) C0.1 C0.2.1 dL_law_32 (by decide +kernel) (by decide +kernel) (by decide +kernel) (by decide) ?_
          exact cs_sweep C0 hi hw hm kk H locs ls hW hS hl
        · refine lv_tableIn (off := 392) (tgt := 424) C0.1 C0.2.1 dL_law_32 (by decide +kernel) (by decide +kernel) (by decide +kernel) (by decide) ?_
          exact cs_settle C0 hi hw hm kk H locs ls hW hS hl
        · refine lv_tableIn (off := 405) (tgt := 437) C0.1 C0.2.1 dL_law_32 (by decide +kernel) (by decide +kernel) (by decide +kernel) (by decide) ?_
          exact cs_type C0 hi hw hm kk H locs ls hW hS hl
        · refine lv_tableIn (off := 430) (tgt := 462) C0.1 C0.2.1 dL_law_32 (by decide +kernel) (by decide +kernel) (by decide +kernel) (by decide) ?_
          exact cs_clear C0 hi hw hm kk H locs ls hW hS hl
        · refine lv_tableIn (off := 443) (tgt := 475) C0.1 C0.2.1 dL_law_32 (by decide +kernel) (by decide +kernel) (by decide +kernel) (by decide) ?_
          exact cs_undo C0 hi hw hm kk H locs ls hW hS hl
        · refine lv_tableIn (off := 456) (tgt := 488) C0.1 C0.2.1 dL_law_32 (by decide +kernel) (by decide +kernel) (by decide +kernel) (by decide) ?_
          exact cs_keep C0 hi hw hm kk H locs ls hW hS hl
        · refine lv_tableIn (off := 469) (tgt := 501) C0.1 C0.2.1 dL_law_32 (by decide +kernel) (by decide +kernel) (by decide +kernel) (by decide) ?_
          exact cs_back C0 hi hw hm kk H locs ls hW hS hl
        · refine lv_tableIn (off := 482) (tgt := 514) C0.1 C0.2.1 dL_law_32 (by decide +kernel) (by decide +kernel) (by decide +kernel) (by decide) ?_
          exact cs_cell C0 hi hw hm kk H locs ls hW hS hl
        · refine lv_tableIn (off := 525) (tgt := 557) C0.1 C0.2.1 dL_law_32 (by decide +kernel) (by decide +kernel) (by decide +kernel) (by decide) ?_
          exact cs_col C0 hi hw hm kk H locs ls hW hS hl
        · refine lv_tableIn (off := 548) (tgt := 580) C0.1 C0.2.1 dL_law_32 (by decide +kernel) (by decide +kernel) (by decide +kernel) (by decide) ?_
          exact cs_we C0 hi hw hm kk H locs ls hW hS hl
        · refine lv_tableIn (off := 571) (tgt := 603) C0.1 C0.2.1 dL_law_32 (by decide +kernel) (by decide +kernel) (by decide +kernel) (by decide) ?_
          exact cs_ww C0 hi hw hm kk H locs ls hW hS hl
        · refine lv_tableIn (off := 594) (tgt := 626) C0.1 C0.2.1 dL_law_32 (by decide +kernel) (by decide +kernel) (by decide +kernel) (by decide) ?_
          exact cs_wu C0 hi hw hm kk H locs ls hW hS hl
        · refine lv_tableIn (off := 643) (tgt := 675) C0.1 C0.2.1 dL_law_32 (by decide +kernel) (by decide +kernel) (by decide +kernel) (by decide) ?_
          exact cs_heat C0 hi hw hm kk H locs ls hW hS hl
        · refine lv_tableIn (off := 692) (tgt := 724) C0.1 C0.2.1 dL_law_32 (by decide +kernel) (by decide +kernel) (by decide +kernel) (by decide) ?_
          exact cs_count C0 hi hw hm kk H locs ls hW hS hl
theorem law_new {idx ci n cs sl pc : Nat} {fs rest : List Value} {σ : Sto} {H : Heap} {locs : List Loc} {ls : Array Slot} {Qm : State → Prop} (C0 : LC p s m c D aC b L xs) (d : decode cL_law pc = .ok (.new idx, 3)) (hl : LkN RL idx ci fs) (hf : ∀ h0, fs.map (pw_tv h0) = fs) (hc : cs + 1 ≤ 600000 ∧ sl + fs.length ≤ 7302250) (hn : cs = n) (hW : pw_W D aC s.heap.size n σ H) (hS : va_S (fun q => s.heap.size ≤ q) s.heap H locs)
    (kk : ∀ H1 : Heap, pw_W D aC s.heap.size (n + 1) (va_up σ n (pO ci fs)) H1 → va_S (fun q => s.heap.size ≤ q) s.heap H1 locs → W p l e room_1 s m #[Value.ref b] below meth c H1 locs (cs + 1) (sl + fs.length) Qm (F0 m (pc + 3) ls (.ref (s.heap.size + n) :: rest))) : W p l e room_1 s m #[Value.ref b] below meth c H locs cs sl Qm (F0 m pc ls rest) := by
  obtain ⟨C, T, N, ty, h1, h2, h3, h4, h5, h6, h7, rfl⟩ := hl
  refine va_new C0.1 C0.2.1 C0.2.2.2.2.1 h2 ty h3 C0.2.2.2.1 (C0.2.2.2.2.1 _ h5) (C0.2.2.2.2.1 _ h6) (C0.2.2.2.2.1 _ h7) C0.2.2.2.2.2.1.1 hW.1 (pw_D s.heap.size aC n σ) hS (fun q hq => hq) h1 h4 hc.1 hc.2 d (fun q0 H1 hP hD hS1 => ?_)
  have hx : (Sum.inr (ci, fs) : va_E) = pw_tr s.heap.size aC (pO ci fs) := by
    show _ = (Sum.inr (ci, fs.map (pw_tv s.heap.size)) : va_E)
    rw [hf]
  rw [hx] at hP hD
  refine W_sz fun hz => ?_
  have e := pw_next hP hD (by omega)
  subst e
  rw [pw_wl_push] at hP
  exact kk H1 (pw_W_mk hP hS1.1 (by omega)) hS1
end LAW
set_option maxRecDepth 100000 in
set_option maxHeartbeats 4000000 in
theorem whole_start {p : Program} {e : Env} {s : State} {m : MethodId} {below : List Frame} {meth : Method} {c : Code} (l : Launch) (hflags : l.flags = flags0) {b L : Nat} {xs : Nat → Int32} (hL : L ≤ 2048) (C0 : lw_At p s m meth c b L xs) : W p l e room_1 s m #[Value.ref b] below meth c s.heap [] 0 0 (lw_Z below #[Value.ref b] s) (entryFrame m ([Value.ref b] : List Value).toArray 4) := by
  obtain ⟨hx, hb, hr, hml, hown, hts, hX, hbl, hlocks, hgv⟩ := id C0
  have htw : ∀ w ∈ lw_w, w.before #[Value.ref b] s = true := fun w h => hts w (List.mem_filter.mp h).1
  obtain ⟨c0, iS0, hKn0⟩ := u_known (C := RX0) (T := TX0) (N := 12) (n := 12) htw cls_0.2.1 (htw (.instantiable RX0 12) (lw_w_at (i := 145) (by decide +kernel) (by decide +kernel)))
  obtain ⟨c1, iS1, hKn1⟩ := u_known (C := RX1) (T := TX1) (N := 3) (n := 3) htw cls_1.2.1 (htw (.instantiable RX1 3) (lw_w_at (i := 263) (by decide +kernel) (by decide +kernel)))
  obtain ⟨c2, iS2, hKn2⟩ := u_known (C := RX2) (T := TX2) (N := 3) (n := 3) htw cls_2.2.1 (htw (.instantiable RX2 3) (lw_w_at (i := 209) (by decide +kernel) (by decide +kernel)))
  obtain ⟨c3, iS3, hKn3⟩ := u_known (C := RX3) (T := TX3) (N := 8) (n := 8) htw cls_3.2.1 (htw (.instantiable RX3 8) (lw_w_at (i := 151) (by decide +kernel) (by decide +kernel)))
  obtain ⟨c4, iS4, hKn4⟩ := u_known (C := RX4) (T := TX4) (N := 9) (n := 9) htw cls_4.2.1 (htw (.instantiable RX4 9) (lw_w_at (i := 91) (by decide +kernel) (by decide +kernel)))
  obtain ⟨c5, iS5, hKn5⟩ := u_known (C := RX5) (T := TX5) (N := 2) (n := 2) htw cls_5.2.1 (htw (.instantiable RX5 2) (lw_w_at (i := 195) (by decide +kernel) (by decide +kernel)))
  obtain ⟨c6, iS6, hKn6⟩ := u_known (C := RX6) (T := TX6) (N := 5) (n := 5) htw cls_6.2.1 (htw (.instantiable RX6 5) (lw_w_at (i := 283) (by decide +kernel) (by decide +kernel)))
  obtain ⟨c7, iS7, hKn7⟩ := u_known (C := RX7) (T := TX7) (N := 6) (n := 6) htw cls_7.2.1 (htw (.instantiable RX7 6) (lw_w_at (i := 83) (by decide +kernel) (by decide +kernel)))
  obtain ⟨c8, iS8, hKn8⟩ := u_known (C := RX8) (T := TX8) (N := 24) (n := 24) htw cls_8.2.1 (htw (.instantiable RX8 24) (lw_w_at (i := 723) (by decide +kernel) (by decide +kernel)))
  obtain ⟨dC, dI, hKc⟩ : ∃ (dC : Nat → ClassId) (dI : Nat → Nat → Nat), ∀ (k : Nat) (q : vw_C), vwCl[k]? = some q → u_Kn s q.1 q.2.1 q.2.2 (dC k) (dI k) := by
    refine ⟨fun k => if k = 0 then c0 else if k = 1 then c1 else if k = 2 then c2 else if k = 3 then c3 else if k = 4 then c4 else if k = 5 then c5 else if k = 6 then c6 else if k = 7 then c7 else c8, fun k => if k = 0 then iS0 else if k = 1 then iS1 else if k = 2 then iS2 else if k = 3 then iS3 else if k = 4 then iS4 else if k = 5 then iS5 else if k = 6 then iS6 else if k = 7 then iS7 else iS8, ?_⟩
    intro k q hq
    match k, hq with
    | 0, hq => cases hq; exact hKn0
    | 1, hq => cases hq; exact hKn1
    | 2, hq => cases hq; exact hKn2
    | 3, hq => cases hq; exact hKn3
    | 4, hq => cases hq; exact hKn4
    | 5, hq => cases hq; exact hKn5
    | 6, hq => cases hq; exact hKn6
    | 7, hq => cases hq; exact hKn7
    | 8, hq => cases hq; exact hKn8
    | k + 9, hq => simp [vwCl] at hq
  obtain ⟨a0, r0, q0⟩ := arr_cls (htw _ w_arI)
  obtain ⟨a1, r1, q1⟩ := arr_cls (htw _ w_arC)
  obtain ⟨a2, r2, q2⟩ := arr_aoI (hts _ t_aoI)
  obtain ⟨a3, r3, q3⟩ := arr_aoS (hts _ t_aoS)
  have hK : va_K (dC, dI) vwCl (pw_tys (aCf a0 a1 a2 a3)) s := by
    refine ⟨hKc, fun k q h => ?_⟩
    match k, h with
    | 0, h => cases h; exact ⟨r0, q0⟩
    | 1, h => cases h; exact ⟨r1, q1⟩
    | 2, h => cases h; exact ⟨r2, q2⟩
    | 3, h => cases h; exact ⟨r3, q3⟩
    | k + 4, h => simp [pw_tys] at h
  have hPK : pw_K (dC, dI) (aCf a0 a1 a2 a3) s := by
    refine ⟨hK, fun w hw => ?_, fun ty hty => ?_⟩
    · have h1 := hts w (List.mem_filter.mp hw).1
      have h2 := (List.mem_filter.mp hw).2
      cases w <;> first | exact va_Nw.of rfl h1 | cases h2
    · rcases hty with rfl | rfl
      · exact hts _ t_aoI
      · exact hts _ t_aoS
  have CC : LC p s m c (dC, dI) (aCf a0 a1 a2 a3) b L xs := ⟨hx, hb, hml, hown, htw, hPK, hX, hbl, hL⟩
  have hS : va_S (fun q : Nat => s.heap.size ≤ q) s.heap s.heap [] := va_S.rf
  have hl := lv_entry ([.ref b]) (n := 4) (Nat.le_of_ble_eq_true rfl)
  rw [lg_entry_eq]
  generalize (lg_sl ([.ref b]) ++ List.replicate (4 - (lg_sl ([.ref b])).length) Slot.unset).toArray = ls at hl ⊢
  have hl : lv_has ls 4 [(0, .ref b)] := hl
  have hW0 : pw_W (dC, dI) (aCf a0 a1 a2 a3) s.heap.size 0 (fun _ => pO 0 []) s.heap := ⟨fun k q h => by simp [pw_wl] at h, rfl⟩
  refine law_new (fs := [.null, .null, .null, .null, .int 0, .null]) CC dL_law_0 nL_7 (fun _ => rfl) ⟨by decide, by decide⟩ rfl hW0 hS (fun H1 hW1 hS1 => ?_)
  refine lv_dup hx hb dL_law_3 rfl ?_
  refine pw_after (pw_calli (S := [.ref 0]) (As := []) (b := 0) hx hb hml hown htw hPK hW1 hl.1 (c_class (up_at _ _ _)) kL_9 rfl ⟨by decide, by decide⟩ (Nat.le_of_ble_eq_true rfl) dL_law_4 ⟨by decide, by decide⟩) hS1 hW1 (fun v σ1 H2 locs2 hQ hW2 hS2 => ?_)
  obtain ⟨rfl, hC1⟩ := hQ
  refine lv_astore_n (lv' := [(1, .ref (s.heap.size + 0)), (0, .ref b)]) hx hb dL_law_7 rfl hl (by decide) rfl (fun ls hl => ?_)
  refine law_new (fs := [.null, .null, .null, .int 0, .null, .int 0, .null, .null, .null, .null, .null, .null, .null, .null, .null, .null, .null, .null, .int 0, .null, .int 0, .int 0, .int 0, .int 0]) CC dL_law_8 nL_10 (fun _ => rfl) ⟨by decide, by decide⟩ (n := 114) rfl hW2 hS2 (fun H3 hW3 hS3 => ?_)
  refine lv_dup hx hb dL_law_11 rfl ?_
  refine pw_after (pw_calli (S := [.ref 114]) (As := []) (b := 114) hx hb hml hown htw hPK hW3 hl.1 (c_model (up_at _ _ _)) kL_12 rfl ⟨by decide, by decide⟩ (Nat.le_of_ble_eq_true rfl) dL_law_12 ⟨by decide, by decide⟩) hS3 hW3 (fun v σ2 H4 locs4 hQ hW4 hS4 => ?_)
  obtain ⟨rfl, hsm, hM2⟩ := hQ
  have hC2 : CW σ2 w0 := hC1.congr (fun k hk => (hsm k (by omega)).trans (up_ne _ _ (by omega)))
  refine lv_astore_n (lv' := [(2, .ref (s.heap.size + 114)), (1, .ref (s.heap.size + 0)), (0, .ref b)]) hx hb dL_law_15 rfl hl (by decide) rfl (fun ls hl => ?_)
  refine lv_iconst (v := nI 0) hx hb dL_law_16 (by decide) ?_
  refine lv_istore_n (lv' := lw_L s b 0) hx hb dL_law_17 rfl hl (by decide) rfl (fun ls hl => ?_)
  exact law_loop CC hr hlocks (L + 1) 0 w0 σ2 (by omega) (by omega) hC2 hM2 H4 locs4 ls hW4 hS4 hl
set_option maxHeartbeats 4000000 in
theorem lw_walk (l : Launch) (hflags : l.flags = flags0) (b : Addr) (xs : List Int32) : MetFree l x (headSpec (Jvm.Cond.code x code maxLocals ret :: tables_1) room_1) (lw_P b xs) (fun _ _ _ _ _ => True) lw_Q := by
  refine MetFree.of_bodyS (code := code) (maxLocals := maxLocals) (ret := ret) (by decide) ?_ ?_
  · intro args s m h hn
    obtain ⟨meth, c, h1, h2, h3, h4, h5, h6, -, -⟩ := Cond.code_spec hn (atoms_spec (ws := Jvm.Cond.code x code maxLocals ret :: tables_1) h _ List.mem_cons_self)
    exact ⟨meth, c, h1, h2, h3, h4, h5, h6⟩
  · intro p e s m args below meth c s₁ B hml0 hP _
    obtain ⟨rfl, hx, hbd, hgv⟩ := hP
    obtain ⟨scr, harrAt, hlist, hof, hsmall⟩ := hx
    obtain ⟨hcb, hkn, -, -⟩ := State.arrayAt?_spec harrAt
    have hown : s.vm.findClass R_law = some m.cls := findClass_of_methodNamed B.named
    have hts0 : ∀ c ∈ (Jvm.Cond.code x code maxLocals ret :: tables_1), c.before #[Value.ref b] s = true := atoms_spec (ws := Jvm.Cond.code x code maxLocals ret :: tables_1) B.pre
    have hts : ∀ w ∈ lw_tbl, w.before #[Value.ref b] s = true := k2_hts_sels lw_privs (fun w hw => hts0 w (List.mem_cons_of_mem _ hw)) lw_privs_ok
    have hml : c.maxLocals = 4 := B.maxLocals_eq (hts0 _ List.mem_cons_self)
    have X₀ : Stand p l e room_1 s m #[Value.ref b] below meth c s₁ [] 0 0 := Stand.of_body B
    have hh0 : s₁.heap = s.heap := by rw [B.state]; rfl
    have hsz : scr.slots.size = xs.length := by rw [← Array.length_toList, hlist, List.length_map]
    have hval : ∀ j : Nat, j < xs.length → scr.slots[j]? = some (.int (xs.getD j 0)) := fun j hj => by
      rw [← Array.getElem?_toList, hlist]
      simp [hj]
    have hbl : b < s.heap.size := (Array.getElem?_eq_some_iff.mp hcb).1
    have hX : va_X b xs.length (fun j => xs.getD j 0) s s.heap := ⟨scr, hcb, hof, hkn, hsz, hval⟩
    have K : W p l e room_1 s m #[Value.ref b] below meth c s₁.heap [] 0 0 (lw_Z below #[Value.ref b] s) (entryFrame m ([Value.ref b] : List Value).toArray 4) := by
      rw [hh0]
      exact whole_start l hflags hbd ⟨B.exec, B.bytes, B.returns, hml, hown, hts, hX, hbl, B.notSynchronized, hgv⟩
    obtain ⟨t, a1, o, b1, b2, b3⟩ := K s₁ rfl X₀
    exact ⟨t, o, a1, b1, b2, b3⟩
theorem lw_pre_spec {args : Array Value} {s : State} (h : (Jvm.Cond.and given_1 narrow_1).before args s = true) (hr : rest_1_c.before args s = true) : ∃ (b : Addr) (xs : List Int32), lw_P b xs args s := by
  have hs := flat_of_before _ h
  have hq := flat_of_before _ hr
  have hc : (Cond.count 1).before args s = true := hs _ (by decide +kernel)
  have harr : (Cond.arrayOf (.arg 0) .int).before args s = true := hs _ (by decide +kernel)
  have hle : (Cond.le (.length (.arg 0)) (.int 2048)).before args s = true := hs _ (by decide +kernel)
  have hlen : (Cond.isInt (.length (.arg 0))).before args s = true := hq _ (by decide +kernel)
  have hall : (Cond.all (.arg 0) (.isInt (.elem (.arg 0) (.index 0)))).before args s = true := hq _ (by decide +kernel)
  obtain ⟨b, xs, hb, hx⟩ := State.ints_of_pre rfl harr hlen hall
  have hsm : xs.length < 2 ^ 31 := hx.choose_spec.2.2.2
  have hev : (Term.length (.arg 0)).eval args s none [] s = some (.int xs.length.toInt32) := hx.length_eval hb
  have hv := Cond.le_ints hev (show (Term.int 2048).eval args s none [] s = some (.int 2048) from rfl)
  have hd : xs.length.toInt32 ≤ 2048 := by
    simpa [Cond.before, Cond.holds, hv] using hle
  have hN : xs.length ≤ 2048 := (Int32.ofNat_le_ofNat hsm (by decide)).mp (show Int32.ofNat xs.length ≤ Int32.ofNat 2048 from hd)
  exact ⟨b, xs, Cond.one_arg hc (show args[0]? = some (.ref b) from hb), hx, hN, h⟩
theorem lw_comes (l : Launch) (hflags : l.flags = flags0) : Comes l x (Jvm.Cond.code x code maxLocals ret :: tables_1) room_1 (fun tb e args s => Calls_1 tb e args s ∧ rest_1 tb e args s ∧ Pre_1 tb e args s)
    (fun _ _ args s o t => lw_Q args s o t) := by
  intro p e ha hc hk s m args below hf hfit hheap happ hpre
  obtain ⟨b, xs, hP⟩ := lw_pre_spec hpre.2.2 hpre.2.1
  obtain ⟨k, o, h1, h2, h3, hQ⟩ := lw_walk l hflags b xs p e ha hc hk s m args below hf ((Spec.applies_iff_loose hf).mp happ).1 hP trivial
  exact ⟨k, o, h1, h2, h3, hQ⟩
theorem lw_frame {s t : State} {o : Outcome} {args : Array Value} (h : State.butDraws s t lw_cs (fun t1 => Framed s o t1 [] 600000 7302250)) :
    State.butDraws s t [Jvm.Choice.named "NaN.bits"] (fun t1 => Framed s o t1 (fieldLocs frame_1_writes args s ++ arrayLocs frame_1_arrays args s ++ staticLocs frame_1_statics s) 600000 7302250) := h
theorem lw_limb (L : Cond) (hL : ∀ (args : Array Value) (s t : State), L.after args s (.returned (some (.int 1))) t = true) :
    ArmFor flags0 classFile x code maxLocals ret World_1 tables_1 room_1 Calls_1 rest_1 Pre_1
      (fun tb e a s o t => postC L tb e a s o t ∧ State.butDraws s t [Jvm.Choice.named "NaN.bits"] (fun t1 => Framed s o t1 (fieldLocs frame_1_writes a s ++ arrayLocs frame_1_arrays a s ++ staticLocs frame_1_statics s) 600000 7302250)) := by
  intro l hflags _ _ p e ha hc hk s m args below hf hfit hheap happ hpre
  obtain ⟨k, o, h1, h2, h3, rfl, hF⟩ := lw_comes l hflags p e ha hc hk s m args below hf hfit hheap happ hpre
  exact ⟨k, _, h1, h2, h3, hL args s _, lw_frame hF⟩
theorem i_vc : Claimed_1_1 ∧ Claimed_1_2 := ⟨lw_limb limb_1_1 (fun args s t => by simp [limb_1_1, Cond.after, Cond.holds, Cond.value]), lw_limb limb_1_2 (fun args s t => Cond.after_iff.mpr (by
  first | (rw [show limb_1_2 = Cond.eq .result (.int 1) from rfl, Cond.eq_ints (x := 1) (y := 1) rfl rfl]; simp; done) | (simp [limb_1_2, Cond.value, Term.eval]; done)))⟩
