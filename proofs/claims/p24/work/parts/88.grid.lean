/-! A GRID IS MADE -/
/-- a grid of N rows of K ints, made at n: the rows lie behind it -/
def mnS (σ : Sto) (n N K : Nat) : Sto := fun k => if k = n then grR n N else if n + 1 ≤ k ∧ k < n + 1 + N then pI .int K (fun _ => 0) else σ k
theorem mn_at (σ : Sto) (n N K : Nat) : mnS σ n N K n = grR n N := if_pos rfl
theorem mn_row {σ : Sto} {n N K k : Nat} (h : n + 1 ≤ k ∧ k < n + 1 + N) : mnS σ n N K k = pI .int K (fun _ => 0) := (if_neg (by omega)).trans (if_pos h)
theorem mn_ne {σ : Sto} {n N K k : Nat} (h : k < n ∨ n + 1 + N ≤ k) : mnS σ n N K k = σ k := (if_neg (by omega)).trans (if_neg (by omega))
theorem mn_out (c : ClassId) (N h : Nat) : ∀ i, Jvm.Free.Multi.outerC c N h i = arrV c N (fun j => if j < i then .ref (h + 1 + j) else .null)
  | 0 => (arrV_new c N .null).trans (congrArg (arrV c N) (funext fun j => (if_neg (Nat.not_lt_zero j)).symm))
  | i + 1 => by
    show (Jvm.Free.Multi.outerC c N h i).setSlot i (.ref (h + 1 + i)) = _
    rw [mn_out c N h i, arrV_store]
    refine congrArg (arrV c N) (funext fun j => ?_)
    unfold updV
    by_cases e : j = i
    · rw [if_pos e, if_pos (by omega), e]
    · rw [if_neg e]
      dsimp only
      by_cases h2 : j < i
      · rw [if_pos h2, if_pos (by omega)]
      · rw [if_neg h2, if_neg (by omega)]
theorem P_mna {M : Mth} {mc ms : Nat} {Q : Option Value → Sto → Prop} {pc q n cs sl : Nat} {L : List (Option Value)} {S : List Value} {σ : Sto} {idx N K : Nat} {x y : Int32} (d : decode M.2.1 pc = .ok (.multianewarray idx 2, 4)) (hq : pc + 4 = q) (hl : Cond.classLink M.1.cls idx "[[I" ∈ lw_w) (hx : x = nI N) (hy : y = nI K) (hN : N ≤ 10000) (hK : K ≤ 10000) (hc : cs + (1 + N) ≤ mc ∧ sl + (N + N * K) ≤ ms) (kk : PW M mc ms Q q L (.ref n :: S) (n + (1 + N)) (mnS σ n N K) (cs + (1 + N)) (sl + (N + N * K))) : PW M mc ms Q pc L (.int y :: .int x :: S) n σ cs sl := by
  subst hq; subst hx; subst hy
  intro p l e s m args below meth c D aC h0 H locs ls hC hh hz hW hS hL
  have hN0 : ¬ nI N < 0 := fun h => by
    rw [show (0 : Int32) = nI 0 from rfl, nI_ltI (by omega) (by decide)] at h; omega
  have hK0 : ¬ nI K < 0 := fun h => by
    rw [show (0 : Int32) = nI 0 from rfl, nI_ltI (by omega) (by decide)] at h; omega
  have eN : (nI N).toNatClampNeg = N := nI_clamp (by omega)
  have eK : (nI K).toNatClampNeg = K := nI_clamp (by omega)
  have hover : (Cond.arrayOver (.array .int)).before args s = true := hC.2.2.2.2.2.1.2.2 _ (Or.inl rfl)
  have hty : ∀ t0 ty, (pw_tys aC)[t0]? = some (aC ty, ty) → s.vm.findClass ("[" ++ ty.toString) = some (aC ty) := fun t0 ty h => by
    have h2 := (hC.2.2.2.2.2.1.1.2 t0 _ h).2
    cases ty with
    | object C => obtain ⟨kA, comp, -, -, -, h4⟩ := h2; exact h4
    | _ => exact h2
  intro T hT X
  obtain ⟨vm₁, cA, comp, -, fA, fC, -, -, X', step⟩ := X.multianewarray2F hC.1 hC.2.2.2.1 (hC.2.2.2.2.1 _ hl) hover (hC.2.2.2.2.1 _ w_arI) (g := F0 m pc ls ((Value.int (nI K) :: Value.int (nI N) :: S).map (pw_tv h0))) rfl (by rw [hC.2.1]; exact d) (n := nI N) (k := nI K) (rest := S.map (pw_tv h0)) rfl hN0 hK0 (by rw [eN]; omega) (by rw [eK]; show K * 4 ≤ _; omega) (by rw [eK]; omega) rfl rfl (by rw [eN]; exact hc.1) (by rw [eN, eK]; exact hc.2)
  have eA : cA = aC (.array .int) := Option.some.inj (fA.symm.trans (hty 2 _ rfl))
  have eC : comp = aC .int := Option.some.inj (fC.symm.trans (hty 0 _ rfl))
  subst eA; subst eC
  rw [eN, eK] at X' step
  have hTh : (T.setVm vm₁).heap = H := hT
  have hsz : H.size = h0 + n := hW.2
  obtain ⟨f1, f2, -, -⟩ := Jvm.Free.Multi.fill_facts (T.setVm vm₁) (aC (.array .int)) (aC .int) N K (defaultValue .int) N
  have hold := fun x (hx : x < (T.setVm vm₁).heap.size) => Jvm.Free.Multi.fill_old (T.setVm vm₁) (aC (.array .int)) (aC .int) N K (defaultValue .int) (a := x) hx N
  have hrow := Jvm.Free.Multi.fill_inner (T.setVm vm₁) (aC (.array .int)) (aC .int) N K (defaultValue .int) N
  have hout := Jvm.Free.Multi.outerC_slot (aC (.array .int)) N (T.setVm vm₁).heap.size N
  have hof := Jvm.Free.Multi.outerC_facts (aC (.array .int)) N (T.setVm vm₁).heap.size N
  rw [hTh, hsz] at f1 f2 hold hrow hout hof
  generalize Jvm.Free.Multi.fill (T.setVm vm₁) (aC (.array .int)) (aC .int) N K (defaultValue .int) N = F at X' step f1 f2 hold hrow
  have hWn : pw_W D aC h0 (n + (1 + N)) (mnS σ n N K) F.heap := by
    refine ⟨fun k x hx => ?_, by rw [f1]; omega⟩
    obtain ⟨hk, rfl⟩ := pw_wl_in hx
    by_cases h1 : k = n
    · subst h1
      rw [mn_at]
      show F.heap[h0 + k]? = some (vp_cell (aC (.array .int)) (N, .inr (.inr (.inr (.inr (fun j => (if j < N then some (k + 1 + j) else none).map (fun x => h0 + x)))))))
      rw [f2, vp_cell_q, mn_out]
      refine congrArg some (congrArg (arrV _ N) (funext fun j => ?_))
      by_cases hj : j < N
      · rw [if_pos hj, if_pos hj]
        show Value.ref _ = Value.ref _
        rw [show h0 + k + 1 + j = h0 + (k + 1 + j) by omega]
      · rw [if_neg hj, if_neg hj]; rfl
    · by_cases h2 : k < n
      · rw [mn_ne (Or.inl h2)]
        exact (hW.1 k _ (pw_wl_at h2)).kept (hold (h0 + k) (by omega))
      · rw [mn_row (by omega)]
        have h3 := hrow (k - (n + 1)) (by omega)
        rw [show h0 + n + 1 + (k - (n + 1)) = h0 + k by omega] at h3
        show F.heap[h0 + k]? = some (arrV (aC .int) K (fun _ => .int 0))
        rw [h3, ← arrV_new]; rfl
  have hSn : va_S (fun q => h0 ≤ q) s.heap F.heap locs := ⟨by rw [f1]; have := hS.1; omega, fun q h1 h2 => (hold q (by omega)).trans (hS.2.1 q h1 h2), hS.2.2⟩
  have kk' := kk p l e s m args below meth c D aC h0 F.heap locs ls hC hh (by omega) hWn hSn hL
  obtain ⟨t, a1, b1⟩ := kk' F rfl (by simpa [Nat.add_assoc] using X')
  refine ⟨t, step t ?_, b1⟩
  have ea : T.heap.size = h0 + n := by rw [show T.heap = H from hT]; exact hsz
  rw [ea]
  exact a1
