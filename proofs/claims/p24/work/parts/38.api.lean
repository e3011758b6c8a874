variable {eN : Nat}
/-! THE CLASS: sweeps -/
def St.cnc (A : St) (c : Nat) : Nat → Nat
  | 0 => 0
  | n + 1 => A.cnc c n + (if 0 < (A.swc c n).gain c n then 1 else 0)
def St.cnp (A : St) : Nat → Nat
  | 0 => 0
  | n + 1 => A.cnp n + (A.swp n).cnc n A.R
theorem pcN_pow {k : Nat} (hk : k < 64) : pcN 64 (2 ^ k) = 1 := by
  have h := pcN_one (2 ^ k) k 64 hk
  rw [Nat.and_self, Nat.testBit_two_pow_self] at h
  exact h
theorem cnc_tu {A : St} {c : Nat} (hc : c < 10) : ∀ n, n ≤ 3 → (A.swc c n).tu = A.tu + nI (A.cnc c n)
  | 0, _ => (Int32.add_zero _).symm
  | n + 1, h => by
    have ih := cnc_tu (A := A) hc n (by omega)
    show ((A.swc c n).stp c n).tu = A.tu + nI (A.cnc c n + if 0 < (A.swc c n).gain c n then 1 else 0)
    unfold St.stp
    by_cases e : 0 < (A.swc c n).gain c n
    · rw [if_pos e, if_pos e]
      show (A.swc c n).tu + nI (pcN 64 (2 ^ (4 * c + n))) = _
      rw [ih, pcN_pow (by omega), Int32.add_assoc, nI_add]
    · rw [if_neg e, if_neg e, ih]; rfl
theorem cnp_tu {A : St} (hA : A.ok) : ∀ n, n ≤ 10 → (A.swp n).tu = A.tu + nI (A.cnp n)
  | 0, _ => (Int32.add_zero _).symm
  | n + 1, h => by
    have ih := cnp_tu hA n (by omega)
    show ((A.swp n).swc n A.R).tu = _
    rw [cnc_tu (by omega) A.R hA.2.1.2, ih, Int32.add_assoc, nI_add]; rfl
theorem cnc_le (A : St) (c : Nat) : ∀ n, A.cnc c n ≤ n
  | 0 => Nat.le_refl _
  | n + 1 => by
    have := cnc_le A c n
    rw [St.cnc]; split <;> omega
theorem cnp_le {A : St} (hA : A.ok) : ∀ n, A.cnp n ≤ 3 * n
  | 0 => Nat.le_refl _
  | n + 1 => by
    have := cnp_le hA n
    have h2 := cnc_le (A.swp n) n A.R
    have h3 := hA.2.1.2
    rw [St.cnp]; omega
theorem cnc_0 {A : St} {c : Nat} : ∀ n, A.cnc c n = 0 → A.swc c n = A ∧ ∀ r, r < n → ¬ 0 < A.gain c r
  | 0, _ => ⟨rfl, fun r h => by omega⟩
  | n + 1, h => by
    rw [St.cnc] at h
    obtain ⟨h1, h2⟩ := cnc_0 (A := A) (c := c) n (by omega)
    have e : ¬ 0 < (A.swc c n).gain c n := fun q => by rw [if_pos q] at h; omega
    refine ⟨?_, fun r hr => ?_⟩
    · show (A.swc c n).stp c n = A
      unfold St.stp
      rw [if_neg e, h1]
    · by_cases er : r = n
      · subst er; rw [h1] at e; exact e
      · exact h2 r (by omega)
theorem cnp_0 {A : St} : ∀ n, A.cnp n = 0 → A.swp n = A ∧ ∀ c r, c < n → r < A.R → ¬ 0 < A.gain c r
  | 0, _ => ⟨rfl, fun c r h => by omega⟩
  | n + 1, h => by
    rw [St.cnp] at h
    obtain ⟨h1, h2⟩ := cnp_0 (A := A) n (by omega)
    rw [h1] at h
    obtain ⟨h3, h4⟩ := cnc_0 (A := A) (c := n) A.R (by omega)
    refine ⟨?_, fun c r hc hr => ?_⟩
    · show (A.swp n).swc n A.R = A
      rw [h1, h3]
    · by_cases e : c = n
      · subst e; exact h4 r hr
      · exact h2 c r (by omega) hr
theorem cnc_of {A : St} {c : Nat} : ∀ n, (∀ r, r < n → ¬ 0 < A.gain c r) → A.cnc c n = 0 ∧ A.swc c n = A
  | 0, _ => ⟨rfl, rfl⟩
  | n + 1, h => by
    obtain ⟨h1, h2⟩ := cnc_of (A := A) (c := c) n (fun r hr => h r (by omega))
    have e := h n (Nat.lt_succ_self n)
    refine ⟨?_, ?_⟩
    · rw [St.cnc, h1, h2, if_neg e]
    · show (A.swc c n).stp c n = A
      unfold St.stp
      rw [h2, if_neg e]
theorem cnp_of {A : St} : ∀ n, (∀ c r, c < n → r < A.R → ¬ 0 < A.gain c r) → A.cnp n = 0 ∧ A.swp n = A
  | 0, _ => ⟨rfl, rfl⟩
  | n + 1, h => by
    obtain ⟨h1, h2⟩ := cnp_of (A := A) n (fun c r hc hr => h c r (by omega) hr)
    obtain ⟨h3, h4⟩ := cnc_of (A := A) (c := n) A.R (fun r hr => h n r (by omega) hr)
    refine ⟨?_, ?_⟩
    · rw [St.cnp, h1, h2, h3]
    · show (A.swp n).swc n A.R = A
      rw [h2, h4]
theorem sumZ_0 {f : Nat → Int} : ∀ {n : Nat}, (∀ i, i < n → 0 ≤ f i) → sumZ n f = 0 → ∀ i, i < n → f i = 0
  | 0, _, _, i, h => by omega
  | n + 1, h, e, i, hi => by
    have h1 : 0 ≤ sumZ n f := by
      have := sumZ_ge (n := n) (f := f) (b := 0) (fun i hi => h i (by omega))
      omega
    have h2 := h n (Nat.lt_succ_self n)
    rw [sumZ] at e
    by_cases ei : i = n
    · subst ei; omega
    · exact sumZ_0 (n := n) (fun i hi => h i (by omega)) (by omega) i (by omega)
theorem GC_0 (A : St) : A.GC = 0 ↔ A.cnp A.C = 0 := by
  constructor
  · intro h
    refine (cnp_of A.C fun c r hc hr q => ?_).1
    have h1 := sumZ_0 (f := fun c => sumZ A.R (A.pG c)) (fun c _ => by
      have := sumZ_ge (n := A.R) (f := A.pG c) (b := 0) (fun r _ => (bZ_in _).1)
      show 0 ≤ sumZ A.R (A.pG c)
      omega) h c hc
    have h2 := sumZ_0 (f := A.pG c) (fun r _ => (bZ_in _).1) h1 r hr
    unfold St.pG at h2
    rw [decide_eq_true q] at h2
    exact absurd h2 (by first | decide | exact lt_c (by decide))
  · intro h
    have h1 := (cnp_0 A.C h).2
    unfold St.GC
    rw [sumZ_congr (g := fun _ => 0) (fun c hc => ?_), sumZ_zero]
    rw [sumZ_congr (g := fun _ => 0) (fun r hr => ?_), sumZ_zero]
    unfold St.pG
    rw [decide_eq_false (h1 c r hc hr)]; rfl
/-- sweeps, until one turns nothing: the strip, how many cells are turned -/
def St.run : Nat → St → St × Nat
  | 0, A => (A, 0)
  | k + 1, A => if A.cnp A.C = 0 then (A, 0) else ((St.run k (A.swp A.C)).1, A.cnp A.C + (St.run k (A.swp A.C)).2)
theorem run_0 {A : St} (h : A.cnp A.C = 0) : ∀ k, St.run k A = (A, 0)
  | 0 => rfl
  | k + 1 => by rw [St.run, if_pos h]
theorem run_s {A : St} (k : Nat) : St.run (k + 1) A = ((St.run k (A.swp A.C)).1, A.cnp A.C + (St.run k (A.swp A.C)).2) := by
  by_cases h : A.cnp A.C = 0
  · rw [run_0 h, (cnp_0 A.C h).1, run_0 h, h]; rfl
  · rw [St.run, if_neg h]
theorem run_like {A : St} : ∀ (k : Nat) (B : St), A.like B → A.like (St.run k B).1
  | 0, B, h => h
  | k + 1, B, h => by
    rw [run_s]
    refine run_like k (B.swp B.C) ?_
    have h2 := St.swp_like h.1 B.C (Nat.le_refl _)
    exact ⟨h2.1, h2.2.1.trans h.2.1, h2.2.2.1.trans h.2.2.1, h2.2.2.2.1.trans h.2.2.2.1, h2.2.2.2.2.1.trans h.2.2.2.2.1, h2.2.2.2.2.2.1.trans h.2.2.2.2.2.1, h2.2.2.2.2.2.2.trans h.2.2.2.2.2.2⟩
theorem run_le {A : St} (hA : A.ok) : ∀ k, (St.run k A).2 ≤ 30 * k
  | 0 => Nat.le_refl _
  | k + 1 => by
    rw [run_s]
    have h1 := cnp_le hA A.C
    have h2 := hA.1.2
    have h3 := run_le (St.swp_like hA A.C (Nat.le_refl _)).1 k
    show A.cnp A.C + _ ≤ _
    omega
theorem like_md {A B : St} (h : A.like B) (w : Bool) : B.md w = A.md w := by
  obtain ⟨C, R, g, al, ac, sp, fd, tu⟩ := A
  obtain ⟨C', R', g', al', ac', sp', fd', tu'⟩ := B
  obtain ⟨-, h1, h2, h3, h4, h5, h6⟩ := h
  change C' = C at h1
  change R' = R at h2
  change g' = g at h3
  change al' = al at h4
  change ac' = ac at h5
  change fd' = fd at h6
  subst h1 h2 h3 h4 h5 h6
  rfl
def oSweep (w : Cs) (z : Int) : Int32 × Cs := if 1 ≤ z ∧ z ≤ 50 then (if (St.run z.toNat w.A).2 = 0 then (iI (-1005), w) else (nI (St.run z.toNat w.A).2, w.to (St.run z.toNat w.A).1)) else (iI (-1002), w)
theorem run_pos {A : St} {k : Nat} (hk : 0 < k) : (St.run k A).2 = 0 ↔ A.GC = 0 := by
  rw [GC_0]
  obtain ⟨m, rfl⟩ : ∃ m, k = m + 1 := ⟨k - 1, by omega⟩
  rw [St.run]
  by_cases h : A.cnp A.C = 0
  · rw [if_pos h]; exact ⟨fun _ => h, fun _ => rfl⟩
  · rw [if_neg h]; exact ⟨fun q => by have q : A.cnp A.C + _ = 0 := q; omega, fun q => absurd q h⟩
theorem GC_in {A : St} (hA : A.ok) : 0 ≤ A.GC ∧ A.GC ≤ 30 := by
  have h1 : ∀ c, 0 ≤ sumZ A.R (A.pG c) ∧ sumZ A.R (A.pG c) ≤ 3 := fun c => by
    have a := sumZ_ge (n := A.R) (f := A.pG c) (b := 0) (fun r _ => (bZ_in _).1)
    have b := sumZ_le (n := A.R) (f := A.pG c) (b := 1) (fun r _ => (bZ_in _).2)
    have := hA.2.1.2
    omega
  have a := sumZ_ge (n := A.C) (f := fun c => sumZ A.R (A.pG c)) (b := 0) (fun c _ => (h1 c).1)
  have b := sumZ_le (n := A.C) (f := fun c => sumZ A.R (A.pG c)) (b := 3) (fun c _ => (h1 c).2)
  have := hA.1.2
  unfold St.GC
  omega
set_option maxRecDepth 100000 in
set_option maxHeartbeats 4000000 in
theorem w_sweep {σ : Sto} {A F : St} {T m : Nat} {f : Nat → Int32} {k : Bool} (h0 : σ 0 = ssO k) (h2 : σ 2 = pI .int 40 f) (hf : stF A f) (hm : m ≤ 50) {QQ : Option Value → Sto → Prop} (hQ : QQ (some (.int (nI T))) (va_up σ 1 (stO F 2))) : ∀ n j, j + n = m → ∀ (B : St) (s t : Nat), A.like B → (t = 0 → B.cnp B.C = 0) → t ≤ 30 → (St.run n B).1 = F → s + (St.run n B).2 = T → PW mX7_sweep 0 0 QQ 47 [some (.ref 0), some (.int (nI m)), some (.int (nI s)), some (.int (nI t)), some (.int (nI j))] [] (eN + 114) (va_up σ 1 (stO B 2)) 0 0 := by
  intro n
  induction n with
  | zero =>
    intro j hj B s t hB ht ht2 hF hT
    have hT' : s + 0 = T := hT
    have hF' : B = F := hF
    subst hF' hT'
    refine P_iload (q := 49) dX7_sweep_47 rfl rfl ?_
    refine P_iload_n (q := 50) dX7_sweep_49 rfl rfl ?_
    refine P_icmp_ge (q := 53) (tgt := 75) dX7_sweep_50 rfl (by first | decide | exact lt_c (by decide)) (fun c_50 => ?_) (fun c_50 => ?_)
    · rw [nI_leI (by omega) (by omega)] at c_50
      refine P_iload_n (q := 76) dX7_sweep_75 rfl rfl ?_
      refine P_iret dX7_sweep_76 rfl (rfl) ?_
      exact hQ
    · exfalso; rw [nI_leI (by omega) (by omega)] at c_50; omega
  | succ n ih =>
    intro j hj B s t hB ht ht2 hF hT
    have hBo := hB.1
    have hl := St.swp_like hBo B.C (Nat.le_refl _)
    have hcp := cnp_le hBo B.C
    have hBC := hBo.1.2
    have hl2 : A.like (B.swp B.C) := ⟨hl.1, hl.2.1.trans hB.2.1, hl.2.2.1.trans hB.2.2.1, hl.2.2.2.1.trans hB.2.2.2.1, hl.2.2.2.2.1.trans hB.2.2.2.2.1, hl.2.2.2.2.2.1.trans hB.2.2.2.2.2.1, hl.2.2.2.2.2.2.trans hB.2.2.2.2.2.2⟩
    have etu : (B.swp B.C).tu - B.tu = nI (B.cnp B.C) := by
      rw [cnp_tu hBo B.C hBC, Int32.add_comm, Int32.add_sub_cancel]
    have e1 := run_s (A := B) n
    refine P_iload (q := 49) dX7_sweep_47 rfl rfl ?_
    refine P_iload_n (q := 50) dX7_sweep_49 rfl rfl ?_
    refine P_icmp_ge (q := 53) (tgt := 75) dX7_sweep_50 rfl (by first | decide | exact lt_c (by decide)) (fun c_50 => ?_) (fun c_50 => ?_)
    · exfalso; rw [nI_leI (by omega) (by omega)] at c_50; omega
    · rw [nI_leI (by omega) (by omega)] at c_50
      refine P_iload_n (q := 54) dX7_sweep_53 rfl rfl ?_
      refine P_if_le (q := 57) (tgt := 75) dX7_sweep_54 rfl (by first | decide | exact lt_c (by decide)) (fun c_54 => ?_) (fun c_54 => ?_)
      · have et : t = 0 := by rw [show ((0 : Int32)) = nI 0 from rfl, nI_leI (by omega) (by omega)] at c_54; omega
        have ez := run_0 (ht et) (n + 1)
        rw [ez] at hF hT
        have hT' : s + 0 = T := hT
        have hF' : B = F := hF
        subst hF' hT'
        refine P_iload_n (q := 76) dX7_sweep_75 rfl rfl ?_
        refine P_iret dX7_sweep_76 rfl (rfl) ?_
        exact hQ
      · refine P_aload_n (q := 58) dX7_sweep_57 rfl rfl ?_
        refine P_get (q := 61) dX7_sweep_58 rfl fX7_12 (by first | decide | exact lt_c (by decide)) ((up_ne _ _ (by omega)).trans h0) rfl ?_
        refine P_cv1 (q := 64) dX7_sweep_61 rfl kX7_116 (t_fg hBo (up_at _ _ _) ((up_ne _ _ (by omega)).trans h2) (St.like_f hB hf)) rfl rfl (by first | decide | exact lt_c (by decide)) (up_at _ _ _) rfl ⟨by decide, by decide⟩ (Nat.le_of_ble_eq_true rfl) ⟨Nat.le_refl _, Nat.le_refl _⟩ ?_
        rw [etu, up_up]
        refine P_istore_n (q := 65) (L' := [_, _, _, _, _]) dX7_sweep_64 rfl (by first | decide | exact lt_c (by decide)) rfl ?_
        refine P_iload_n (q := 66) dX7_sweep_65 rfl rfl ?_
        refine P_iload_n (q := 67) dX7_sweep_66 rfl rfl ?_
        refine P_iadd (q := 68) dX7_sweep_67 rfl ?_
        rw [show nI s + nI (B.cnp B.C) = nI (s + B.cnp B.C) from nI_add s _]
        refine P_istore_n (q := 69) (L' := [_, _, _, _, _]) dX7_sweep_68 rfl (by first | decide | exact lt_c (by decide)) rfl ?_
        refine P_iinc (q := 72) (L' := [_, _, _, _, _]) (v := nI (j + 1)) dX7_sweep_69 rfl (by first | decide | exact lt_c (by decide)) rfl (nI_1 j) rfl ?_
        refine P_goto (tgt := 47) dX7_sweep_72 (by first | decide | exact lt_c (by decide)) ?_
        refine ih (j + 1) (by omega) (B.swp B.C) _ _ hl2 (fun e => ?_) (by omega) ?_ ?_
        · rw [(cnp_0 B.C e).1]; exact e
        · rw [← hF, e1]
        · rw [← hT, e1]; exact Nat.add_assoc _ _ _
set_option maxRecDepth 100000 in
set_option maxHeartbeats 4000000 in
theorem a_sweep {σ : Sto} {w : Cs} (hW : CW σ w) {z : Int} (z1 : -2147483648 ≤ z) (z2 : z < 2147483648) : CP mX7_sweep 0 0 [.ref 0, .int (iI z)] (eN + 114) σ (OK σ (oSweep w z)) := by
  obtain ⟨h0, hS, hAW, hH, hSn, hT⟩ := id hW
  have hA := hS.1
  obtain ⟨-, f0, e01, e02, ef0⟩ := id hS
  have no : ¬ (1 ≤ z ∧ z ≤ 50) → OK σ (oSweep w z) (some (.int (iI (-1002)))) σ := fun h => by
    unfold oSweep
    rw [if_neg h]
    exact OK.stay hW
  have hg := GC_in hA
  refine CP_of (by decide +kernel) (Nat.le_of_ble_eq_true rfl) ?_
  change PW _ _ _ _ 0 [_, _, _, _, _] [] _ _ _ _
  refine P_iload_n (q := 1) dX7_sweep_0 rfl rfl ?_
  refine P_iconst (q := 2) (v := nI 1) dX7_sweep_1 rfl (by decide +kernel) ?_
  refine P_icmp_lt (q := 5) (tgt := 11) dX7_sweep_2 rfl (by first | decide | exact lt_c (by decide)) (fun c_2 => ?_) (fun c_2 => ?_)
  · rw [iI_nI, iI_lt (by omega) (by omega) (by omega) (by omega)] at c_2
    refine P_sipush (q := 14) (v := iI (-1002)) dX7_sweep_11 rfl (by decide +kernel) ?_
    refine P_iret dX7_sweep_14 rfl (rfl) ?_
    first | exact no (by omega) | (unfold oSweep; rw [if_pos (by omega), if_pos ((run_pos (by omega)).mpr c_22)]; exact OK.stay hW)
  · rw [iI_nI, iI_lt (by omega) (by omega) (by omega) (by omega)] at c_2
    refine P_iload_n (q := 6) dX7_sweep_5 rfl rfl ?_
    refine P_bipush (q := 8) (v := nI 50) dX7_sweep_6 rfl (by decide +kernel) ?_
    refine P_icmp_le (q := 11) (tgt := 15) dX7_sweep_8 rfl (by first | decide | exact lt_c (by decide)) (fun c_8 => ?_) (fun c_8 => ?_)
    · rw [iI_nI, iI_le (by omega) (by omega) (by omega) (by omega)] at c_8
      refine P_aload_n (q := 16) dX7_sweep_15 rfl rfl ?_
      refine P_get (q := 19) dX7_sweep_16 rfl fX7_12 (by first | decide | exact lt_c (by decide)) (h0) rfl ?_
      refine P_cv1 (q := 22) dX7_sweep_19 rfl kX7_113 (t_gaining hA e01 e02 ef0) rfl rfl (by first | decide | exact lt_c (by decide)) (e01) rfl ⟨by decide, by decide⟩ (Nat.le_of_ble_eq_true rfl) ⟨Nat.le_refl _, Nat.le_refl _⟩ ?_
      refine P_if_ne (q := 25) (tgt := 29) dX7_sweep_22 rfl (by first | decide | exact lt_c (by decide)) (fun c_22 => ?_) (fun c_22 => ?_)
      · rw [show ((0 : Int32)) = iI 0 from rfl, iI_inj (by omega) (by omega) (by omega) (by omega)] at c_22
        refine P_aload_n (q := 30) dX7_sweep_29 rfl rfl ?_
        refine P_get (q := 33) dX7_sweep_30 rfl fX7_26 (by first | decide | exact lt_c (by decide)) (h0) rfl ?_
        refine P_aload_n (q := 34) dX7_sweep_33 rfl rfl ?_
        refine P_get (q := 37) dX7_sweep_34 rfl fX7_12 (by first | decide | exact lt_c (by decide)) (h0) rfl ?_
        obtain ⟨m, rfl⟩ : ∃ m : Nat, z = m := ⟨z.toNat, by omega⟩
        rw [← iI_nI]
        refine P_callv (q := 40) dX7_sweep_37 rfl (t_record hS hH) kX7_44 rfl rfl (by first | decide | exact lt_c (by decide)) (hH.choose_spec.choose_spec.2.2.1) rfl ⟨by decide, by decide⟩ (Nat.le_of_ble_eq_true rfl) ⟨Nat.le_refl _, Nat.le_refl _⟩ ?_
        rintro v σ1 ⟨rfl, hH1, t1⟩
        have h01 := (t1 0 (by omega)).trans h0
        have hS1 : SW σ1 1 w.A := hS.congr (t1 1 (by omega)) (t1 2 (by omega))
        have hAW1 : AW σ1 w.A := hAW.congr (fun k a b => t1 k (by omega))
        obtain ⟨-, f1, e11, e12, ef1⟩ := id hS1
        refine P_iconst (q := 41) (v := nI 0) dX7_sweep_40 rfl (by decide +kernel) ?_
        refine P_istore_n (q := 42) (L' := [_, _, _, _, _]) dX7_sweep_41 rfl (by first | decide | exact lt_c (by decide)) rfl ?_
        refine P_iconst (q := 43) (v := nI 1) dX7_sweep_42 rfl (by decide +kernel) ?_
        refine P_istore_n (q := 44) (L' := [_, _, _, _, _]) dX7_sweep_43 rfl (by first | decide | exact lt_c (by decide)) rfl ?_
        refine P_iconst (q := 45) (v := nI 0) dX7_sweep_44 rfl (by decide +kernel) ?_
        refine P_istore (q := 47) (L' := [_, _, _, _, _]) dX7_sweep_45 rfl (by first | decide | exact lt_c (by decide)) rfl ?_
        have hl : w.A.like w.A := ⟨hA, rfl, rfl, rfl, rfl, rfl, rfl⟩
        have hR := run_like m w.A hl
        have ss : same σ (va_up σ1 1 (stO (St.run m w.A).1 2)) (fun i => 1 ≤ i ∧ i ≤ 109) := fun i hi => (up_ne _ _ (by omega)).trans (t1 i (by omega))
        have hQ : OK σ (oSweep w m) (some (.int (nI (St.run m w.A).2))) (va_up σ1 1 (stO (St.run m w.A).1 2)) := by
          unfold oSweep
          rw [if_pos (by omega)]
          simp only [Int.toNat_natCast]
          rw [if_neg (fun q => c_22 ((run_pos (k := m) (by omega)).mp q))]
          exact ⟨rfl, hW.go ss (hS1.re hR.1 hR.2.2.2.2.2.2 hR.2.1 hR.2.2.1) ((hAW1.congr (fun k a b => up_ne _ _ (by omega))).md (like_md hR)) (hH1.congr (fun k a b => up_ne _ _ (by omega))), CW.ss ss⟩
        have h := w_sweep (eN := eN) (σ := σ1) (F := (St.run m w.A).1) (T := (St.run m w.A).2) h01 e12 ef1 (show m ≤ 50 by omega) hQ m 0 (by omega) w.A 0 1 hl (fun q => by omega) (by omega) rfl (Nat.zero_add _)
        rw [up_self e11] at h
        exact h
      · rw [show ((0 : Int32)) = iI 0 from rfl, iI_inj (by omega) (by omega) (by omega) (by omega)] at c_22
        refine P_sipush (q := 28) (v := iI (-1005)) dX7_sweep_25 rfl (by decide +kernel) ?_
        refine P_iret dX7_sweep_28 rfl (rfl) ?_
        first | exact no (by omega) | (unfold oSweep; rw [if_pos (by omega), if_pos ((run_pos (by omega)).mpr c_22)]; exact OK.stay hW)
    · rw [iI_nI, iI_le (by omega) (by omega) (by omega) (by omega)] at c_8
      refine P_sipush (q := 14) (v := iI (-1002)) dX7_sweep_11 rfl (by decide +kernel) ?_
      refine P_iret dX7_sweep_14 rfl (rfl) ?_
      first | exact no (by omega) | (unfold oSweep; rw [if_pos (by omega), if_pos ((run_pos (by omega)).mpr c_22)]; exact OK.stay hW)
