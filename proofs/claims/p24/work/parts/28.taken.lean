variable {eN : Nat}
/-! PRICES taken from a strip -/
def PrS (σ : Sto) (b : Nat) : Prop := (∃ x0 x1 x2 x3 x4 : Value, σ b = pO 3 [x0, x1, x2, x3, x4, .ref (b + 1), .ref (b + 2), .ref (b + 13)]) ∧ (∃ g : Nat → Int32, σ (b + 1) = pI .int 10 g) ∧ (∃ F, GP σ (b + 2) 10 8 (fun _ _ => False) F) ∧ ∃ F, GP σ (b + 13) 8 8 (fun _ _ => False) F
theorem PrW.s {σ : Sto} {b : Nat} {m : Md} (h : PrW σ b m) : PrS σ b := by
  obtain ⟨h1, ⟨g, h2, -⟩, h3, h4⟩ := h
  exact ⟨⟨_, _, _, _, _, h1⟩, ⟨g, h2⟩, ⟨m.ci, h3.gp⟩, ⟨m.cb, h4.gp⟩⟩
theorem PrS.congr {σ τ : Sto} {b : Nat} (h : PrS σ b) (he : ∀ k, b ≤ k → k ≤ b + 21 → τ k = σ k) : PrS τ b := by
  obtain ⟨⟨x0, x1, x2, x3, x4, h1⟩, ⟨g, h2⟩, ⟨F, h3⟩, ⟨F', h4⟩⟩ := h
  exact ⟨⟨x0, x1, x2, x3, x4, (he b (by omega) (by omega)).trans h1⟩, ⟨g, (he _ (by omega) (by omega)).trans h2⟩, ⟨F, h3.congr (fun k a c => he k (by omega) (by omega))⟩, ⟨F', h4.congr (fun k a c => he k (by omega) (by omega))⟩⟩
theorem sh1 {R : Nat} (h : R ≤ 3) : nI 1 <<< (nI R &&& 31) = nI (2 ^ R) := by
  have : R = 0 ∨ R = 1 ∨ R = 2 ∨ R = 3 := by omega
  rcases this with rfl | rfl | rfl | rfl <;> decide
theorem nar_bI (b : Bool) : narrow .boolean (.int (bI b)) = .int (bI b) := by cases b <;> rfl
theorem fit_bI (b : Bool) : fits .boolean (.int (bI b)) = true := by cases b <;> rfl
def St.Fc (A : St) (w : Bool) (c : Nat) : Nat → Nat → Nat := fun i y => caF (A.wc w) A.R y + (if i < c then A.wf w i y A.R else 0)
theorem Fc_FM {A : St} {c i y : Nat} : A.FM (caF (A.wc false) A.R) c 0 0 i y = A.Fc false c i y := by
  unfold St.FM St.Fc
  by_cases e1 : i < c
  · rw [if_pos e1, if_pos e1]; rfl
  · rw [if_neg e1, if_neg e1]
    by_cases e2 : i = c
    · rw [if_pos e2, if_neg (by omega)]; rfl
    · rw [if_neg e2]
theorem Fc_w {A : St} {c c' i y : Nat} : A.Fc true c i y = A.Fc true c' i y := by
  unfold St.Fc St.wf
  simp
theorem reach_s (A : St) (w : Bool) (c : Nat) : A.reach w (c + 1) = A.reach w c + ((if c = 0 then (A.R - 1) * (A.wc w).natAbs else (A.R - 1) * (A.wc w).natAbs + A.R * (A.wl w).natAbs) + A.wr w c) := rfl
set_option maxRecDepth 100000 in
set_option maxHeartbeats 4000000 in
theorem w_tf {σ0 : Sto} {A : St} {f : Nat → Int32} {b : Nat} {w : Bool} (hA : A.ok) (h1 : σ0 1 = stO A 2) (h2 : σ0 2 = pI .int 40 f) (hf : stF A f) (hb : b = 4 ∨ b = 26) {x4 : Value} : ∀ n c, c + n = A.C → ∀ σ, same σ0 σ (fun i => b ≤ i ∧ i ≤ b + 21) → σ b = prX A.C A.R (.int (bI A.lp)) x4 b → GP σ (b + 13) 8 8 (fun i j => i < 2 ^ A.R ∧ j < 2 ^ A.R) (cbF (A.wl w) A.R) → GP σ (b + 2) 10 8 (fun i j => i < A.C ∧ j < 2 ^ A.R) (A.Fc w c) → (∃ g : Nat → Int32, σ (b + 1) = pI .int 10 g ∧ ∀ i, i < c → g i = nI (A.reach w (i + 1))) → PW mX3_takeFrom 0 0 (fun v σ' => v = none ∧ same σ0 σ' (fun i => b ≤ i ∧ i ≤ b + 21) ∧ PrW σ' b (A.md w)) 103 [some (.ref b), some (.ref 1), some (.int (bI w)), some (.int (iI (A.wl w))), some (.int (iI (A.wc w))), some (.int (nI (A.R * (A.wl w).natAbs))), some (.int (nI ((A.R - 1) * (A.wc w).natAbs))), some (.int (nI (A.reach w c))), some (.int (nI c))] [] (eN + 114) σ 0 0 := by
  have hC := hA.1.2
  have hR := hA.2.1.2
  have hm := A.md_ok hA w
  intro n
  induction n with
  | zero =>
    intro c hc σ hs hO hB hI hr
    have e : c = A.C := by omega
    subst e
    obtain ⟨g, g1, g2⟩ := hr
    have done : ∀ x : Nat, x = (A.md w).wr → PrW (va_up σ b (pO 3 [.int (nI A.C), .int (nI A.R), .int (nI (2 ^ A.R)), .int (bI A.lp), .int (nI x), .ref (b + 1), .ref (b + 2), .ref (b + 13)])) b (A.md w) := fun x hx => by
      subst hx
      refine ⟨up_at _ _ _, ⟨g, (up_ne _ _ (by omega)).trans g1, fun i hi => g2 i hi⟩, (hI.congr (fun k h1 h2 => up_ne _ _ (by omega))).imp (fun i j h => ⟨h, ?_⟩) |>.gw, (hB.congr (fun k h1 h2 => up_ne _ _ (by omega))).gw⟩
      show caF (A.wc w) A.R j + A.wf w i j A.R = A.Fc w A.C i j
      unfold St.Fc
      rw [if_pos h.1]
    refine P_iload (q := 105) dX3_takeFrom_103 rfl rfl ?_
    refine P_aload_n (q := 106) dX3_takeFrom_105 rfl rfl ?_
    refine P_get (q := 109) dX3_takeFrom_106 rfl fX3_9 (by omega) (hO) rfl ?_
    refine P_icmp_ge (q := 112) (tgt := 163) dX3_takeFrom_109 rfl (by first | decide | exact lt_c (by decide)) (fun c_109 => ?_) (fun c_109 => ?_)
    · rw [nI_leI (by omega) (by omega)] at c_109
      refine P_aload_n (q := 164) dX3_takeFrom_163 rfl rfl ?_
      refine P_aload_n (q := 165) dX3_takeFrom_164 rfl rfl ?_
      refine P_get (q := 168) dX3_takeFrom_165 rfl fX3_21 (by omega) (hO) rfl ?_
      refine P_if_eq (q := 171) (tgt := 179) dX3_takeFrom_168 rfl (by first | decide | exact lt_c (by decide)) (fun c_168 => ?_) (fun c_168 => ?_)
      · rw [bI_0] at c_168
        refine P_iload (q := 181) dX3_takeFrom_179 rfl rfl ?_
        try rw [nI_add]
        refine P_put (q := 184) (fs' := [_, _, _, _, _, _, _, _]) dX3_takeFrom_181 rfl gX3_25 (by omega) (hO) (fun _ => rfl) (fun _ => rfl) (Nat.le_of_ble_eq_true rfl) rfl (rfl) ?_
        refine P_vret dX3_takeFrom_184 rfl ?_
        refine ⟨rfl, hs.up (by omega), done _ ?_⟩
        show _ = if A.lp then A.reach w A.C + A.R * (A.wl w).natAbs else A.reach w A.C
        rw [c_168]
        rfl
      · rw [bI_n] at c_168
        refine P_iload (q := 173) dX3_takeFrom_171 rfl rfl ?_
        refine P_iload (q := 175) dX3_takeFrom_173 rfl rfl ?_
        refine P_iadd (q := 176) dX3_takeFrom_175 rfl ?_
        refine P_goto (tgt := 181) dX3_takeFrom_176 (by first | decide | exact lt_c (by decide)) ?_
        try rw [nI_add]
        refine P_put (q := 184) (fs' := [_, _, _, _, _, _, _, _]) dX3_takeFrom_181 rfl gX3_25 (by omega) (hO) (fun _ => rfl) (fun _ => rfl) (Nat.le_of_ble_eq_true rfl) rfl (rfl) ?_
        refine P_vret dX3_takeFrom_184 rfl ?_
        refine ⟨rfl, hs.up (by omega), done _ ?_⟩
        show _ = if A.lp then A.reach w A.C + A.R * (A.wl w).natAbs else A.reach w A.C
        rw [c_168]
        rfl
    · exfalso; rw [nI_leI (by omega) (by omega)] at c_109; omega
  | succ n ih =>
    intro c hc σ hs hO hB hI hr
    have hc' : c < A.C := by omega
    obtain ⟨g, g1, g2⟩ := hr
    have s1 := (hs 1 (by omega)).trans h1
    have s2 := (hs 2 (by omega)).trans h2
    have fin : ∀ (σ1 : Sto) (x : Nat), same σ σ1 (fun i => b + 3 ≤ i ∧ i ≤ b + 12) → GP σ1 (b + 2) 10 8 (fun i j => i < A.C ∧ j < 2 ^ A.R) (A.Fc w (c + 1)) → x = A.reach w (c + 1) → PW mX3_takeFrom 0 0 (fun v σ' => v = none ∧ same σ0 σ' (fun i => b ≤ i ∧ i ≤ b + 21) ∧ PrW σ' b (A.md w)) 148 [some (.ref b), some (.ref 1), some (.int (bI w)), some (.int (iI (A.wl w))), some (.int (iI (A.wc w))), some (.int (nI (A.R * (A.wl w).natAbs))), some (.int (nI ((A.R - 1) * (A.wc w).natAbs))), some (.int (nI x)), some (.int (nI c))] [] (eN + 114) σ1 0 0 := by
      intro σ1 x hs1 hI1 hx
      subst hx
      have hO1 := (hs1 b (by omega)).trans hO
      have g1' := (hs1 (b + 1) (by omega)).trans g1
      refine P_aload_n (q := 149) dX3_takeFrom_148 rfl rfl ?_
      refine P_get (q := 152) dX3_takeFrom_149 rfl fX3_28 (by omega) (hO1) rfl ?_
      refine P_iload (q := 154) dX3_takeFrom_152 rfl rfl ?_
      refine P_iload (q := 156) dX3_takeFrom_154 rfl rfl ?_
      refine P_iast (q := 157) (j := c) dX3_takeFrom_156 rfl (by omega) (g1') (rfl) (by omega) (by first | decide | exact lt_c (by decide)) (rfl) (rfl) ?_
      refine P_iinc (q := 160) (L' := [_, _, _, _, _, _, _, _, _]) (v := nI (c + 1)) dX3_takeFrom_157 rfl (by first | decide | exact lt_c (by decide)) rfl (nI_1 c) rfl ?_
      refine P_goto (tgt := 103) dX3_takeFrom_160 (by first | decide | exact lt_c (by decide)) ?_
      refine ih (c + 1) (by omega) _ ((hs.trans (hs1.mono (fun i h => by omega))).up (by omega)) ((up_ne _ _ (by omega)).trans hO1) (hB.congr (fun k h1 h2 => (up_ne _ _ (by omega)).trans (hs1 k (by omega)))) (hI1.congr (fun k h1 h2 => up_ne _ _ (by omega))) ⟨_, up_at _ _ _, fun i hi => ?_⟩
      unfold upd
      by_cases e : i = c
      · rw [if_pos e, e]
      · rw [if_neg e, g2 i (by omega)]
    refine P_iload (q := 105) dX3_takeFrom_103 rfl rfl ?_
    refine P_aload_n (q := 106) dX3_takeFrom_105 rfl rfl ?_
    refine P_get (q := 109) dX3_takeFrom_106 rfl fX3_9 (by omega) (hO) rfl ?_
    refine P_icmp_ge (q := 112) (tgt := 163) dX3_takeFrom_109 rfl (by first | decide | exact lt_c (by decide)) (fun c_109 => ?_) (fun c_109 => ?_)
    · exfalso; rw [nI_leI (by omega) (by omega)] at c_109; omega
    · rw [nI_leI (by omega) (by omega)] at c_109
      refine P_iload (q := 114) dX3_takeFrom_112 rfl rfl ?_
      refine P_iload (q := 116) dX3_takeFrom_114 rfl rfl ?_
      refine P_if_ne (q := 119) (tgt := 124) dX3_takeFrom_116 rfl (by first | decide | exact lt_c (by decide)) (fun c_116 => ?_) (fun c_116 => ?_)
      · change ¬ nI c = nI 0 at c_116; rw [nI_eq (by omega) (by first | decide | exact lt_c (by decide))] at c_116
        refine P_iload (q := 126) dX3_takeFrom_124 rfl rfl ?_
        refine P_iload (q := 128) dX3_takeFrom_126 rfl rfl ?_
        refine P_iadd (q := 129) dX3_takeFrom_128 rfl ?_
        refine P_iadd (q := 130) dX3_takeFrom_129 rfl ?_
        rw [nI_add]
        try rw [nI_add]
        refine P_istore (q := 132) (L' := [_, _, _, _, _, _, _, _, _]) dX3_takeFrom_130 rfl (by first | decide | exact lt_c (by decide)) rfl ?_
        refine P_iload_n (q := 133) dX3_takeFrom_132 rfl rfl ?_
        refine P_if_ne (q := 136) (tgt := 148) dX3_takeFrom_133 rfl (by first | decide | exact lt_c (by decide)) (fun c_133 => ?_) (fun c_133 => ?_)
        · rw [bI_n] at c_133
          exact fin σ _ same.rf (hI.imp (fun i j h => ⟨h, by rw [c_133]; exact Fc_w⟩)) (by rw [reach_s]; (first | rw [if_pos c_116] | rw [if_neg c_116]); unfold St.wr; rw [if_pos c_133]; rfl)
        · rw [bI_0] at c_133
          refine P_iload (q := 138) dX3_takeFrom_136 rfl rfl ?_
          refine P_aload_n (q := 139) dX3_takeFrom_138 rfl rfl ?_
          refine P_aload_n (q := 140) dX3_takeFrom_139 rfl rfl ?_
          refine P_iload (q := 142) dX3_takeFrom_140 rfl rfl ?_
          have hIp : GP σ (b + 2) 10 8 (fun i j => i < A.C ∧ j < 2 ^ A.R) (A.FM (caF (A.wc w) A.R) c 0 0) := hI.imp (fun i j h => ⟨h, by rw [c_133]; exact Fc_FM⟩)
          refine P_callv (q := 145) dX3_takeFrom_142 rfl (t_priceFields hA s1 s2 hf hb hc' hO hIp) kX3_66 rfl rfl (by omega) hO rfl ⟨by decide, by decide⟩ (Nat.le_of_ble_eq_true rfl) ⟨Nat.le_refl _, Nat.le_refl _⟩ ?_
          rintro v σ1 ⟨rfl, t1, t2⟩
          refine P_iadd (q := 146) dX3_takeFrom_145 rfl ?_
          rw [show ∀ x y : Nat, nI x + nI y = nI (x + y) from nI_add]
          refine P_istore (q := 148) (L' := [_, _, _, _, _, _, _, _, _]) dX3_takeFrom_146 rfl (by first | decide | exact lt_c (by decide)) rfl ?_
          exact fin σ1 _ t1 (t2.imp (fun i j h => ⟨h, by rw [c_133]; exact Fc_FM.symm⟩)) (by rw [reach_s]; (first | rw [if_pos c_116] | rw [if_neg c_116]); unfold St.wr; rw [if_neg (by rw [c_133]; decide), Nat.add_assoc])
      · change nI c = nI 0 at c_116; rw [nI_eq (by omega) (by first | decide | exact lt_c (by decide))] at c_116
        refine P_iload (q := 121) dX3_takeFrom_119 rfl rfl ?_
        refine P_goto (tgt := 129) dX3_takeFrom_121 (by first | decide | exact lt_c (by decide)) ?_
        refine P_iadd (q := 130) dX3_takeFrom_129 rfl ?_
        rw [nI_add]
        try rw [nI_add]
        refine P_istore (q := 132) (L' := [_, _, _, _, _, _, _, _, _]) dX3_takeFrom_130 rfl (by first | decide | exact lt_c (by decide)) rfl ?_
        refine P_iload_n (q := 133) dX3_takeFrom_132 rfl rfl ?_
        refine P_if_ne (q := 136) (tgt := 148) dX3_takeFrom_133 rfl (by first | decide | exact lt_c (by decide)) (fun c_133 => ?_) (fun c_133 => ?_)
        · rw [bI_n] at c_133
          exact fin σ _ same.rf (hI.imp (fun i j h => ⟨h, by rw [c_133]; exact Fc_w⟩)) (by rw [reach_s]; (first | rw [if_pos c_116] | rw [if_neg c_116]); unfold St.wr; rw [if_pos c_133]; rfl)
        · rw [bI_0] at c_133
          refine P_iload (q := 138) dX3_takeFrom_136 rfl rfl ?_
          refine P_aload_n (q := 139) dX3_takeFrom_138 rfl rfl ?_
          refine P_aload_n (q := 140) dX3_takeFrom_139 rfl rfl ?_
          refine P_iload (q := 142) dX3_takeFrom_140 rfl rfl ?_
          have hIp : GP σ (b + 2) 10 8 (fun i j => i < A.C ∧ j < 2 ^ A.R) (A.FM (caF (A.wc w) A.R) c 0 0) := hI.imp (fun i j h => ⟨h, by rw [c_133]; exact Fc_FM⟩)
          refine P_callv (q := 145) dX3_takeFrom_142 rfl (t_priceFields hA s1 s2 hf hb hc' hO hIp) kX3_66 rfl rfl (by omega) hO rfl ⟨by decide, by decide⟩ (Nat.le_of_ble_eq_true rfl) ⟨Nat.le_refl _, Nat.le_refl _⟩ ?_
          rintro v σ1 ⟨rfl, t1, t2⟩
          refine P_iadd (q := 146) dX3_takeFrom_145 rfl ?_
          rw [show ∀ x y : Nat, nI x + nI y = nI (x + y) from nI_add]
          refine P_istore (q := 148) (L' := [_, _, _, _, _, _, _, _, _]) dX3_takeFrom_146 rfl (by first | decide | exact lt_c (by decide)) rfl ?_
          exact fin σ1 _ t1 (t2.imp (fun i j h => ⟨h, by rw [c_133]; exact Fc_FM.symm⟩)) (by rw [reach_s]; (first | rw [if_pos c_116] | rw [if_neg c_116]); unfold St.wr; rw [if_neg (by rw [c_133]; decide), Nat.add_assoc])
set_option maxRecDepth 100000 in
set_option maxHeartbeats 4000000 in
theorem t_tft {σ0 : Sto} {A : St} {b : Nat} (hA : SW σ0 1 A) (hb : b = 4 ∨ b = 26) (hP : PrS σ0 b) : CP mX3_takeFrom 0 0 [.ref b, .ref 1, .int (bI true)] (eN + 114) σ0 (fun v σ' => v = none ∧ same σ0 σ' (fun i => b ≤ i ∧ i ≤ b + 21) ∧ PrW σ' b (A.md true)) := by
  obtain ⟨hA, f, h1, h2, hf⟩ := hA
  obtain ⟨⟨x0, x1, x2, x3, x4, hO⟩, ⟨g, hg⟩, ⟨FI, hI⟩, ⟨FB, hB⟩⟩ := hP
  have hC := hA.1.2
  have hR := hA.2.1.2
  have hR1 := hA.2.1.1
  have hl := A.wl_in hA true
  have hx := A.wc_in hA true
  refine CP_of (by decide +kernel) (Nat.le_of_ble_eq_true rfl) ?_
  change PW _ _ _ _ 0 [_, _, _, _, _, _, _, _, _] [] _ _ _ _
  refine P_aload_n (q := 1) dX3_takeFrom_0 rfl rfl ?_
  refine P_aload_n (q := 2) dX3_takeFrom_1 rfl rfl ?_
  refine P_get (q := 5) dX3_takeFrom_2 rfl fX3_40 (by first | decide | exact lt_c (by decide)) (h1) rfl ?_
  refine P_put (q := 8) (fs' := [_, _, _, _, _, _, _, _]) dX3_takeFrom_5 rfl gX3_9 (by omega) (hO) (fun _ => rfl) (fun _ => rfl) (Nat.le_of_ble_eq_true rfl) rfl (rfl) ?_
  refine P_aload_n (q := 9) dX3_takeFrom_8 rfl rfl ?_
  refine P_aload_n (q := 10) dX3_takeFrom_9 rfl rfl ?_
  refine P_get (q := 13) dX3_takeFrom_10 rfl fX3_43 (by first | decide | exact lt_c (by decide)) ((up_ne _ _ (by omega)).trans h1) rfl ?_
  refine P_put (q := 16) (fs' := [_, _, _, _, _, _, _, _]) dX3_takeFrom_13 rfl gX3_15 (by omega) (up_at _ _ _) (fun _ => rfl) (fun _ => rfl) (Nat.le_of_ble_eq_true rfl) rfl (up_up _ _ _ _) ?_
  refine P_aload_n (q := 17) dX3_takeFrom_16 rfl rfl ?_
  refine P_iconst (q := 18) (v := nI 1) dX3_takeFrom_17 rfl (by decide +kernel) ?_
  refine P_aload_n (q := 19) dX3_takeFrom_18 rfl rfl ?_
  refine P_get (q := 22) dX3_takeFrom_19 rfl fX3_15 (by omega) (up_at _ _ _) rfl ?_
  refine P_ishl (q := 23) dX3_takeFrom_22 rfl ?_
  rw [sh1 hR]
  refine P_put (q := 26) (fs' := [_, _, _, _, _, _, _, _]) dX3_takeFrom_23 rfl gX3_18 (by omega) (up_at _ _ _) (fun _ => rfl) (fun _ => rfl) (Nat.le_of_ble_eq_true rfl) rfl (up_up _ _ _ _) ?_
  refine P_aload_n (q := 27) dX3_takeFrom_26 rfl rfl ?_
  refine P_aload_n (q := 28) dX3_takeFrom_27 rfl rfl ?_
  refine P_cv1 (q := 31) dX3_takeFrom_28 rfl kX3_44 (t_closed hA ((up_ne _ _ (by omega)).trans h1)) rfl rfl (by first | decide | exact lt_c (by decide)) ((up_ne _ _ (by omega)).trans h1) rfl ⟨by decide, by decide⟩ (Nat.le_of_ble_eq_true rfl) ⟨Nat.le_refl _, Nat.le_refl _⟩ ?_
  refine P_put (q := 34) (fs' := [_, _, _, _, _, _, _, _]) dX3_takeFrom_31 rfl gX3_21 (by omega) (up_at _ _ _) (fun _ => nar_bI _) (fun _ => fit_bI _) (Nat.le_of_ble_eq_true rfl) rfl (up_up _ _ _ _) ?_
  refine P_iload_n (q := 35) dX3_takeFrom_34 rfl rfl ?_
  refine P_if_eq (q := 38) (tgt := 42) dX3_takeFrom_35 rfl (by first | decide | exact lt_c (by decide)) (fun c_35 => ?_) (fun c_35 => ?_)
  · exact absurd c_35 (by first | decide | exact lt_c (by decide))
  · refine P_iconst (q := 39) (v := nI 1) dX3_takeFrom_38 rfl (by decide +kernel) ?_
    refine P_goto (tgt := 46) dX3_takeFrom_39 (by first | decide | exact lt_c (by decide)) ?_
    refine P_istore_n (q := 47) (L' := [_, _, _, _, _, _, _, _, _]) dX3_takeFrom_46 rfl (by first | decide | exact lt_c (by decide)) rfl ?_
    refine P_iload_n (q := 48) dX3_takeFrom_47 rfl rfl ?_
    refine P_if_eq (q := 51) (tgt := 55) dX3_takeFrom_48 rfl (by first | decide | exact lt_c (by decide)) (fun c_48 => ?_) (fun c_48 => ?_)
    · exact absurd c_48 (by first | decide | exact lt_c (by decide))
    · refine P_iconst (q := 52) (v := nI 1) dX3_takeFrom_51 rfl (by decide +kernel) ?_
      refine P_goto (tgt := 59) dX3_takeFrom_52 (by first | decide | exact lt_c (by decide)) ?_
      refine P_istore (q := 61) (L' := [_, _, _, _, _, _, _, _, _]) dX3_takeFrom_59 rfl (by first | decide | exact lt_c (by decide)) rfl ?_
      refine P_aload_n (q := 62) dX3_takeFrom_61 rfl rfl ?_
      refine P_iload_n (q := 63) dX3_takeFrom_62 rfl rfl ?_
      refine P_callv (q := 66) dX3_takeFrom_63 rfl (t_priceAlong (p := A.wl true) hb hC hR1 hR (by omega) (by omega) (up_at _ _ _) (hB.congr (fun k a c => up_ne _ _ (by omega)))) kX3_53 rfl rfl (by omega) (up_at _ _ _) rfl ⟨by decide, by decide⟩ (Nat.le_of_ble_eq_true rfl) ⟨Nat.le_refl _, Nat.le_refl _⟩ ?_
      rintro v σ1 ⟨rfl, u1, u2⟩
      have hs1 : same σ0 σ1 (fun i => b ≤ i ∧ i ≤ b + 21) := (same.rf.up (show b ≤ b ∧ b ≤ b + 21 by omega)).trans (u1.mono (fun i h => by omega))
      have hO1 := (u1 b (by omega)).trans (up_at _ _ _)
      have hI1 := (hI.congr (τ := va_up σ0 b _) (fun k a c => up_ne _ _ (by omega))).congr (τ := σ1) (fun k a c => u1 k (by omega))
      have hg1 := (u1 (b + 1) (by omega)).trans ((up_ne _ _ (by omega)).trans hg)
      refine P_aload_n (q := 67) dX3_takeFrom_66 rfl rfl ?_
      refine P_iload (q := 69) dX3_takeFrom_67 rfl rfl ?_
      refine P_callv (q := 72) dX3_takeFrom_69 rfl (t_priceAcross (p := A.wc true) hb hC hR1 hR (by omega) (by omega) hO1 hI1) kX3_57 rfl rfl (by omega) hO1 rfl ⟨by decide, by decide⟩ (Nat.le_of_ble_eq_true rfl) ⟨Nat.le_refl _, Nat.le_refl _⟩ ?_
      rintro v σ2 ⟨rfl, t1, t2⟩
      have hs2 : same σ0 σ2 (fun i => b ≤ i ∧ i ≤ b + 21) := hs1.trans (t1.mono (fun i h => by omega))
      have hO2 := (t1 b (by omega)).trans hO1
      have hB2 := u2.congr (τ := σ2) (fun k a c => t1 k (by omega))
      have hI2 : GP σ2 (b + 2) 10 8 (fun i j => i < A.C ∧ j < 2 ^ A.R) (A.Fc true 0) := t2.imp (fun i j h => ⟨h, by unfold St.Fc; rw [if_neg (by omega)]; rfl⟩)
      have hg2 := (t1 (b + 1) (by omega)).trans hg1
      refine P_aload_n (q := 73) dX3_takeFrom_72 rfl rfl ?_
      refine P_get (q := 76) dX3_takeFrom_73 rfl fX3_15 (by omega) (hO2) rfl ?_
      refine P_iload_n (q := 77) dX3_takeFrom_76 rfl rfl ?_
      refine P_mabs (q := 80) dX3_takeFrom_77 rfl kX3_60 (by first | decide | exact lt_c (by decide)) (Nat.le_of_ble_eq_true rfl) ⟨Nat.le_refl _, Nat.le_refl _⟩ ?_
      rw [show (if 0 ≤ nI 1 then nI 1 else 0 - nI 1) = nI (A.wl true).natAbs from abs_i (z := A.wl true) (by omega) (by omega)]
      refine P_imul (q := 81) dX3_takeFrom_80 rfl ?_
      rw [pk_mul]
      refine P_istore (q := 83) (L' := [_, _, _, _, _, _, _, _, _]) dX3_takeFrom_81 rfl (by first | decide | exact lt_c (by decide)) rfl ?_
      refine P_aload_n (q := 84) dX3_takeFrom_83 rfl rfl ?_
      refine P_get (q := 87) dX3_takeFrom_84 rfl fX3_15 (by omega) (hO2) rfl ?_
      refine P_iconst (q := 88) (v := nI 1) dX3_takeFrom_87 rfl (by decide +kernel) ?_
      refine P_isub (q := 89) dX3_takeFrom_88 rfl ?_
      refine P_iload (q := 91) dX3_takeFrom_89 rfl rfl ?_
      refine P_mabs (q := 94) dX3_takeFrom_91 rfl kX3_60 (by first | decide | exact lt_c (by decide)) (Nat.le_of_ble_eq_true rfl) ⟨Nat.le_refl _, Nat.le_refl _⟩ ?_
      rw [show (if 0 ≤ nI 1 then nI 1 else 0 - nI 1) = nI (A.wc true).natAbs from abs_i (z := A.wc true) (by omega) (by omega)]
      refine P_imul (q := 95) dX3_takeFrom_94 rfl ?_
      rw [pk_sub (by omega), pk_mul]
      refine P_istore (q := 97) (L' := [_, _, _, _, _, _, _, _, _]) dX3_takeFrom_95 rfl (by first | decide | exact lt_c (by decide)) rfl ?_
      refine P_iconst (q := 98) (v := nI 0) dX3_takeFrom_97 rfl (by decide +kernel) ?_
      refine P_istore (q := 100) (L' := [_, _, _, _, _, _, _, _, _]) dX3_takeFrom_98 rfl (by first | decide | exact lt_c (by decide)) rfl ?_
      refine P_iconst (q := 101) (v := nI 0) dX3_takeFrom_100 rfl (by decide +kernel) ?_
      refine P_istore (q := 103) (L' := [_, _, _, _, _, _, _, _, _]) dX3_takeFrom_101 rfl (by first | decide | exact lt_c (by decide)) rfl ?_
      exact w_tf (w := true) hA h1 h2 hf hb A.C 0 (by omega) σ2 hs2 hO2 hB2 hI2 ⟨g, hg2, fun i hi => by omega⟩
set_option maxRecDepth 100000 in
set_option maxHeartbeats 4000000 in
theorem t_tff {σ0 : Sto} {A : St} {b : Nat} (hA : SW σ0 1 A) (hb : b = 4 ∨ b = 26) (hP : PrS σ0 b) : CP mX3_takeFrom 0 0 [.ref b, .ref 1, .int (bI false)] (eN + 114) σ0 (fun v σ' => v = none ∧ same σ0 σ' (fun i => b ≤ i ∧ i ≤ b + 21) ∧ PrW σ' b (A.md false)) := by
  obtain ⟨hA, f, h1, h2, hf⟩ := hA
  obtain ⟨⟨x0, x1, x2, x3, x4, hO⟩, ⟨g, hg⟩, ⟨FI, hI⟩, ⟨FB, hB⟩⟩ := hP
  have hC := hA.1.2
  have hR := hA.2.1.2
  have hR1 := hA.2.1.1
  have hl := A.wl_in hA false
  have hx := A.wc_in hA false
  refine CP_of (by decide +kernel) (Nat.le_of_ble_eq_true rfl) ?_
  change PW _ _ _ _ 0 [_, _, _, _, _, _, _, _, _] [] _ _ _ _
  refine P_aload_n (q := 1) dX3_takeFrom_0 rfl rfl ?_
  refine P_aload_n (q := 2) dX3_takeFrom_1 rfl rfl ?_
  refine P_get (q := 5) dX3_takeFrom_2 rfl fX3_40 (by first | decide | exact lt_c (by decide)) (h1) rfl ?_
  refine P_put (q := 8) (fs' := [_, _, _, _, _, _, _, _]) dX3_takeFrom_5 rfl gX3_9 (by omega) (hO) (fun _ => rfl) (fun _ => rfl) (Nat.le_of_ble_eq_true rfl) rfl (rfl) ?_
  refine P_aload_n (q := 9) dX3_takeFrom_8 rfl rfl ?_
  refine P_aload_n (q := 10) dX3_takeFrom_9 rfl rfl ?_
  refine P_get (q := 13) dX3_takeFrom_10 rfl fX3_43 (by first | decide | exact lt_c (by decide)) ((up_ne _ _ (by omega)).trans h1) rfl ?_
  refine P_put (q := 16) (fs' := [_, _, _, _, _, _, _, _]) dX3_takeFrom_13 rfl gX3_15 (by omega) (up_at _ _ _) (fun _ => rfl) (fun _ => rfl) (Nat.le_of_ble_eq_true rfl) rfl (up_up _ _ _ _) ?_
  refine P_aload_n (q := 17) dX3_takeFrom_16 rfl rfl ?_
  refine P_iconst (q := 18) (v := nI 1) dX3_takeFrom_17 rfl (by decide +kernel) ?_
  refine P_aload_n (q := 19) dX3_takeFrom_18 rfl rfl ?_
  refine P_get (q := 22) dX3_takeFrom_19 rfl fX3_15 (by omega) (up_at _ _ _) rfl ?_
  refine P_ishl (q := 23) dX3_takeFrom_22 rfl ?_
  rw [sh1 hR]
  refine P_put (q := 26) (fs' := [_, _, _, _, _, _, _, _]) dX3_takeFrom_23 rfl gX3_18 (by omega) (up_at _ _ _) (fun _ => rfl) (fun _ => rfl) (Nat.le_of_ble_eq_true rfl) rfl (up_up _ _ _ _) ?_
  refine P_aload_n (q := 27) dX3_takeFrom_26 rfl rfl ?_
  refine P_aload_n (q := 28) dX3_takeFrom_27 rfl rfl ?_
  refine P_cv1 (q := 31) dX3_takeFrom_28 rfl kX3_44 (t_closed hA ((up_ne _ _ (by omega)).trans h1)) rfl rfl (by first | decide | exact lt_c (by decide)) ((up_ne _ _ (by omega)).trans h1) rfl ⟨by decide, by decide⟩ (Nat.le_of_ble_eq_true rfl) ⟨Nat.le_refl _, Nat.le_refl _⟩ ?_
  refine P_put (q := 34) (fs' := [_, _, _, _, _, _, _, _]) dX3_takeFrom_31 rfl gX3_21 (by omega) (up_at _ _ _) (fun _ => nar_bI _) (fun _ => fit_bI _) (Nat.le_of_ble_eq_true rfl) rfl (up_up _ _ _ _) ?_
  refine P_iload_n (q := 35) dX3_takeFrom_34 rfl rfl ?_
  refine P_if_eq (q := 38) (tgt := 42) dX3_takeFrom_35 rfl (by first | decide | exact lt_c (by decide)) (fun c_35 => ?_) (fun c_35 => ?_)
  · refine P_aload_n (q := 43) dX3_takeFrom_42 rfl rfl ?_
    refine P_get (q := 46) dX3_takeFrom_43 rfl fX3_47 (by first | decide | exact lt_c (by decide)) ((up_ne _ _ (by omega)).trans h1) rfl ?_
    refine P_istore_n (q := 47) (L' := [_, _, _, _, _, _, _, _, _]) dX3_takeFrom_46 rfl (by first | decide | exact lt_c (by decide)) rfl ?_
    refine P_iload_n (q := 48) dX3_takeFrom_47 rfl rfl ?_
    refine P_if_eq (q := 51) (tgt := 55) dX3_takeFrom_48 rfl (by first | decide | exact lt_c (by decide)) (fun c_48 => ?_) (fun c_48 => ?_)
    · refine P_aload_n (q := 56) dX3_takeFrom_55 rfl rfl ?_
      refine P_get (q := 59) dX3_takeFrom_56 rfl fX3_50 (by first | decide | exact lt_c (by decide)) ((up_ne _ _ (by omega)).trans h1) rfl ?_
      refine P_istore (q := 61) (L' := [_, _, _, _, _, _, _, _, _]) dX3_takeFrom_59 rfl (by first | decide | exact lt_c (by decide)) rfl ?_
      refine P_aload_n (q := 62) dX3_takeFrom_61 rfl rfl ?_
      refine P_iload_n (q := 63) dX3_takeFrom_62 rfl rfl ?_
      refine P_callv (q := 66) dX3_takeFrom_63 rfl (t_priceAlong (p := A.wl false) hb hC hR1 hR (by omega) (by omega) (up_at _ _ _) (hB.congr (fun k a c => up_ne _ _ (by omega)))) kX3_53 rfl rfl (by omega) (up_at _ _ _) rfl ⟨by decide, by decide⟩ (Nat.le_of_ble_eq_true rfl) ⟨Nat.le_refl _, Nat.le_refl _⟩ ?_
      rintro v σ1 ⟨rfl, u1, u2⟩
      have hs1 : same σ0 σ1 (fun i => b ≤ i ∧ i ≤ b + 21) := (same.rf.up (show b ≤ b ∧ b ≤ b + 21 by omega)).trans (u1.mono (fun i h => by omega))
      have hO1 := (u1 b (by omega)).trans (up_at _ _ _)
      have hI1 := (hI.congr (τ := va_up σ0 b _) (fun k a c => up_ne _ _ (by omega))).congr (τ := σ1) (fun k a c => u1 k (by omega))
      have hg1 := (u1 (b + 1) (by omega)).trans ((up_ne _ _ (by omega)).trans hg)
      refine P_aload_n (q := 67) dX3_takeFrom_66 rfl rfl ?_
      refine P_iload (q := 69) dX3_takeFrom_67 rfl rfl ?_
      refine P_callv (q := 72) dX3_takeFrom_69 rfl (t_priceAcross (p := A.wc false) hb hC hR1 hR (by omega) (by omega) hO1 hI1) kX3_57 rfl rfl (by omega) hO1 rfl ⟨by decide, by decide⟩ (Nat.le_of_ble_eq_true rfl) ⟨Nat.le_refl _, Nat.le_refl _⟩ ?_
      rintro v σ2 ⟨rfl, t1, t2⟩
      have hs2 : same σ0 σ2 (fun i => b ≤ i ∧ i ≤ b + 21) := hs1.trans (t1.mono (fun i h => by omega))
      have hO2 := (t1 b (by omega)).trans hO1
      have hB2 := u2.congr (τ := σ2) (fun k a c => t1 k (by omega))
      have hI2 : GP σ2 (b + 2) 10 8 (fun i j => i < A.C ∧ j < 2 ^ A.R) (A.Fc false 0) := t2.imp (fun i j h => ⟨h, by unfold St.Fc; rw [if_neg (by omega)]; rfl⟩)
      have hg2 := (t1 (b + 1) (by omega)).trans hg1
      refine P_aload_n (q := 73) dX3_takeFrom_72 rfl rfl ?_
      refine P_get (q := 76) dX3_takeFrom_73 rfl fX3_15 (by omega) (hO2) rfl ?_
      refine P_iload_n (q := 77) dX3_takeFrom_76 rfl rfl ?_
      refine P_mabs (q := 80) dX3_takeFrom_77 rfl kX3_60 (by first | decide | exact lt_c (by decide)) (Nat.le_of_ble_eq_true rfl) ⟨Nat.le_refl _, Nat.le_refl _⟩ ?_
      rw [show (if 0 ≤ iI A.al then iI A.al else 0 - iI A.al) = nI (A.wl false).natAbs from abs_i (z := A.wl false) (by omega) (by omega)]
      refine P_imul (q := 81) dX3_takeFrom_80 rfl ?_
      rw [pk_mul]
      refine P_istore (q := 83) (L' := [_, _, _, _, _, _, _, _, _]) dX3_takeFrom_81 rfl (by first | decide | exact lt_c (by decide)) rfl ?_
      refine P_aload_n (q := 84) dX3_takeFrom_83 rfl rfl ?_
      refine P_get (q := 87) dX3_takeFrom_84 rfl fX3_15 (by omega) (hO2) rfl ?_
      refine P_iconst (q := 88) (v := nI 1) dX3_takeFrom_87 rfl (by decide +kernel) ?_
      refine P_isub (q := 89) dX3_takeFrom_88 rfl ?_
      refine P_iload (q := 91) dX3_takeFrom_89 rfl rfl ?_
      refine P_mabs (q := 94) dX3_takeFrom_91 rfl kX3_60 (by first | decide | exact lt_c (by decide)) (Nat.le_of_ble_eq_true rfl) ⟨Nat.le_refl _, Nat.le_refl _⟩ ?_
      rw [show (if 0 ≤ iI A.ac then iI A.ac else 0 - iI A.ac) = nI (A.wc false).natAbs from abs_i (z := A.wc false) (by omega) (by omega)]
      refine P_imul (q := 95) dX3_takeFrom_94 rfl ?_
      rw [pk_sub (by omega), pk_mul]
      refine P_istore (q := 97) (L' := [_, _, _, _, _, _, _, _, _]) dX3_takeFrom_95 rfl (by first | decide | exact lt_c (by decide)) rfl ?_
      refine P_iconst (q := 98) (v := nI 0) dX3_takeFrom_97 rfl (by decide +kernel) ?_
      refine P_istore (q := 100) (L' := [_, _, _, _, _, _, _, _, _]) dX3_takeFrom_98 rfl (by first | decide | exact lt_c (by decide)) rfl ?_
      refine P_iconst (q := 101) (v := nI 0) dX3_takeFrom_100 rfl (by decide +kernel) ?_
      refine P_istore (q := 103) (L' := [_, _, _, _, _, _, _, _, _]) dX3_takeFrom_101 rfl (by first | decide | exact lt_c (by decide)) rfl ?_
      exact w_tf (w := false) hA h1 h2 hf hb A.C 0 (by omega) σ2 hs2 hO2 hB2 hI2 ⟨g, hg2, fun i hi => by omega⟩
    · exact absurd rfl c_48
  · exact absurd rfl c_35
