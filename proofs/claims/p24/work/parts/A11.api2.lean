/-! TWO OBJECTS: the first one's cells are 0 to 113, the second one's 114 to 227 -/
theorem CW.congr {σ τ : Sto} {w : Cs} (h : CW σ w) (s : ∀ k, k ≤ 113 → τ k = σ k) : CW τ w := by
  obtain ⟨h0, hS, hA, hH, ⟨B, hB, hBC⟩, hT⟩ := h
  exact ⟨(s 0 (by omega)).trans h0, hS.congr (s 1 (by omega)) (s 2 (by omega)), hA.congr (fun k a b => s k (by omega)), hH.congr (fun k a b => s k (by omega)), ⟨B, hB.congr (s 110 (by omega)) (s 111 (by omega)), hBC⟩, hT.congr (s 112 (by omega)) (s 113 (by omega))⟩
def CS (σ : Sto) (x : Cs) : Prop := ∃ τ : Sto, CW τ x ∧ ∀ k, k < 114 → σ (114 + k) = shC 114 (τ k)
def W2 (σ : Sto) (w x : Cs) : Prop := CW σ w ∧ CS σ x
def R2 (r : Int32) (w x : Cs) : Option Value → Sto → Prop := fun v σ' => v = some (.int r) ∧ W2 σ' w x
theorem CS.to {σ τ : Sto} {x : Cs} (h : CS σ x) (e : ∀ k, 114 ≤ k → τ k = σ k) : CS τ x := by
  obtain ⟨υ, h1, h2⟩ := h
  exact ⟨υ, h1, fun k hk => (e _ (by omega)).trans (h2 k hk)⟩
theorem W2.oo {σ : Sto} {w x : Cs} (h : W2 σ w x) : ∃ fs, σ 0 = pO 7 fs := ⟨_, h.1.1⟩
theorem W2.pp {σ : Sto} {w x : Cs} (h : W2 σ w x) : ∃ fs, σ 114 = pO 7 fs := by
  obtain ⟨-, τ, h1, h2⟩ := h
  have h3 := h2 0 (by decide)
  rw [h1.1] at h3
  exact ⟨_, h3⟩
theorem W2.okA {σ : Sto} {w x : Cs} (h : W2 σ w x) : w.A.ok := h.1.2.1.1
theorem W2.okB {σ : Sto} {w x : Cs} (h : W2 σ w x) : x.A.ok := by
  obtain ⟨-, τ, h1, -⟩ := h
  exact h1.2.1.1
theorem CW.snok {σ : Sto} {w : Cs} (h : CW σ w) {A : St} (hs : w.Sn = some A) : A.ok := by
  obtain ⟨-, -, -, -, ⟨B, hB, hC⟩, -⟩ := h
  rw [← hC A hs]
  exact hB.1
theorem W2.n60 {σ : Sto} {w x : Cs} (h : W2 σ w x) : w.n ≤ 60 := h.1.2.2.2.2.2.1
theorem c_o {M : Mth} {As : List Value} {x : Cs} {o : Int32 × Cs} {σ : Sto} (h : CP M 0 0 As 228 σ (OK σ o)) (hX : CS σ x) : CP M 0 0 As 228 σ (R2 o.1 o.2 x) :=
  CP.imp h fun v σ' q => ⟨q.1, q.2.1, hX.to (fun k hk => q.2.2 k (by omega))⟩
theorem c_p {M : Mth} {As : List Value} {w x : Cs} {o : Int32 × Cs} {σ : Sto} (hW : CW σ w) (hX : CS σ x) (h : ∀ τ, CW τ x → CP M 0 0 (.ref 0 :: As) 114 τ (OK τ o)) (hAs : As.map (shV 114) = As) : CP M 0 0 (.ref 114 :: As) 228 σ (R2 o.1 w o.2) := by
  obtain ⟨τ, h1, h2⟩ := hX
  have h3 := CP.shift (a := 114) (σ := σ) (h τ h1) h2
  rw [List.map_cons, hAs] at h3
  refine CP.imp (Q₁ := fun v σ' => ∃ v0 τ', OK τ o v0 τ' ∧ v = v0.map (shV 114) ∧ (∀ k, k < 114 + 0 → σ' (114 + k) = shC 114 (τ' k)) ∧ ∀ k, k < 114 → σ' k = σ k) h3 ?_
  rintro v σ' ⟨v0, τ', ⟨q1, q2, q3⟩, rfl, q5, q6⟩
  subst q1
  exact ⟨rfl, hW.congr (fun k hk => q6 k (by omega)), τ', q2, fun k hk => q5 k hk⟩
theorem inB_t {A : St} {r c : Nat} (hr : r < A.R) (hc : c < A.C) : A.inB (r : Int) (c : Int) = true := decide_eq_true ⟨by omega, by omega, by omega, by omega⟩
set_option maxRecDepth 100000 in
set_option maxHeartbeats 4000000 in
theorem o_count {σ : Sto} {w x : Cs} (hW : W2 σ w x) (k : Nat) (hk : k < 100) {v : Int32} (he : oCountK w ((k : Nat) : Int) = v) : CP mX7_count 0 0 [.ref 0, .int (nI k)] 228 σ (R2 v w x) := by
  rw [iI_nI]

  subst he
  exact c_o (a_count hW.1 (by omega) (by omega)) hW.2
set_option maxRecDepth 100000 in
set_option maxHeartbeats 4000000 in
theorem p_count {σ : Sto} {w x : Cs} (hW : W2 σ w x) (k : Nat) (hk : k < 100) {v : Int32} (he : oCountK x ((k : Nat) : Int) = v) : CP mX7_count 0 0 [.ref 114, .int (nI k)] 228 σ (R2 v w x) := by
  rw [iI_nI]

  subst he
  exact c_p hW.1 hW.2 (fun τ hT => a_count hT (by omega) (by omega)) rfl
set_option maxRecDepth 100000 in
set_option maxHeartbeats 4000000 in
theorem o_cell {σ : Sto} {w x : Cs} (hW : W2 σ w x) {r c : Nat} (hr : r < w.A.R) (hc : c < w.A.C) (hr3 : r ≤ 3) (hc9 : c ≤ 10) (k : Nat) (hk : k < 100) {v : Int32} (he : (oCell w ((r : Nat) : Int) ((c : Nat) : Int) ((k : Nat) : Int)).1 = v) : CP mX7_cell 0 0 [.ref 0, .int (nI r), .int (nI c), .int (nI k)] 228 σ (R2 v w x) := by
  rw [iI_nI, iI_nI, iI_nI]

  subst he
  exact c_o (show CP mX7_cell 0 0 _ _ _ (OK _ (oCell _ ((r : Nat) : Int) ((c : Nat) : Int) ((k : Nat) : Int))) from a_cell hW.1 (by omega) (by omega) (by omega) (by omega) (by omega) (by omega)) hW.2
set_option maxRecDepth 100000 in
set_option maxHeartbeats 4000000 in
theorem p_cell {σ : Sto} {w x : Cs} (hW : W2 σ w x) {r c : Nat} (hr : r < x.A.R) (hc : c < x.A.C) (hr3 : r ≤ 3) (hc9 : c ≤ 10) (k : Nat) (hk : k < 100) {v : Int32} (he : (oCell x ((r : Nat) : Int) ((c : Nat) : Int) ((k : Nat) : Int)).1 = v) : CP mX7_cell 0 0 [.ref 114, .int (nI r), .int (nI c), .int (nI k)] 228 σ (R2 v w x) := by
  rw [iI_nI, iI_nI, iI_nI]

  subst he
  exact c_p hW.1 hW.2 (fun τ hT => show CP mX7_cell 0 0 _ _ _ (OK _ (oCell _ ((r : Nat) : Int) ((c : Nat) : Int) ((k : Nat) : Int))) from a_cell hT (by omega) (by omega) (by omega) (by omega) (by omega) (by omega)) rfl
set_option maxRecDepth 100000 in
set_option maxHeartbeats 4000000 in
theorem o_lay {σ : Sto} {w x : Cs} (hW : W2 σ w x) {c r : Nat} (hc : c < 100) (hr : r < 100) (g : Bool) {v : Int32} {y : Cs} (he : oLay w c r g = (v, y)) : CP mX7_lay 0 0 [.ref 0, .int (nI c), .int (nI r), .int (bI g)] 228 σ (R2 v y x) := by
  rw [iI_nI, iI_nI]

  have h : CP mX7_lay 0 0 [.ref 0, .int (iI ((c : Nat) : Int)), .int (iI ((r : Nat) : Int)), .int (bI g)] 228 σ (R2 (oLay w c r g).1 (oLay w c r g).2 x) := c_o (a_lay hW.1 (by omega) (by omega) (by omega) (by omega) g) hW.2
  rw [he] at h
  exact h
set_option maxRecDepth 100000 in
set_option maxHeartbeats 4000000 in
theorem p_lay {σ : Sto} {w x : Cs} (hW : W2 σ w x) {c r : Nat} (hc : c < 100) (hr : r < 100) (g : Bool) {v : Int32} {y : Cs} (he : oLay x c r g = (v, y)) : CP mX7_lay 0 0 [.ref 114, .int (nI c), .int (nI r), .int (bI g)] 228 σ (R2 v w y) := by
  rw [iI_nI, iI_nI]

  have h : CP mX7_lay 0 0 [.ref 114, .int (iI ((c : Nat) : Int)), .int (iI ((r : Nat) : Int)), .int (bI g)] 228 σ (R2 (oLay x c r g).1 w (oLay x c r g).2) := c_p hW.1 hW.2 (fun τ hT => a_lay hT (by omega) (by omega) (by omega) (by omega) g) rfl
  rw [he] at h
  exact h
set_option maxRecDepth 100000 in
set_option maxHeartbeats 4000000 in
theorem o_close {σ : Sto} {w x : Cs} (hW : W2 σ w x) (g : Bool) {v : Int32} {y : Cs} (he : oClose w g = (v, y)) : CP mX7_close 0 0 [.ref 0, .int (bI g)] 228 σ (R2 v y x) := by

  have h : CP mX7_close 0 0 [.ref 0, .int (bI g)] 228 σ (R2 (oClose w g).1 (oClose w g).2 x) := c_o (a_close hW.1 g) hW.2
  rw [he] at h
  exact h
set_option maxRecDepth 100000 in
set_option maxHeartbeats 4000000 in
theorem p_close {σ : Sto} {w x : Cs} (hW : W2 σ w x) (g : Bool) {v : Int32} {y : Cs} (he : oClose x g = (v, y)) : CP mX7_close 0 0 [.ref 114, .int (bI g)] 228 σ (R2 v w y) := by

  have h : CP mX7_close 0 0 [.ref 114, .int (bI g)] 228 σ (R2 (oClose x g).1 w (oClose x g).2) := c_p hW.1 hW.2 (fun τ hT => a_close hT g) rfl
  rw [he] at h
  exact h
set_option maxRecDepth 100000 in
set_option maxHeartbeats 4000000 in
theorem o_pull_true {σ : Sto} {w x : Cs} (hW : W2 σ w x) {z : Int} (z1 : -100 ≤ z) (z2 : z ≤ 100) {v : Int32} {y : Cs} (he : oPull w true z = (v, y)) : CP mX7_setPull 0 0 [.ref 0, .int (bI true), .int (iI z)] 228 σ (R2 v y x) := by

  have h : CP mX7_setPull 0 0 [.ref 0, .int (bI true), .int (iI z)] 228 σ (R2 (oPull w true z).1 (oPull w true z).2 x) := c_o (a_pull_true hW.1 (by omega) (by omega)) hW.2
  rw [he] at h
  exact h
set_option maxRecDepth 100000 in
set_option maxHeartbeats 4000000 in
theorem p_pull_true {σ : Sto} {w x : Cs} (hW : W2 σ w x) {z : Int} (z1 : -100 ≤ z) (z2 : z ≤ 100) {v : Int32} {y : Cs} (he : oPull x true z = (v, y)) : CP mX7_setPull 0 0 [.ref 114, .int (bI true), .int (iI z)] 228 σ (R2 v w y) := by

  have h : CP mX7_setPull 0 0 [.ref 114, .int (bI true), .int (iI z)] 228 σ (R2 (oPull x true z).1 w (oPull x true z).2) := c_p hW.1 hW.2 (fun τ hT => a_pull_true hT (by omega) (by omega)) rfl
  rw [he] at h
  exact h
set_option maxRecDepth 100000 in
set_option maxHeartbeats 4000000 in
theorem o_pull_false {σ : Sto} {w x : Cs} (hW : W2 σ w x) {z : Int} (z1 : -100 ≤ z) (z2 : z ≤ 100) {v : Int32} {y : Cs} (he : oPull w false z = (v, y)) : CP mX7_setPull 0 0 [.ref 0, .int (bI false), .int (iI z)] 228 σ (R2 v y x) := by

  have h : CP mX7_setPull 0 0 [.ref 0, .int (bI false), .int (iI z)] 228 σ (R2 (oPull w false z).1 (oPull w false z).2 x) := c_o (a_pull_false hW.1 (by omega) (by omega)) hW.2
  rw [he] at h
  exact h
set_option maxRecDepth 100000 in
set_option maxHeartbeats 4000000 in
theorem p_pull_false {σ : Sto} {w x : Cs} (hW : W2 σ w x) {z : Int} (z1 : -100 ≤ z) (z2 : z ≤ 100) {v : Int32} {y : Cs} (he : oPull x false z = (v, y)) : CP mX7_setPull 0 0 [.ref 114, .int (bI false), .int (iI z)] 228 σ (R2 v w y) := by

  have h : CP mX7_setPull 0 0 [.ref 114, .int (bI false), .int (iI z)] 228 σ (R2 (oPull x false z).1 w (oPull x false z).2) := c_p hW.1 hW.2 (fun τ hT => a_pull_false hT (by omega) (by omega)) rfl
  rw [he] at h
  exact h
set_option maxRecDepth 100000 in
set_option maxHeartbeats 4000000 in
theorem o_field {σ : Sto} {w x : Cs} (hW : W2 σ w x) {r c : Nat} (hr : r < 100) (hc : c < 100) {z : Int} (z1 : -100 ≤ z) (z2 : z ≤ 100) {v : Int32} {y : Cs} (he : oField w r c z = (v, y)) : CP mX7_setField 0 0 [.ref 0, .int (nI r), .int (nI c), .int (iI z)] 228 σ (R2 v y x) := by
  rw [iI_nI, iI_nI]

  have h : CP mX7_setField 0 0 [.ref 0, .int (iI ((r : Nat) : Int)), .int (iI ((c : Nat) : Int)), .int (iI z)] 228 σ (R2 (oField w r c z).1 (oField w r c z).2 x) := c_o (a_field hW.1 (by omega) (by omega) (by omega) (by omega) (by omega) (by omega)) hW.2
  rw [he] at h
  exact h
set_option maxRecDepth 100000 in
set_option maxHeartbeats 4000000 in
theorem p_field {σ : Sto} {w x : Cs} (hW : W2 σ w x) {r c : Nat} (hr : r < 100) (hc : c < 100) {z : Int} (z1 : -100 ≤ z) (z2 : z ≤ 100) {v : Int32} {y : Cs} (he : oField x r c z = (v, y)) : CP mX7_setField 0 0 [.ref 114, .int (nI r), .int (nI c), .int (iI z)] 228 σ (R2 v w y) := by
  rw [iI_nI, iI_nI]

  have h : CP mX7_setField 0 0 [.ref 114, .int (iI ((r : Nat) : Int)), .int (iI ((c : Nat) : Int)), .int (iI z)] 228 σ (R2 (oField x r c z).1 w (oField x r c z).2) := c_p hW.1 hW.2 (fun τ hT => a_field hT (by omega) (by omega) (by omega) (by omega) (by omega) (by omega)) rfl
  rw [he] at h
  exact h
set_option maxRecDepth 100000 in
set_option maxHeartbeats 4000000 in
theorem o_turn {σ : Sto} {w x : Cs} (hW : W2 σ w x) {r c : Nat} (hr : r < 100) (hc : c < 100) {v : Int32} {y : Cs} (he : oTurn w r c = (v, y)) : CP mX7_turn 0 0 [.ref 0, .int (nI r), .int (nI c)] 228 σ (R2 v y x) := by
  rw [iI_nI, iI_nI]

  have h : CP mX7_turn 0 0 [.ref 0, .int (iI ((r : Nat) : Int)), .int (iI ((c : Nat) : Int))] 228 σ (R2 (oTurn w r c).1 (oTurn w r c).2 x) := c_o (a_turn hW.1 (by omega) (by omega) (by omega) (by omega)) hW.2
  rw [he] at h
  exact h
set_option maxRecDepth 100000 in
set_option maxHeartbeats 4000000 in
theorem p_turn {σ : Sto} {w x : Cs} (hW : W2 σ w x) {r c : Nat} (hr : r < 100) (hc : c < 100) {v : Int32} {y : Cs} (he : oTurn x r c = (v, y)) : CP mX7_turn 0 0 [.ref 114, .int (nI r), .int (nI c)] 228 σ (R2 v w y) := by
  rw [iI_nI, iI_nI]

  have h : CP mX7_turn 0 0 [.ref 114, .int (iI ((r : Nat) : Int)), .int (iI ((c : Nat) : Int))] 228 σ (R2 (oTurn x r c).1 w (oTurn x r c).2) := c_p hW.1 hW.2 (fun τ hT => a_turn hT (by omega) (by omega) (by omega) (by omega)) rfl
  rw [he] at h
  exact h
set_option maxRecDepth 100000 in
set_option maxHeartbeats 4000000 in
theorem o_patch {σ : Sto} {w x : Cs} (hW : W2 σ w x) {r c : Nat} (hr : r < 100) (hc : c < 100) {v : Int32} {y : Cs} (he : oPatch w r c = (v, y)) : CP mX7_turnPatch 0 0 [.ref 0, .int (nI r), .int (nI c)] 228 σ (R2 v y x) := by
  rw [iI_nI, iI_nI]

  have h : CP mX7_turnPatch 0 0 [.ref 0, .int (iI ((r : Nat) : Int)), .int (iI ((c : Nat) : Int))] 228 σ (R2 (oPatch w r c).1 (oPatch w r c).2 x) := c_o (a_patch hW.1 (by omega) (by omega) (by omega) (by omega)) hW.2
  rw [he] at h
  exact h
set_option maxRecDepth 100000 in
set_option maxHeartbeats 4000000 in
theorem p_patch {σ : Sto} {w x : Cs} (hW : W2 σ w x) {r c : Nat} (hr : r < 100) (hc : c < 100) {v : Int32} {y : Cs} (he : oPatch x r c = (v, y)) : CP mX7_turnPatch 0 0 [.ref 114, .int (nI r), .int (nI c)] 228 σ (R2 v w y) := by
  rw [iI_nI, iI_nI]

  have h : CP mX7_turnPatch 0 0 [.ref 114, .int (iI ((r : Nat) : Int)), .int (iI ((c : Nat) : Int))] 228 σ (R2 (oPatch x r c).1 w (oPatch x r c).2) := c_p hW.1 hW.2 (fun τ hT => a_patch hT (by omega) (by omega) (by omega) (by omega)) rfl
  rw [he] at h
  exact h
set_option maxRecDepth 100000 in
set_option maxHeartbeats 4000000 in
theorem o_sweep {σ : Sto} {w x : Cs} (hW : W2 σ w x) {z : Nat} (hz : z < 100) {v : Int32} {y : Cs} (he : oSweep w z = (v, y)) : CP mX7_sweep 0 0 [.ref 0, .int (nI z)] 228 σ (R2 v y x) := by
  rw [iI_nI]

  have h : CP mX7_sweep 0 0 [.ref 0, .int (iI ((z : Nat) : Int))] 228 σ (R2 (oSweep w z).1 (oSweep w z).2 x) := c_o (a_sweep hW.1 (by omega) (by omega)) hW.2
  rw [he] at h
  exact h
set_option maxRecDepth 100000 in
set_option maxHeartbeats 4000000 in
theorem p_sweep {σ : Sto} {w x : Cs} (hW : W2 σ w x) {z : Nat} (hz : z < 100) {v : Int32} {y : Cs} (he : oSweep x z = (v, y)) : CP mX7_sweep 0 0 [.ref 114, .int (nI z)] 228 σ (R2 v w y) := by
  rw [iI_nI]

  have h : CP mX7_sweep 0 0 [.ref 114, .int (iI ((z : Nat) : Int))] 228 σ (R2 (oSweep x z).1 w (oSweep x z).2) := c_p hW.1 hW.2 (fun τ hT => a_sweep hT (by omega) (by omega)) rfl
  rw [he] at h
  exact h
set_option maxRecDepth 100000 in
set_option maxHeartbeats 4000000 in
theorem o_type {σ : Sto} {w x : Cs} (hW : W2 σ w x) {z : Nat} (hz : z < 100) {v : Int32} {y : Cs} (he : oType w z = (v, y)) : CP mX7_type 0 0 [.ref 0, .int (nI z)] 228 σ (R2 v y x) := by

  have h : CP mX7_type 0 0 [.ref 0, .int (nI z)] 228 σ (R2 (oType w z).1 (oType w z).2 x) := c_o (a_type hW.1 (show z < 65536 by omega)) hW.2
  rw [he] at h
  exact h
set_option maxRecDepth 100000 in
set_option maxHeartbeats 4000000 in
theorem p_type {σ : Sto} {w x : Cs} (hW : W2 σ w x) {z : Nat} (hz : z < 100) {v : Int32} {y : Cs} (he : oType x z = (v, y)) : CP mX7_type 0 0 [.ref 114, .int (nI z)] 228 σ (R2 v w y) := by

  have h : CP mX7_type 0 0 [.ref 114, .int (nI z)] 228 σ (R2 (oType x z).1 w (oType x z).2) := c_p hW.1 hW.2 (fun τ hT => a_type hT (show z < 65536 by omega)) rfl
  rw [he] at h
  exact h
set_option maxRecDepth 100000 in
set_option maxHeartbeats 4000000 in
theorem o_clear {σ : Sto} {w x : Cs} (hW : W2 σ w x) {v : Int32} {y : Cs} (he : oClear w = (v, y)) : CP mX7_clearText 0 0 [.ref 0] 228 σ (R2 v y x) := by

  have h : CP mX7_clearText 0 0 [.ref 0] 228 σ (R2 (oClear w).1 (oClear w).2 x) := c_o (a_clear hW.1) hW.2
  rw [he] at h
  exact h
set_option maxRecDepth 100000 in
set_option maxHeartbeats 4000000 in
theorem p_clear {σ : Sto} {w x : Cs} (hW : W2 σ w x) {v : Int32} {y : Cs} (he : oClear x = (v, y)) : CP mX7_clearText 0 0 [.ref 114] 228 σ (R2 v w y) := by

  have h : CP mX7_clearText 0 0 [.ref 114] 228 σ (R2 (oClear x).1 w (oClear x).2) := c_p hW.1 hW.2 (fun τ hT => a_clear hT) rfl
  rw [he] at h
  exact h
set_option maxRecDepth 100000 in
set_option maxHeartbeats 4000000 in
theorem o_read {σ : Sto} {w x : Cs} (hW : W2 σ w x) {v : Int32} {y : Cs} (he : oRead w = (v, y)) : CP mX7_read 0 0 [.ref 0] 228 σ (R2 v y x) := by

  have h : CP mX7_read 0 0 [.ref 0] 228 σ (R2 (oRead w).1 (oRead w).2 x) := c_o (a_read hW.1) hW.2
  rw [he] at h
  exact h
set_option maxRecDepth 100000 in
set_option maxHeartbeats 4000000 in
theorem p_read {σ : Sto} {w x : Cs} (hW : W2 σ w x) {v : Int32} {y : Cs} (he : oRead x = (v, y)) : CP mX7_read 0 0 [.ref 114] 228 σ (R2 v w y) := by

  have h : CP mX7_read 0 0 [.ref 114] 228 σ (R2 (oRead x).1 w (oRead x).2) := c_p hW.1 hW.2 (fun τ hT => a_read hT) rfl
  rw [he] at h
  exact h
set_option maxRecDepth 100000 in
set_option maxHeartbeats 4000000 in
theorem o_keep {σ : Sto} {w x : Cs} (hW : W2 σ w x) {v : Int32} {y : Cs} (he : oKeep w = (v, y)) : CP mX7_keep 0 0 [.ref 0] 228 σ (R2 v y x) := by

  have h : CP mX7_keep 0 0 [.ref 0] 228 σ (R2 (oKeep w).1 (oKeep w).2 x) := c_o (a_keep hW.1) hW.2
  rw [he] at h
  exact h
set_option maxRecDepth 100000 in
set_option maxHeartbeats 4000000 in
theorem p_keep {σ : Sto} {w x : Cs} (hW : W2 σ w x) {v : Int32} {y : Cs} (he : oKeep x = (v, y)) : CP mX7_keep 0 0 [.ref 114] 228 σ (R2 v w y) := by

  have h : CP mX7_keep 0 0 [.ref 114] 228 σ (R2 (oKeep x).1 w (oKeep x).2) := c_p hW.1 hW.2 (fun τ hT => a_keep hT) rfl
  rw [he] at h
  exact h
set_option maxRecDepth 100000 in
set_option maxHeartbeats 4000000 in
theorem o_back {σ : Sto} {w x : Cs} (hW : W2 σ w x) {v : Int32} {y : Cs} (he : oBack w = (v, y)) : CP mX7_restore 0 0 [.ref 0] 228 σ (R2 v y x) := by

  have h : CP mX7_restore 0 0 [.ref 0] 228 σ (R2 (oBack w).1 (oBack w).2 x) := c_o (a_back hW.1) hW.2
  rw [he] at h
  exact h
set_option maxRecDepth 100000 in
set_option maxHeartbeats 4000000 in
theorem p_back {σ : Sto} {w x : Cs} (hW : W2 σ w x) {v : Int32} {y : Cs} (he : oBack x = (v, y)) : CP mX7_restore 0 0 [.ref 114] 228 σ (R2 v w y) := by

  have h : CP mX7_restore 0 0 [.ref 114] 228 σ (R2 (oBack x).1 w (oBack x).2) := c_p hW.1 hW.2 (fun τ hT => a_back hT) rfl
  rw [he] at h
  exact h
set_option maxRecDepth 100000 in
set_option maxHeartbeats 4000000 in
theorem o_col {σ : Sto} {w x : Cs} (hW : W2 σ w x) {c : Nat} (hc : c < 100) {v : Int32} (he : (oCol w ((c : Nat) : Int)).1 = v) : CP mX7_column 0 0 [.ref 0, .int (nI c)] 228 σ (R2 v w x) := by
  rw [iI_nI]

  subst he
  exact c_o (a_col hW.1 (by omega) (by omega)) hW.2
set_option maxRecDepth 100000 in
set_option maxHeartbeats 4000000 in
theorem p_col {σ : Sto} {w x : Cs} (hW : W2 σ w x) {c : Nat} (hc : c < 100) {v : Int32} (he : (oCol x ((c : Nat) : Int)).1 = v) : CP mX7_column 0 0 [.ref 114, .int (nI c)] 228 σ (R2 v w x) := by
  rw [iI_nI]

  subst he
  exact c_p hW.1 hW.2 (fun τ hT => a_col hT (by omega) (by omega)) rfl
set_option maxRecDepth 100000 in
set_option maxHeartbeats 4000000 in
theorem o_we {σ : Sto} {w x : Cs} (hW : W2 σ w x) {z : Int} (z1 : -100000 ≤ z) (z2 : z ≤ 100000) {v : Int32} (he : (oWE w z).1 = v) : CP mX7_withEnergy 0 0 [.ref 0, .int (iI z)] 228 σ (R2 v w x) := by

  subst he
  exact c_o (a_we hW.1 (by omega) (by omega)) hW.2
set_option maxRecDepth 100000 in
set_option maxHeartbeats 4000000 in
theorem p_we {σ : Sto} {w x : Cs} (hW : W2 σ w x) {z : Int} (z1 : -100000 ≤ z) (z2 : z ≤ 100000) {v : Int32} (he : (oWE x z).1 = v) : CP mX7_withEnergy 0 0 [.ref 114, .int (iI z)] 228 σ (R2 v w x) := by

  subst he
  exact c_p hW.1 hW.2 (fun τ hT => a_we hT (by omega) (by omega)) rfl
set_option maxRecDepth 100000 in
set_option maxHeartbeats 4000000 in
theorem o_ww {σ : Sto} {w x : Cs} (hW : W2 σ w x) {z : Int} (z1 : -100000 ≤ z) (z2 : z ≤ 100000) {v : Int32} (he : (oWW w z).1 = v) : CP mX7_withWalls 0 0 [.ref 0, .int (iI z)] 228 σ (R2 v w x) := by

  subst he
  exact c_o (a_ww hW.1 (by omega) (by omega)) hW.2
set_option maxRecDepth 100000 in
set_option maxHeartbeats 4000000 in
theorem p_ww {σ : Sto} {w x : Cs} (hW : W2 σ w x) {z : Int} (z1 : -100000 ≤ z) (z2 : z ≤ 100000) {v : Int32} (he : (oWW x z).1 = v) : CP mX7_withWalls 0 0 [.ref 114, .int (iI z)] 228 σ (R2 v w x) := by

  subst he
  exact c_p hW.1 hW.2 (fun τ hT => a_ww hT (by omega) (by omega)) rfl
set_option maxRecDepth 100000 in
set_option maxHeartbeats 4000000 in
theorem o_wu {σ : Sto} {w x : Cs} (hW : W2 σ w x) {z : Int} (z1 : -100000 ≤ z) (z2 : z ≤ 100000) (l : Bool) {v : Int32} (he : (oWU w z l).1 = v) : CP mX7_withUps 0 0 [.ref 0, .int (iI z), .int (bI l)] 228 σ (R2 v w x) := by

  subst he
  exact c_o (a_wu hW.1 (by omega) (by omega) l) hW.2
set_option maxRecDepth 100000 in
set_option maxHeartbeats 4000000 in
theorem p_wu {σ : Sto} {w x : Cs} (hW : W2 σ w x) {z : Int} (z1 : -100000 ≤ z) (z2 : z ≤ 100000) (l : Bool) {v : Int32} (he : (oWU x z l).1 = v) : CP mX7_withUps 0 0 [.ref 114, .int (iI z), .int (bI l)] 228 σ (R2 v w x) := by

  subst he
  exact c_p hW.1 hW.2 (fun τ hT => a_wu hT (by omega) (by omega) l) rfl
set_option maxRecDepth 100000 in
set_option maxHeartbeats 4000000 in
theorem o_wwN {σ : Sto} {w x : Cs} (hW : W2 σ w x) {u : Nat} (hu : u < 1000) {v : Int32} (he : (oWW w u).1 = v) : CP mX7_withWalls 0 0 [.ref 0, .int (nI u)] 228 σ (R2 v w x) := by
  rw [iI_nI]

  subst he
  exact c_o (a_ww hW.1 (by omega) (by omega)) hW.2
set_option maxRecDepth 100000 in
set_option maxHeartbeats 4000000 in
theorem p_wwN {σ : Sto} {w x : Cs} (hW : W2 σ w x) {u : Nat} (hu : u < 1000) {v : Int32} (he : (oWW x u).1 = v) : CP mX7_withWalls 0 0 [.ref 114, .int (nI u)] 228 σ (R2 v w x) := by
  rw [iI_nI]

  subst he
  exact c_p hW.1 hW.2 (fun τ hT => a_ww hT (by omega) (by omega)) rfl
set_option maxRecDepth 100000 in
set_option maxHeartbeats 4000000 in
theorem o_wuN {σ : Sto} {w x : Cs} (hW : W2 σ w x) {u : Nat} (hu : u < 1000) (l : Bool) {v : Int32} (he : (oWU w u l).1 = v) : CP mX7_withUps 0 0 [.ref 0, .int (nI u), .int (bI l)] 228 σ (R2 v w x) := by
  rw [iI_nI]

  subst he
  exact c_o (a_wu hW.1 (by omega) (by omega) l) hW.2
set_option maxRecDepth 100000 in
set_option maxHeartbeats 4000000 in
theorem p_wuN {σ : Sto} {w x : Cs} (hW : W2 σ w x) {u : Nat} (hu : u < 1000) (l : Bool) {v : Int32} (he : (oWU x u l).1 = v) : CP mX7_withUps 0 0 [.ref 114, .int (nI u), .int (bI l)] 228 σ (R2 v w x) := by
  rw [iI_nI]

  subst he
  exact c_p hW.1 hW.2 (fun τ hT => a_wu hT (by omega) (by omega) l) rfl
set_option maxRecDepth 100000 in
set_option maxHeartbeats 4000000 in
theorem o_heat {σ : Sto} {w x : Cs} (hW : W2 σ w x) {z : Nat} (hz : z < 1000) (l : Bool) {v : Int32} (he : (oHeat w z l).1 = v) : CP mX7_heat 0 0 [.ref 0, .int (nI z), .int (bI l)] 228 σ (R2 v w x) := by
  rw [iI_nI]

  subst he
  exact c_o (a_heat hW.1 (by omega) (by omega) l) hW.2
set_option maxRecDepth 100000 in
set_option maxHeartbeats 4000000 in
theorem p_heat {σ : Sto} {w x : Cs} (hW : W2 σ w x) {z : Nat} (hz : z < 1000) (l : Bool) {v : Int32} (he : (oHeat x z l).1 = v) : CP mX7_heat 0 0 [.ref 114, .int (nI z), .int (bI l)] 228 σ (R2 v w x) := by
  rw [iI_nI]

  subst he
  exact c_p hW.1 hW.2 (fun τ hT => a_heat hT (by omega) (by omega) l) rfl
/-! a call of the law's -/
section LAWCALL
variable {M N : Mth} {mc ms : Nat} {Q : Option Value → Sto → Prop} {pc q idx na b : Nat} {As S st : List Value} {L : List (Option Value)} {σ : Sto} {r : Int32} {w x : Cs} {fs : List Value}
theorem P_api (d : decode M.2.1 pc = .ok (.invokevirtual idx, 3)) (hq : pc + 3 = q) (hl : LkV M.1.cls idx N na) (hM : CP N 0 0 (.ref b :: As) 228 σ (R2 r w x)) (hna : As.length = na) (hst : As.reverse ++ .ref b :: S = st) (hbn : b < 228) (hσ : ∃ fs, σ b = pO 7 fs) (hci : RX7 = N.1.cls) (hR : pw_fits N M) (hsum : (S.map fun v => v.category).sum ≤ 8)
    (kk : ∀ σ', W2 σ' w x → PW M 0 0 Q q L (.int r :: S) 228 σ' 0 0) : PW M 0 0 Q pc L st 228 σ 0 0 := by
  obtain ⟨fs, hσ⟩ := hσ
  refine P_callv d hq hM hl hna hst hbn hσ (congrArg some hci) hR hsum ⟨Nat.le_refl _, Nat.le_refl _⟩ (fun v σ' h => ?_)
  obtain ⟨rfl, h⟩ := h
  exact kk σ' h
end LAWCALL
def SnR (w x : Cs) : Prop := (w.Sn = none ∧ x.Sn = none) ∨ ∃ A B, w.Sn = some A ∧ x.Sn = some B ∧ Mir A B
/-- how the two objects stand to each other -/
def Rel (w x : Cs) : Prop := Mir w.A x.A ∧ SnR w x ∧ x.n = w.n
def Rel0 (w x : Cs) : Prop := x.A.al = w.A.al ∧ x.A.ac = w.A.ac ∧ SnR w x ∧ x.n = w.n
theorem Rel.r0 {w x : Cs} (h : Rel w x) : Rel0 w x := ⟨h.1.1.2.2.2.1, h.1.1.2.2.2.2, h.2.1, h.2.2⟩
/-- a step of the law holds -/
def LQ : Option Value → Sto → Prop := fun v σ' => v = some (.int (nI 1)) ∧ ∃ w x, W2 σ' w x ∧ Rel w x
