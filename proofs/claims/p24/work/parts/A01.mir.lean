/-! TWO STRIPS: the second one with each spin and each field of the other sign -/
def Mir (A B : St) : Prop := (B.C = A.C ∧ B.R = A.R ∧ B.g = A.g ∧ B.al = A.al ∧ B.ac = A.ac) ∧ (∀ c, c < A.C → B.sp c + A.sp c = 2 ^ A.R - 1) ∧ ∀ c r, c < A.C → r < A.R → B.fd c r = -A.fd c r
theorem cmp_bit {x y R r : Nat} (h : y + x = 2 ^ R - 1) (hr : r < R) : y.testBit r = !x.testBit r := by
  have h0 := Nat.two_pow_pos R
  have h2 : x < 2 ^ R := by omega
  have e : y = 2 ^ R - (x + 1) := by omega
  rw [e, Nat.testBit_two_pow_sub_succ h2, decide_eq_true hr, Bool.true_and]
theorem Mir.s {A B : St} (h : Mir A B) {c r : Nat} (hc : c < A.C) (hr : r < A.R) : B.s c r = -A.s c r := by
  unfold St.s
  rw [cmp_bit (h.2.1 c hc) hr]
  cases (A.sp c).testBit r <;> rfl
theorem Mir.lp {A B : St} (h : Mir A B) : B.lp = A.lp := by
  unfold St.lp
  rw [h.1.2.2.1, h.1.1]
theorem Mir.prv {A B : St} (h : Mir A B) : B.prv = A.prv := by
  funext c
  unfold St.prv
  rw [h.lp, h.1.1]
theorem Mir.nxt {A B : St} (h : Mir A B) : B.nxt = A.nxt := by
  funext c
  unfold St.nxt
  rw [h.lp, h.1.1]
theorem Mir.so {A B : St} (h : Mir A B) {o : Option Nat} {r : Nat} (ho : ∀ d, o = some d → d < A.C) (hr : r < A.R) : B.so o r = -A.so o r := by
  cases o with
  | none => rfl
  | some d => exact h.s (ho d rfl) hr
theorem Mir.sA {A B : St} (h : Mir A B) (hA : A.ok) {c r : Nat} (hc : c < A.C) (hr : r < A.R) : B.sA c r = -A.sA c r := by
  unfold St.sA
  rw [h.prv, h.nxt, h.so (fun d e => St.prv_lt hA hc e) hr, h.so (fun d e => St.nxt_lt hA e) hr]
  omega
theorem Mir.sX {A B : St} (h : Mir A B) {c r : Nat} (hc : c < A.C) (hr : r < A.R) : B.sX c r = -A.sX c r := by
  unfold St.sX
  rw [h.1.2.1]
  by_cases q1 : 0 < r
  · rw [if_pos q1, if_pos q1, h.s hc (show r - 1 < A.R by omega)]
    by_cases q2 : r + 1 < A.R
    · rw [if_pos q2, if_pos q2, h.s hc q2]; omega
    · rw [if_neg q2, if_neg q2]; omega
  · rw [if_neg q1, if_neg q1]
    by_cases q2 : r + 1 < A.R
    · rw [if_pos q2, if_pos q2, h.s hc q2]; omega
    · rw [if_neg q2, if_neg q2]; omega
theorem Mir.gain {A B : St} (h : Mir A B) (hA : A.ok) {c r : Nat} (hc : c < A.C) (hr : r < A.R) : B.gain c r = A.gain c r := by
  have e1 : A.al * -A.sA c r = -(A.al * A.sA c r) := Int.mul_neg _ _
  have e2 : A.ac * -A.sX c r = -(A.ac * A.sX c r) := Int.mul_neg _ _
  unfold St.gain
  rw [h.s hc hr, h.sA hA hc hr, h.sX hc hr, h.1.2.2.2.1, h.1.2.2.2.2, h.2.2 c r hc hr, e1, e2]
  generalize A.al * A.sA c r = x
  generalize A.ac * A.sX c r = y
  rcases A.s_pm c r with e | e <;> rw [e] <;> omega
theorem oZ_cg {o : Option Nat} {f g : Nat → Int} (h : ∀ d, o = some d → f d = g d) : oZ o f = oZ o g := by
  cases o with
  | none => rfl
  | some d => exact h d rfl
theorem Mir.ss {A B : St} (h : Mir A B) {c r d q : Nat} (hc : c < A.C) (hr : r < A.R) (hd : d < A.C) (hq : q < A.R) : B.s c r * B.s d q = A.s c r * A.s d q := by
  rw [h.s hc hr, h.s hd hq, Int.neg_mul_neg]
theorem Mir.half {A B : St} (h : Mir A B) (hA : A.ok) {fa fx ga gx : Nat → Nat → Nat → Int} (ha : ∀ c d r, c < A.C → d < A.C → r < A.R → fa c d r = ga c d r) (hx : ∀ c r q, c < A.C → r < A.R → q < A.R → fx c r q = gx c r q) : sumZ B.C (fun c => sumZ B.R (fun r => B.halfP fa fx c r)) = sumZ A.C (fun c => sumZ A.R (fun r => A.halfP ga gx c r)) := by
  rw [h.1.1, h.1.2.1]
  refine sumZ_congr fun c hc => sumZ_congr fun r hr => ?_
  unfold St.halfP
  rw [h.nxt, h.1.2.1, oZ_cg (fun d e => ha c d r hc (St.nxt_lt hA e) hr), oZ_cg (fun q e => hx c r q hc hr (dnr_lt e))]
theorem Mir.E {A B : St} (h : Mir A B) (hA : A.ok) : B.E = A.E := by
  have e1 : B.EP = A.EP := h.half hA (fun c d r hc hd hr => by rw [h.ss hc hr hd hr, h.1.2.2.2.1]) (fun c r q hc hr hq => by rw [h.ss hc hr hc hq, h.1.2.2.2.2])
  have e2 : B.EF = A.EF := by
    unfold St.EF
    rw [h.1.1, h.1.2.1]
    exact sumZ_congr fun c hc => sumZ_congr fun r hr => by rw [h.s hc hr, h.2.2 c r hc hr, Int.neg_mul_neg]
  unfold St.E
  rw [e1, e2]
theorem neg_bne (a b : Int) : (-a != -b) = (a != b) := by
  rw [Bool.eq_iff_iff]
  simp only [bne_iff_ne, ne_eq]
  omega
theorem Mir.WL {A B : St} (h : Mir A B) (hA : A.ok) : B.WL = A.WL :=
  h.half hA (fun c d r hc hd hr => by rw [h.s hc hr, h.s hd hr, neg_bne]) (fun c r q hc hr hq => by rw [h.s hc hr, h.s hc hq, neg_bne])
theorem Mir.PR {A B : St} (h : Mir A B) (hA : A.ok) : B.PR = A.PR := h.half hA (fun _ _ _ _ _ _ => rfl) (fun _ _ _ _ _ _ => rfl)
theorem Mir.GC {A B : St} (h : Mir A B) (hA : A.ok) : B.GC = A.GC := by
  unfold St.GC
  rw [h.1.1, h.1.2.1]
  refine sumZ_congr fun c hc => sumZ_congr fun r hr => ?_
  unfold St.pG
  rw [h.gain hA hc hr]
/-! bits, patches -/
theorem Mir.Ub {A B : St} (h : Mir A B) (hA : A.ok) (hB : B.ok) {c r : Nat} (hc : c < A.C) (hr : r < A.R) : B.U.testBit (4 * c + r) = !A.U.testBit (4 * c + r) := by
  have h3 := hA.2.1.2
  rw [St.U_cr hB c (show r < 4 by omega), St.U_cr hA c (show r < 4 by omega), cmp_bit (h.2.1 c hc) hr]
theorem Mir.lk {A B : St} (h : Mir A B) (hA : A.ok) (hB : B.ok) {c r : Nat} (hc : c < A.C) (hr : r < A.R) : B.lk (4 * c + r) = A.lk (4 * c + r) := by
  apply Nat.eq_of_testBit_eq
  intro p
  rw [St.lk_bit hB, St.lk_bit hA, h.1.1, h.1.2.1]
  cases hp : (mskN A.C A.R).testBit p with
  | false => rw [Bool.false_and, Bool.false_and]
  | true =>
    rw [mskN_bit hA.2.1.2, Bool.and_eq_true, decide_eq_true_eq, decide_eq_true_eq] at hp
    have e := h.Ub hA hB hp.1 hp.2
    rw [show 4 * (p / 4) + p % 4 = p by omega] at e
    rw [e, h.Ub hA hB hc hr]
    generalize A.U.testBit p = u
    generalize A.U.testBit (4 * c + r) = v
    cases u <;> cases v <;> rfl
theorem Mir.bN {A B : St} (h : Mir A B) (a : Nat) : B.bN a = A.bN a := by
  unfold St.bN St.bA St.bX
  rw [h.1.1, h.1.2.1, h.lp]
theorem Mir.pIt {A B : St} (h : Mir A B) (hA : A.ok) (hB : B.ok) {c r : Nat} (hc : c < A.C) (hr : r < A.R) : ∀ n, B.pIt (4 * c + r) n = A.pIt (4 * c + r) n
  | 0 => rfl
  | n + 1 => by rw [St.pIt, St.pIt, h.pIt hA hB hc hr n, h.bN, h.lk hA hB hc hr]
theorem Mir.ptc {A B : St} (h : Mir A B) (hA : A.ok) (hB : B.ok) (p : Nat × Nat) {c : Nat} (hc : c < A.C) : ∀ r, r ≤ A.R → B.ptc p c r = A.ptc p c r
  | 0, _ => rfl
  | r + 1, hr => by rw [St.ptc, St.ptc, h.ptc hA hB p hc r (by omega), h.pIt hA hB hc (show r < A.R by omega)]
theorem Mir.ptp {A B : St} (h : Mir A B) (hA : A.ok) (hB : B.ok) : ∀ c, c ≤ A.C → B.ptp c = A.ptp c
  | 0, _ => rfl
  | c + 1, hc => by rw [St.ptp, St.ptp, h.ptp hA hB c (by omega), h.1.2.1, h.ptc hA hB _ (show c < A.C by omega) A.R (Nat.le_refl _)]
/-! turning -/
theorem cmp_xor : ∀ R, R < 4 → ∀ x, x < 2 ^ R → ∀ d, d < 2 ^ R → ((2 ^ R - 1 - x) ^^^ d) + (x ^^^ d) = 2 ^ R - 1 := by decide +kernel
theorem dig_lt {C R a : Nat} (hR : R ≤ 3) (ha : ∀ p, a.testBit p = true → (mskN C R).testBit p = true) (c : Nat) : a / 16 ^ c % 16 < 2 ^ R := by
  apply Nat.lt_pow_two_of_testBit
  intro i hi
  rw [dig_bit]
  by_cases h4 : i < 4
  · cases e : a.testBit (4 * c + i) with
    | false => rw [Bool.and_false]
    | true =>
      have h := ha _ e
      rw [mskN_bit hR, Bool.and_eq_true, decide_eq_true_eq, decide_eq_true_eq] at h
      omega
  · rw [decide_eq_false h4, Bool.false_and]
theorem Mir.flip {A B : St} (h : Mir A B) (hA : A.ok) {a : Nat} (ha : ∀ p, a.testBit p = true → (mskN A.C A.R).testBit p = true) : Mir (A.flip a) (B.flip a) := by
  refine ⟨h.1, fun c hc => ?_, h.2.2⟩
  have hc' : c < A.C := hc
  have e := h.2.1 c hc'
  have hd := dig_lt hA.2.1.2 ha c
  have hx : A.sp c < 2 ^ A.R := hA.2.2.2.2.2.1 c
  show (B.sp c ^^^ (a / 16 ^ c % 16)) + (A.sp c ^^^ (a / 16 ^ c % 16)) = 2 ^ A.R - 1
  rw [show B.sp c = 2 ^ A.R - 1 - A.sp c by omega]
  exact cmp_xor A.R (by have := hA.2.1.2; omega) _ hx _ hd
theorem Mir.stp {A B : St} (h : Mir A B) (hA : A.ok) {c r : Nat} (hc : c < A.C) (hr : r < A.R) : Mir (A.stp c r) (B.stp c r) := by
  unfold St.stp
  rw [h.gain hA hc hr]
  split
  · exact h.flip hA (one_sub hA hc hr)
  · exact h
theorem like_rf {A : St} (hA : A.ok) : A.like A := ⟨hA, rfl, rfl, rfl, rfl, rfl, rfl⟩
theorem Mir.swc {A B : St} (h : Mir A B) (hA : A.ok) {c : Nat} (hc : c < A.C) : ∀ n, n ≤ A.R → Mir (A.swc c n) (B.swc c n)
  | 0, _ => h
  | n + 1, hn => by
    have l := St.swc_like (like_rf hA) hc n (by omega)
    exact (h.swc hA hc n (by omega)).stp l.1 (by rw [l.2.1]; exact hc) (by rw [l.2.2.1]; omega)
theorem Mir.cnc {A B : St} (h : Mir A B) (hA : A.ok) {c : Nat} (hc : c < A.C) : ∀ n, n ≤ A.R → B.cnc c n = A.cnc c n
  | 0, _ => rfl
  | n + 1, hn => by
    have l := St.swc_like (like_rf hA) hc n (by omega)
    rw [St.cnc, St.cnc, h.cnc hA hc n (by omega), (h.swc hA hc n (by omega)).gain l.1 (by rw [l.2.1]; exact hc) (by rw [l.2.2.1]; omega)]
theorem Mir.swp {A B : St} (h : Mir A B) (hA : A.ok) : ∀ n, n ≤ A.C → Mir (A.swp n) (B.swp n)
  | 0, _ => h
  | n + 1, hn => by
    have l := St.swp_like hA n (by omega)
    rw [St.swp, St.swp, h.1.2.1]
    exact (h.swp hA n (by omega)).swc l.1 (by rw [l.2.1]; omega) A.R (by rw [l.2.2.1]; exact Nat.le_refl _)
theorem Mir.cnp {A B : St} (h : Mir A B) (hA : A.ok) : ∀ n, n ≤ A.C → B.cnp n = A.cnp n
  | 0, _ => rfl
  | n + 1, hn => by
    have l := St.swp_like hA n (by omega)
    rw [St.cnp, St.cnp, h.cnp hA n (by omega), h.1.2.1, (h.swp hA n (by omega)).cnc l.1 (by rw [l.2.1]; omega) A.R (by rw [l.2.2.1]; exact Nat.le_refl _)]
theorem Mir.run : ∀ (k : Nat) {A B : St}, Mir A B → A.ok → Mir (St.run k A).1 (St.run k B).1 ∧ (St.run k B).2 = (St.run k A).2
  | 0, _, _, h, _ => ⟨h, rfl⟩
  | k + 1, A, B, h, hA => by
    rw [St.run, St.run, h.1.1, h.cnp hA A.C (Nat.le_refl _)]
    split
    · exact ⟨h, rfl⟩
    · have r := Mir.run k (h.swp hA A.C (Nat.le_refl _)) (St.swp_like hA A.C (Nat.le_refl _)).1
      exact ⟨r.1, by rw [r.2]⟩
/-! other rings, pulls, fields -/
theorem Mir.rg {A B : St} (h : Mir A B) (g : Nat) : Mir (A.rg g) (B.rg g) := ⟨⟨h.1.1, h.1.2.1, rfl, h.1.2.2.2⟩, h.2⟩
theorem Mir.pl {A B : St} (h : Mir A B) (a : Bool) (z : Int) : Mir (A.pl a z) (B.pl a z) := by
  cases a
  · exact ⟨⟨h.1.1, h.1.2.1, h.1.2.2.1, rfl, h.1.2.2.2.2⟩, h.2⟩
  · exact ⟨⟨h.1.1, h.1.2.1, h.1.2.2.1, h.1.2.2.2.1, rfl⟩, h.2⟩
theorem Mir.pv {A B : St} (h : Mir A B) (a : Bool) : B.pv a = A.pv a := by
  cases a
  · exact h.1.2.2.2.1
  · exact h.1.2.2.2.2
theorem Mir.pf {A B : St} (h : Mir A B) (c0 r0 : Nat) (z : Int) : Mir (A.pf c0 r0 z) (B.pf c0 r0 (-z)) := by
  refine ⟨h.1, h.2.1, fun c r hc hr => ?_⟩
  show (if c = c0 ∧ r = r0 then -z else B.fd c r) = -(if c = c0 ∧ r = r0 then z else A.fd c r)
  split
  · rfl
  · exact h.2.2 c r hc hr
