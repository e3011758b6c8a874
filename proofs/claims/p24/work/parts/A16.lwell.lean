/-! THE LAW: what the cells come to -/
/-- a sum over the cells before the row r of the column c -/
def St.ps (A : St) (f : Nat → Nat → Int) (c r : Nat) : Int := sumZ c (fun i => sumZ A.R (f i)) + sumZ r (f c)
theorem ps_s (A : St) (f : Nat → Nat → Int) (c r : Nat) : A.ps f c (r + 1) = A.ps f c r + f c r := by
  unfold St.ps
  rw [sumZ]
  omega
theorem ps_c (A : St) (f : Nat → Nat → Int) (c : Nat) : A.ps f (c + 1) 0 = A.ps f c A.R := by
  unfold St.ps
  rw [sumZ, sumZ]
  omega
theorem ps_0 (A : St) (f : Nat → Nat → Int) : A.ps f 0 0 = 0 := rfl
theorem ps_e (A : St) (f : Nat → Nat → Int) : A.ps f A.C 0 = A.sum2 f := by
  unfold St.ps St.sum2
  rw [sumZ]
  omega
def fN (A : St) (c r : Nat) : Int := (A.nn c r : Int)
def fL (A : St) (c r : Nat) : Int := (A.nl c r : Int)
def fU' (A : St) (c r : Nat) : Int := if 0 < A.s c r then 1 else 0
def fG (A : St) (c r : Nat) : Int := if 0 < A.gain c r then 1 else 0
def fF (A : St) (c r : Nat) : Int := A.fd c r * A.s c r
def fS' (A : St) (c r : Nat) : Int := (shr (A.z (4 * c + r)) : Int)
theorem rem2 {k : Int} (h1 : -1000 ≤ k) (h2 : k ≤ 1000) : iI (2 * k) - iI (2 * k) / nI 2 * nI 2 = nI 0 := by
  rw [iI_half (by omega) (by omega), show nI 2 = iI 2 from iI_nI 2, iI_mul, iI_sub, show 2 * k - k * 2 = 0 by omega]
  rfl
theorem shr_dec : ∀ z, z < 31 → 1 ≤ z → z < 13 → 27720 / z = shr z := by decide +kernel
theorem shr_0 {z : Nat} (h : ¬ z < 13) : shr z = 0 := if_neg h
theorem ptk_le {A : St} (hA : A.ok) : ∀ k, (A.ptk k).1 ≤ k
  | 0 => by rw [ptk_0]; exact Nat.le_refl _
  | k + 1 => by
    have := ptk_le hA k
    rw [ptk_s hA]
    split
    · omega
    · show (A.ptk k).1 + 1 ≤ k + 1; omega
theorem sumN_Z2 (C R : Nat) (f : Nat → Nat → Nat) : ((sumN C (fun c => sumN R (f c)) : Nat) : Int) = sumZ C (fun c => sumZ R (fun r => (f c r : Int))) := by
  rw [sumZ_N]
  exact sumZ_congr fun c _ => sumZ_N R (f c)
set_option maxRecDepth 100000 in
set_option maxHeartbeats 4000000 in
theorem w_we6 {σ : Sto} {w x : Cs} {c r : Nat} (hA : w.A.ok) (hc : c < w.A.C) (hr : r < w.A.R) (hW : W2 σ w x) (K : ∀ (σ : Sto) (x12 x13 x14 x15 x16 : Option Value), W2 σ w x → PW mL_isWell 0 0 (fun v σ' => v = some (.int (nI 1)) ∧ W2 σ' w x) 49 [some (.ref 0), some (.int (nI w.A.R)), some (.int (nI w.A.C)), some (.int (iI (w.A.ps (fN w.A) c (r + 1)))), some (.int (iI (w.A.ps (fL w.A) c (r + 1)))), some (.int (iI (w.A.ps (fU' w.A) c (r + 1)))), some (.int (iI (w.A.ps (fG w.A) c (r + 1)))), some (.int (iI (w.A.ps (fF w.A) c (r + 1)))), some (.int (iI (w.A.ps (fS' w.A) c (r + 1)))), some (.int (nI 1)), some (.int (nI c)), some (.int (nI (r + 1))), x12, x13, x14, x15, x16] [] 228 σ 0 0) : PW mL_isWell 0 0 (fun v σ' => v = some (.int (nI 1)) ∧ W2 σ' w x) 252 [some (.ref 0), some (.int (nI w.A.R)), some (.int (nI w.A.C)), some (.int (iI (w.A.ps (fN w.A) c (r + 1)))), some (.int (iI (w.A.ps (fL w.A) c (r + 1)))), some (.int (iI (w.A.ps (fU' w.A) c (r + 1)))), some (.int (iI (w.A.ps (fG w.A) c (r + 1)))), some (.int (iI (w.A.ps (fF w.A) c (r + 1)))), some (.int (iI (w.A.ps (fS' w.A) c (r + 1)))), some (.int (nI 1)), some (.int (nI c)), some (.int (nI r)), some (.int (iI (w.A.gain c r))), some (.int (iI (w.A.nn c r))), some (.int (iI (w.A.nl c r))), some (.int (iI (w.A.s c r))), some (.int (nI (w.A.z (4 * c + r))))] [] 228 σ 0 0 := by
  have hC := hA.1
  have hR := hA.2.1
  have hg := St.gain_in hA c r
  obtain ⟨z1, z2⟩ := z_in hA hc hr
  obtain ⟨-, -, n4, nl4⟩ := nn_nl hA hc hr
  refine P_iload (q := 254) dL_isWell_252 rfl rfl ?_
  refine P_iconst (q := 255) (v := nI 2) dL_isWell_254 rfl (by decide +kernel) ?_
  obtain ⟨k, hk⟩ := gain_even w.A c r
  refine P_irem (q := 256) dL_isWell_255 rfl (by decide) ?_
  rw [show iI (w.A.gain c r) - iI (w.A.gain c r) / nI 2 * nI 2 = nI 0 from by rw [hk]; exact rem2 (by omega) (by omega)]
  refine P_if_ne (q := 259) (tgt := 294) dL_isWell_256 rfl (by decide) (fun c_256 => ?_) (fun c_256 => ?_)
  · exact absurd (rfl) c_256
  · refine P_aload_n (q := 260) dL_isWell_259 rfl rfl ?_
    refine P_iload (q := 262) dL_isWell_260 rfl rfl ?_
    refine P_iload (q := 264) dL_isWell_262 rfl rfl ?_
    refine P_iconst (q := 265) (v := nI 3) dL_isWell_264 rfl (by decide +kernel) ?_
    refine P_api (q := 268) dL_isWell_265 rfl kL_40 (o_cell hW hr hc (by omega) (by omega) 3 (by decide) (v := rsn (w.A.gain c r)) (cellv hr hc 3)) rfl rfl (by decide) (hW.oo) rfl ⟨by decide, by decide⟩ (Nat.le_of_ble_eq_true rfl) ?_
    intro σ1 hW1
    refine P_iload (q := 270) dL_isWell_268 rfl rfl ?_
    refine P_if_le (q := 273) (tgt := 277) dL_isWell_270 rfl (by decide) (fun c_270 => ?_) (fun c_270 => ?_)
    · rw [show (0 : Int32) = iI 0 from rfl, iI_le (by omega) (by omega) (by omega) (by omega)] at c_270
      refine P_iload (q := 279) dL_isWell_277 rfl rfl ?_
      refine P_if_ne (q := 282) (tgt := 286) dL_isWell_279 rfl (by decide) (fun c_279 => ?_) (fun c_279 => ?_)
      · rw [show (0 : Int32) = iI 0 from rfl, iI_inj (by omega) (by omega) (by omega) (by omega)] at c_279
        refine P_iconst (q := 287) (v := nI 2) dL_isWell_286 rfl (by decide +kernel) ?_
        refine P_icmp_ne (q := 290) (tgt := 294) dL_isWell_287 rfl (by decide) (fun c_287 => ?_) (fun c_287 => ?_)
        · exfalso
          apply c_287
          unfold rsn
          first | (rw [if_pos (by omega)]; done) | (rw [if_neg (by omega), if_pos (by omega)]; done) | (rw [if_neg (by omega), if_neg (by omega)]; done)
        · refine P_iconst (q := 291) (v := nI 1) dL_isWell_290 rfl (by decide +kernel) ?_
          refine P_goto (tgt := 295) dL_isWell_291 (by decide) ?_
          refine P_istore (q := 297) (L' := [_, _, _, _, _, _, _, _, _, _, _, _, _, _, _, _, _]) dL_isWell_295 rfl (by decide) rfl ?_
          refine P_iinc (q := 300) (L' := [_, _, _, _, _, _, _, _, _, _, _, _, _, _, _, _, _]) (v := nI (r + 1)) dL_isWell_297 rfl (by decide) rfl (nI_1 r) rfl ?_
          refine P_goto (tgt := 49) dL_isWell_300 (by decide) ?_
          exact K _ _ _ _ _ _ hW1
      · rw [show (0 : Int32) = iI 0 from rfl, iI_inj (by omega) (by omega) (by omega) (by omega)] at c_279
        refine P_iconst (q := 283) (v := nI 1) dL_isWell_282 rfl (by decide +kernel) ?_
        refine P_goto (tgt := 287) dL_isWell_283 (by decide) ?_
        refine P_icmp_ne (q := 290) (tgt := 294) dL_isWell_287 rfl (by decide) (fun c_287 => ?_) (fun c_287 => ?_)
        · exfalso
          apply c_287
          unfold rsn
          first | (rw [if_pos (by omega)]; done) | (rw [if_neg (by omega), if_pos (by omega)]; done) | (rw [if_neg (by omega), if_neg (by omega)]; done)
        · refine P_iconst (q := 291) (v := nI 1) dL_isWell_290 rfl (by decide +kernel) ?_
          refine P_goto (tgt := 295) dL_isWell_291 (by decide) ?_
          refine P_istore (q := 297) (L' := [_, _, _, _, _, _, _, _, _, _, _, _, _, _, _, _, _]) dL_isWell_295 rfl (by decide) rfl ?_
          refine P_iinc (q := 300) (L' := [_, _, _, _, _, _, _, _, _, _, _, _, _, _, _, _, _]) (v := nI (r + 1)) dL_isWell_297 rfl (by decide) rfl (nI_1 r) rfl ?_
          refine P_goto (tgt := 49) dL_isWell_300 (by decide) ?_
          exact K _ _ _ _ _ _ hW1
    · rw [show (0 : Int32) = iI 0 from rfl, iI_le (by omega) (by omega) (by omega) (by omega)] at c_270
      refine P_iconst (q := 274) (v := nI 0) dL_isWell_273 rfl (by decide +kernel) ?_
      refine P_goto (tgt := 287) dL_isWell_274 (by decide) ?_
      refine P_icmp_ne (q := 290) (tgt := 294) dL_isWell_287 rfl (by decide) (fun c_287 => ?_) (fun c_287 => ?_)
      · exfalso
        apply c_287
        unfold rsn
        first | (rw [if_pos (by omega)]; done) | (rw [if_neg (by omega), if_pos (by omega)]; done) | (rw [if_neg (by omega), if_neg (by omega)]; done)
      · refine P_iconst (q := 291) (v := nI 1) dL_isWell_290 rfl (by decide +kernel) ?_
        refine P_goto (tgt := 295) dL_isWell_291 (by decide) ?_
        refine P_istore (q := 297) (L' := [_, _, _, _, _, _, _, _, _, _, _, _, _, _, _, _, _]) dL_isWell_295 rfl (by decide) rfl ?_
        refine P_iinc (q := 300) (L' := [_, _, _, _, _, _, _, _, _, _, _, _, _, _, _, _, _]) (v := nI (r + 1)) dL_isWell_297 rfl (by decide) rfl (nI_1 r) rfl ?_
        refine P_goto (tgt := 49) dL_isWell_300 (by decide) ?_
        exact K _ _ _ _ _ _ hW1
set_option maxRecDepth 100000 in
set_option maxHeartbeats 4000000 in
theorem w_we5 {σ : Sto} {w x : Cs} {c r : Nat} (hA : w.A.ok) (hc : c < w.A.C) (hr : r < w.A.R) (hW : W2 σ w x) (K : ∀ (σ : Sto) (x12 x13 x14 x15 x16 : Option Value), W2 σ w x → PW mL_isWell 0 0 (fun v σ' => v = some (.int (nI 1)) ∧ W2 σ' w x) 49 [some (.ref 0), some (.int (nI w.A.R)), some (.int (nI w.A.C)), some (.int (iI (w.A.ps (fN w.A) c (r + 1)))), some (.int (iI (w.A.ps (fL w.A) c (r + 1)))), some (.int (iI (w.A.ps (fU' w.A) c (r + 1)))), some (.int (iI (w.A.ps (fG w.A) c (r + 1)))), some (.int (iI (w.A.ps (fF w.A) c (r + 1)))), some (.int (iI (w.A.ps (fS' w.A) c (r + 1)))), some (.int (nI 1)), some (.int (nI c)), some (.int (nI (r + 1))), x12, x13, x14, x15, x16] [] 228 σ 0 0) : PW mL_isWell 0 0 (fun v σ' => v = some (.int (nI 1)) ∧ W2 σ' w x) 209 [some (.ref 0), some (.int (nI w.A.R)), some (.int (nI w.A.C)), some (.int (iI (w.A.ps (fN w.A) c (r + 1)))), some (.int (iI (w.A.ps (fL w.A) c (r + 1)))), some (.int (iI (w.A.ps (fU' w.A) c (r + 1)))), some (.int (iI (w.A.ps (fG w.A) c (r + 1)))), some (.int (iI (w.A.ps (fF w.A) c (r + 1)))), some (.int (iI (w.A.ps (fS' w.A) c (r + 1)))), some (.int (nI 1)), some (.int (nI c)), some (.int (nI r)), some (.int (iI (w.A.gain c r))), some (.int (iI (w.A.nn c r))), some (.int (iI (w.A.nl c r))), some (.int (iI (w.A.s c r))), some (.int (nI (w.A.z (4 * c + r))))] [] 228 σ 0 0 := by
  have hC := hA.1
  have hR := hA.2.1
  have hg := St.gain_in hA c r
  obtain ⟨z1, z2⟩ := z_in hA hc hr
  obtain ⟨-, -, n4, nl4⟩ := nn_nl hA hc hr
  have hz := z_nl hA hc hr
  refine P_iload (q := 211) dL_isWell_209 rfl rfl ?_
  refine P_iload (q := 213) dL_isWell_211 rfl rfl ?_
  refine P_icmp_gt (q := 216) (tgt := 294) dL_isWell_213 rfl (by decide) (fun c_213 => ?_) (fun c_213 => ?_)
  · exfalso; rw [iI_lt (by omega) (by omega) (by omega) (by omega)] at c_213; omega
  · refine P_iload (q := 218) dL_isWell_216 rfl rfl ?_
    refine P_iconst (q := 219) (v := iI 4) dL_isWell_218 rfl (by decide +kernel) ?_
    refine P_icmp_gt (q := 222) (tgt := 294) dL_isWell_219 rfl (by decide) (fun c_219 => ?_) (fun c_219 => ?_)
    · exfalso; rw [iI_lt (by omega) (by omega) (by omega) (by omega)] at c_219; omega
    · refine P_iload (q := 224) dL_isWell_222 rfl rfl ?_
      refine P_iconst (q := 225) (v := nI 1) dL_isWell_224 rfl (by decide +kernel) ?_
      refine P_icmp_lt (q := 228) (tgt := 294) dL_isWell_225 rfl (by decide) (fun c_225 => ?_) (fun c_225 => ?_)
      · exfalso; rw [nI_ltI (by omega) (by omega)] at c_225; omega
      · refine P_iload (q := 230) dL_isWell_228 rfl rfl ?_
        refine P_iconst (q := 231) (v := nI 1) dL_isWell_230 rfl (by decide +kernel) ?_
        refine P_icmp_le (q := 234) (tgt := 238) dL_isWell_231 rfl (by decide) (fun c_231 => ?_) (fun c_231 => ?_)
        · rw [nI_leI (by omega) (by omega)] at c_231
          refine P_iconst (q := 239) (v := nI 0) dL_isWell_238 rfl (by decide +kernel) ?_
          refine P_iload (q := 241) dL_isWell_239 rfl rfl ?_
          refine P_if_le (q := 244) (tgt := 248) dL_isWell_241 rfl (by decide) (fun c_241 => ?_) (fun c_241 => ?_)
          · rw [show (0 : Int32) = iI 0 from rfl, iI_le (by omega) (by omega) (by omega) (by omega)] at c_241
            refine P_iconst (q := 249) (v := nI 0) dL_isWell_248 rfl (by decide +kernel) ?_
            refine P_icmp_ne (q := 252) (tgt := 294) dL_isWell_249 rfl (by decide) (fun c_249 => ?_) (fun c_249 => ?_)
            · first | exact absurd rfl c_249 | (exfalso; omega)
            · exact w_we6 hA hc hr hW K
          · rw [show (0 : Int32) = iI 0 from rfl, iI_le (by omega) (by omega) (by omega) (by omega)] at c_241
            refine P_iconst (q := 245) (v := nI 1) dL_isWell_244 rfl (by decide +kernel) ?_
            refine P_goto (tgt := 249) dL_isWell_245 (by decide) ?_
            refine P_icmp_ne (q := 252) (tgt := 294) dL_isWell_249 rfl (by decide) (fun c_249 => ?_) (fun c_249 => ?_)
            · first | exact absurd rfl c_249 | (exfalso; omega)
            · exact w_we6 hA hc hr hW K
        · rw [nI_leI (by omega) (by omega)] at c_231
          refine P_iconst (q := 235) (v := nI 1) dL_isWell_234 rfl (by decide +kernel) ?_
          refine P_goto (tgt := 239) dL_isWell_235 (by decide) ?_
          refine P_iload (q := 241) dL_isWell_239 rfl rfl ?_
          refine P_if_le (q := 244) (tgt := 248) dL_isWell_241 rfl (by decide) (fun c_241 => ?_) (fun c_241 => ?_)
          · rw [show (0 : Int32) = iI 0 from rfl, iI_le (by omega) (by omega) (by omega) (by omega)] at c_241
            refine P_iconst (q := 249) (v := nI 0) dL_isWell_248 rfl (by decide +kernel) ?_
            refine P_icmp_ne (q := 252) (tgt := 294) dL_isWell_249 rfl (by decide) (fun c_249 => ?_) (fun c_249 => ?_)
            · first | exact absurd rfl c_249 | (exfalso; omega)
            · exact w_we6 hA hc hr hW K
          · rw [show (0 : Int32) = iI 0 from rfl, iI_le (by omega) (by omega) (by omega) (by omega)] at c_241
            refine P_iconst (q := 245) (v := nI 1) dL_isWell_244 rfl (by decide +kernel) ?_
            refine P_goto (tgt := 249) dL_isWell_245 (by decide) ?_
            refine P_icmp_ne (q := 252) (tgt := 294) dL_isWell_249 rfl (by decide) (fun c_249 => ?_) (fun c_249 => ?_)
            · first | exact absurd rfl c_249 | (exfalso; omega)
            · exact w_we6 hA hc hr hW K
set_option maxRecDepth 100000 in
set_option maxHeartbeats 4000000 in
theorem w_we4 {σ : Sto} {w x : Cs} {c r : Nat} (hA : w.A.ok) (hc : c < w.A.C) (hr : r < w.A.R) (hW : W2 σ w x) (K : ∀ (σ : Sto) (x12 x13 x14 x15 x16 : Option Value), W2 σ w x → PW mL_isWell 0 0 (fun v σ' => v = some (.int (nI 1)) ∧ W2 σ' w x) 49 [some (.ref 0), some (.int (nI w.A.R)), some (.int (nI w.A.C)), some (.int (iI (w.A.ps (fN w.A) c (r + 1)))), some (.int (iI (w.A.ps (fL w.A) c (r + 1)))), some (.int (iI (w.A.ps (fU' w.A) c (r + 1)))), some (.int (iI (w.A.ps (fG w.A) c (r + 1)))), some (.int (iI (w.A.ps (fF w.A) c (r + 1)))), some (.int (iI (w.A.ps (fS' w.A) c (r + 1)))), some (.int (nI 1)), some (.int (nI c)), some (.int (nI (r + 1))), x12, x13, x14, x15, x16] [] 228 σ 0 0) : PW mL_isWell 0 0 (fun v σ' => v = some (.int (nI 1)) ∧ W2 σ' w x) 197 [some (.ref 0), some (.int (nI w.A.R)), some (.int (nI w.A.C)), some (.int (iI (w.A.ps (fN w.A) c (r + 1)))), some (.int (iI (w.A.ps (fL w.A) c (r + 1)))), some (.int (iI (w.A.ps (fU' w.A) c (r + 1)))), some (.int (iI (w.A.ps (fG w.A) c (r + 1)))), some (.int (iI (w.A.ps (fF w.A) c (r + 1)))), some (.int (iI (w.A.ps (fS' w.A) c (r + 1)))), some (.int (nI 1)), some (.int (nI c)), some (.int (nI r)), some (.int (iI (w.A.gain c r))), some (.int (iI (w.A.nn c r))), some (.int (iI (w.A.nl c r))), some (.int (iI (w.A.s c r))), some (.int (nI (w.A.z (4 * c + r))))] [] 228 σ 0 0 := by
  have hC := hA.1
  have hR := hA.2.1
  have hg := St.gain_in hA c r
  obtain ⟨z1, z2⟩ := z_in hA hc hr
  obtain ⟨-, -, n4, nl4⟩ := nn_nl hA hc hr
  rcases w.A.s_pm c r with e | e
  · have hx : iI (w.A.s c r) = nI 1 := by rw [e]; rfl
    refine P_iload (q := 199) dL_isWell_197 rfl rfl ?_
    refine P_iconst (q := 200) (v := nI 1) dL_isWell_199 rfl (by decide +kernel) ?_
    refine P_icmp_eq (q := 203) (tgt := 209) dL_isWell_200 rfl (by decide) (fun c_200 => ?_) (fun c_200 => ?_)
    · exact w_we5 hA hc hr hW K
    · exact absurd hx c_200
  · have hx : ¬ iI (w.A.s c r) = nI 1 := by rw [e]; decide
    have hy : iI (w.A.s c r) = (-1) := by rw [e]; rfl
    refine P_iload (q := 199) dL_isWell_197 rfl rfl ?_
    refine P_iconst (q := 200) (v := nI 1) dL_isWell_199 rfl (by decide +kernel) ?_
    refine P_icmp_eq (q := 203) (tgt := 209) dL_isWell_200 rfl (by decide) (fun c_200 => ?_) (fun c_200 => ?_)
    · exact absurd c_200 hx
    · refine P_iload (q := 205) dL_isWell_203 rfl rfl ?_
      refine P_iconst (q := 206) (v := (-1)) dL_isWell_205 rfl (by decide +kernel) ?_
      refine P_icmp_ne (q := 209) (tgt := 294) dL_isWell_206 rfl (by decide) (fun c_206 => ?_) (fun c_206 => ?_)
      · exact absurd hy c_206
      · exact w_we5 hA hc hr hW K
set_option maxRecDepth 100000 in
set_option maxHeartbeats 4000000 in
theorem w_we3 {σ : Sto} {w x : Cs} {c r : Nat} (hA : w.A.ok) (hc : c < w.A.C) (hr : r < w.A.R) (hW : W2 σ w x) (K : ∀ (σ : Sto) (x12 x13 x14 x15 x16 : Option Value), W2 σ w x → PW mL_isWell 0 0 (fun v σ' => v = some (.int (nI 1)) ∧ W2 σ' w x) 49 [some (.ref 0), some (.int (nI w.A.R)), some (.int (nI w.A.C)), some (.int (iI (w.A.ps (fN w.A) c (r + 1)))), some (.int (iI (w.A.ps (fL w.A) c (r + 1)))), some (.int (iI (w.A.ps (fU' w.A) c (r + 1)))), some (.int (iI (w.A.ps (fG w.A) c (r + 1)))), some (.int (iI (w.A.ps (fF w.A) c (r + 1)))), some (.int (iI (w.A.ps (fS' w.A) c (r + 1)))), some (.int (nI 1)), some (.int (nI c)), some (.int (nI (r + 1))), x12, x13, x14, x15, x16] [] 228 σ 0 0) : PW mL_isWell 0 0 (fun v σ' => v = some (.int (nI 1)) ∧ W2 σ' w x) 175 [some (.ref 0), some (.int (nI w.A.R)), some (.int (nI w.A.C)), some (.int (iI (w.A.ps (fN w.A) c (r + 1)))), some (.int (iI (w.A.ps (fL w.A) c (r + 1)))), some (.int (iI (w.A.ps (fU' w.A) c (r + 1)))), some (.int (iI (w.A.ps (fG w.A) c (r + 1)))), some (.int (iI (w.A.ps (fF w.A) c (r + 1)))), some (.int (iI (w.A.ps (fS' w.A) c r))), some (.int (nI 1)), some (.int (nI c)), some (.int (nI r)), some (.int (iI (w.A.gain c r))), some (.int (iI (w.A.nn c r))), some (.int (iI (w.A.nl c r))), some (.int (iI (w.A.s c r))), some (.int (nI (w.A.z (4 * c + r))))] [] 228 σ 0 0 := by
  have hC := hA.1
  have hR := hA.2.1
  have hg := St.gain_in hA c r
  obtain ⟨z1, z2⟩ := z_in hA hc hr
  obtain ⟨-, -, n4, nl4⟩ := nn_nl hA hc hr
  refine P_iload (q := 177) dL_isWell_175 rfl rfl ?_
  refine P_iload (q := 179) dL_isWell_177 rfl rfl ?_
  refine P_bipush (q := 181) (v := nI 13) dL_isWell_179 rfl (by decide +kernel) ?_
  refine P_icmp_ge (q := 184) (tgt := 193) dL_isWell_181 rfl (by decide) (fun c_181 => ?_) (fun c_181 => ?_)
  · rw [nI_leI (by omega) (by omega)] at c_181
    refine P_iconst (q := 194) (v := nI 0) dL_isWell_193 rfl (by decide +kernel) ?_
    refine P_iadd (q := 195) dL_isWell_194 rfl ?_
    first | rw [show iI (w.A.ps (fS' w.A) c r) + nI 0 = iI (w.A.ps (fS' w.A) c (r + 1)) from by rw [ps_s, iI_nI, iI_add]; congr 1; show w.A.ps (fS' w.A) c r + _ = w.A.ps (fS' w.A) c r + fS' w.A c r; unfold fS'; rw [shr_0 (by omega)]] | rw [show iI (w.A.ps (fS' w.A) c r) + nI (27720 / w.A.z (4 * c + r)) = iI (w.A.ps (fS' w.A) c (r + 1)) from by rw [ps_s, iI_nI, iI_add]; congr 1; show w.A.ps (fS' w.A) c r + _ = w.A.ps (fS' w.A) c r + fS' w.A c r; unfold fS'; rw [shr_dec _ (by omega) z1 (by omega)]]
    refine P_istore (q := 197) (L' := [_, _, _, _, _, _, _, _, _, _, _, _, _, _, _, _, _]) dL_isWell_195 rfl (by decide) rfl ?_
    exact w_we4 hA hc hr hW K
  · rw [nI_leI (by omega) (by omega)] at c_181
    refine P_sipush (q := 187) (v := nI 27720) dL_isWell_184 rfl (by decide +kernel) ?_
    refine P_iload (q := 189) dL_isWell_187 rfl rfl ?_
    refine P_idiv (q := 190) dL_isWell_189 rfl (by rw [show (0 : Int32) = nI 0 from rfl, nI_eq (by omega) (by omega)]; omega) ?_
    rw [pk_div (by omega) (by omega) (by omega)]
    refine P_goto (tgt := 194) dL_isWell_190 (by decide) ?_
    refine P_iadd (q := 195) dL_isWell_194 rfl ?_
    first | rw [show iI (w.A.ps (fS' w.A) c r) + nI 0 = iI (w.A.ps (fS' w.A) c (r + 1)) from by rw [ps_s, iI_nI, iI_add]; congr 1; show w.A.ps (fS' w.A) c r + _ = w.A.ps (fS' w.A) c r + fS' w.A c r; unfold fS'; rw [shr_0 (by omega)]] | rw [show iI (w.A.ps (fS' w.A) c r) + nI (27720 / w.A.z (4 * c + r)) = iI (w.A.ps (fS' w.A) c (r + 1)) from by rw [ps_s, iI_nI, iI_add]; congr 1; show w.A.ps (fS' w.A) c r + _ = w.A.ps (fS' w.A) c r + fS' w.A c r; unfold fS'; rw [shr_dec _ (by omega) z1 (by omega)]]
    refine P_istore (q := 197) (L' := [_, _, _, _, _, _, _, _, _, _, _, _, _, _, _, _, _]) dL_isWell_195 rfl (by decide) rfl ?_
    exact w_we4 hA hc hr hW K
set_option maxRecDepth 100000 in
set_option maxHeartbeats 4000000 in
theorem w_we1 {w x : Cs} {c : Nat} (hA : w.A.ok) (hc : c < w.A.C) (K : ∀ (σ : Sto) (x11 x12 x13 x14 x15 x16 : Option Value), W2 σ w x → PW mL_isWell 0 0 (fun v σ' => v = some (.int (nI 1)) ∧ W2 σ' w x) 35 [some (.ref 0), some (.int (nI w.A.R)), some (.int (nI w.A.C)), some (.int (iI (w.A.ps (fN w.A) (c + 1) 0))), some (.int (iI (w.A.ps (fL w.A) (c + 1) 0))), some (.int (iI (w.A.ps (fU' w.A) (c + 1) 0))), some (.int (iI (w.A.ps (fG w.A) (c + 1) 0))), some (.int (iI (w.A.ps (fF w.A) (c + 1) 0))), some (.int (iI (w.A.ps (fS' w.A) (c + 1) 0))), some (.int (nI 1)), some (.int (nI (c + 1))), x11, x12, x13, x14, x15, x16] [] 228 σ 0 0) :
    ∀ d r, r + d = w.A.R → ∀ (σ : Sto) (x12 x13 x14 x15 x16 : Option Value), W2 σ w x → PW mL_isWell 0 0 (fun v σ' => v = some (.int (nI 1)) ∧ W2 σ' w x) 49 [some (.ref 0), some (.int (nI w.A.R)), some (.int (nI w.A.C)), some (.int (iI (w.A.ps (fN w.A) c r))), some (.int (iI (w.A.ps (fL w.A) c r))), some (.int (iI (w.A.ps (fU' w.A) c r))), some (.int (iI (w.A.ps (fG w.A) c r))), some (.int (iI (w.A.ps (fF w.A) c r))), some (.int (iI (w.A.ps (fS' w.A) c r))), some (.int (nI 1)), some (.int (nI c)), some (.int (nI r)), x12, x13, x14, x15, x16] [] 228 σ 0 0 := by
  have hC := hA.1
  have hR := hA.2.1
  intro d
  induction d with
  | zero =>
    intro r hr σ x12 x13 x14 x15 x16 hW
    have e : r = w.A.R := by omega
    subst e
    refine P_iload (q := 51) dL_isWell_49 rfl rfl ?_
    refine P_iload_n (q := 52) dL_isWell_51 rfl rfl ?_
    refine P_icmp_ge (q := 55) (tgt := 303) dL_isWell_52 rfl (by decide) (fun c_52 => ?_) (fun c_52 => ?_)
    · rw [nI_leI (by omega) (by omega)] at c_52
      refine P_iinc (q := 306) (L' := [_, _, _, _, _, _, _, _, _, _, _, _, _, _, _, _, _]) (v := nI (c + 1)) dL_isWell_303 rfl (by decide) rfl (nI_1 c) rfl ?_
      refine P_goto (tgt := 35) dL_isWell_306 (by decide) ?_
      have h9 := K σ (some (.int (nI w.A.R))) x12 x13 x14 x15 x16 hW
      simp only [ps_c] at h9
      exact h9
    · exfalso; rw [nI_leI (by omega) (by omega)] at c_52; omega
  | succ d ih =>
    intro r hr0 σ x12 x13 x14 x15 x16 hW
    have hr : r < w.A.R := by omega
    have hg := St.gain_in hA c r
    have hs := w.A.s_pm c r
    refine P_iload (q := 51) dL_isWell_49 rfl rfl ?_
    refine P_iload_n (q := 52) dL_isWell_51 rfl rfl ?_
    refine P_icmp_ge (q := 55) (tgt := 303) dL_isWell_52 rfl (by decide) (fun c_52 => ?_) (fun c_52 => ?_)
    · exfalso; rw [nI_leI (by omega) (by omega)] at c_52; omega
    · rw [nI_leI (by omega) (by omega)] at c_52
      refine P_iload (q := 57) dL_isWell_55 rfl rfl ?_
      refine P_if_eq (q := 60) (tgt := 303) dL_isWell_57 rfl (by decide) (fun c_57 => ?_) (fun c_57 => ?_)
      · exact absurd c_57 (by decide)
      · refine P_aload_n (q := 61) dL_isWell_60 rfl rfl ?_
        refine P_iload (q := 63) dL_isWell_61 rfl rfl ?_
        refine P_iload (q := 65) dL_isWell_63 rfl rfl ?_
        refine P_iconst (q := 66) (v := nI 2) dL_isWell_65 rfl (by decide +kernel) ?_
        refine P_api (q := 69) dL_isWell_66 rfl kL_40 (o_cell hW hr hc (by omega) (by omega) 2 (by decide) (v := iI (w.A.gain c r)) (cellv hr hc 2)) rfl rfl (by decide) (hW.oo) rfl ⟨by decide, by decide⟩ (Nat.le_of_ble_eq_true rfl) ?_
        intro σ1 hW1
        refine P_istore (q := 71) (L' := [_, _, _, _, _, _, _, _, _, _, _, _, _, _, _, _, _]) dL_isWell_69 rfl (by decide) rfl ?_
        refine P_aload_n (q := 72) dL_isWell_71 rfl rfl ?_
        refine P_iload (q := 74) dL_isWell_72 rfl rfl ?_
        refine P_iload (q := 76) dL_isWell_74 rfl rfl ?_
        refine P_iconst (q := 77) (v := nI 4) dL_isWell_76 rfl (by decide +kernel) ?_
        refine P_api (q := 80) dL_isWell_77 rfl kL_40 (o_cell hW1 hr hc (by omega) (by omega) 4 (by decide) (v := iI (w.A.nn c r)) ((cellv hr hc 4).trans (iI_nI _))) rfl rfl (by decide) (hW1.oo) rfl ⟨by decide, by decide⟩ (Nat.le_of_ble_eq_true rfl) ?_
        intro σ2 hW2
        refine P_istore (q := 82) (L' := [_, _, _, _, _, _, _, _, _, _, _, _, _, _, _, _, _]) dL_isWell_80 rfl (by decide) rfl ?_
        refine P_aload_n (q := 83) dL_isWell_82 rfl rfl ?_
        refine P_iload (q := 85) dL_isWell_83 rfl rfl ?_
        refine P_iload (q := 87) dL_isWell_85 rfl rfl ?_
        refine P_iconst (q := 88) (v := nI 5) dL_isWell_87 rfl (by decide +kernel) ?_
        refine P_api (q := 91) dL_isWell_88 rfl kL_40 (o_cell hW2 hr hc (by omega) (by omega) 5 (by decide) (v := iI (w.A.nl c r)) ((cellv hr hc 5).trans (iI_nI _))) rfl rfl (by decide) (hW2.oo) rfl ⟨by decide, by decide⟩ (Nat.le_of_ble_eq_true rfl) ?_
        intro σ3 hW3
        refine P_istore (q := 93) (L' := [_, _, _, _, _, _, _, _, _, _, _, _, _, _, _, _, _]) dL_isWell_91 rfl (by decide) rfl ?_
        refine P_aload_n (q := 94) dL_isWell_93 rfl rfl ?_
        refine P_iload (q := 96) dL_isWell_94 rfl rfl ?_
        refine P_iload (q := 98) dL_isWell_96 rfl rfl ?_
        refine P_iconst (q := 99) (v := nI 0) dL_isWell_98 rfl (by decide +kernel) ?_
        refine P_api (q := 102) dL_isWell_99 rfl kL_40 (o_cell hW3 hr hc (by omega) (by omega) 0 (by decide) (v := iI (w.A.s c r)) (cellv hr hc 0)) rfl rfl (by decide) (hW3.oo) rfl ⟨by decide, by decide⟩ (Nat.le_of_ble_eq_true rfl) ?_
        intro σ4 hW4
        refine P_istore (q := 104) (L' := [_, _, _, _, _, _, _, _, _, _, _, _, _, _, _, _, _]) dL_isWell_102 rfl (by decide) rfl ?_
        refine P_aload_n (q := 105) dL_isWell_104 rfl rfl ?_
        refine P_iload (q := 107) dL_isWell_105 rfl rfl ?_
        refine P_iload (q := 109) dL_isWell_107 rfl rfl ?_
        refine P_bipush (q := 111) (v := nI 6) dL_isWell_109 rfl (by decide +kernel) ?_
        refine P_api (q := 114) dL_isWell_111 rfl kL_40 (o_cell hW4 hr hc (by omega) (by omega) 6 (by decide) (v := nI (w.A.z (4 * c + r))) (cellv hr hc 6)) rfl rfl (by decide) (hW4.oo) rfl ⟨by decide, by decide⟩ (Nat.le_of_ble_eq_true rfl) ?_
        intro σ5 hW5
        refine P_istore (q := 116) (L' := [_, _, _, _, _, _, _, _, _, _, _, _, _, _, _, _, _]) dL_isWell_114 rfl (by decide) rfl ?_
        refine P_iload_n (q := 117) dL_isWell_116 rfl rfl ?_
        refine P_iload (q := 119) dL_isWell_117 rfl rfl ?_
        refine P_iadd (q := 120) dL_isWell_119 rfl ?_
        rw [show iI (w.A.ps (fN w.A) c r) + iI (w.A.nn c r) = iI (w.A.ps (fN w.A) c (r + 1)) from by rw [ps_s, iI_add]; rfl]
        refine P_istore_n (q := 121) (L' := [_, _, _, _, _, _, _, _, _, _, _, _, _, _, _, _, _]) dL_isWell_120 rfl (by decide) rfl ?_
        refine P_iload (q := 123) dL_isWell_121 rfl rfl ?_
        refine P_iload (q := 125) dL_isWell_123 rfl rfl ?_
        refine P_iadd (q := 126) dL_isWell_125 rfl ?_
        rw [show iI (w.A.ps (fL w.A) c r) + iI (w.A.nl c r) = iI (w.A.ps (fL w.A) c (r + 1)) from by rw [ps_s, iI_add]; rfl]
        refine P_istore (q := 128) (L' := [_, _, _, _, _, _, _, _, _, _, _, _, _, _, _, _, _]) dL_isWell_126 rfl (by decide) rfl ?_
        refine P_iload (q := 130) dL_isWell_128 rfl rfl ?_
        refine P_iload (q := 132) dL_isWell_130 rfl rfl ?_
        refine P_if_le (q := 135) (tgt := 139) dL_isWell_132 rfl (by decide) (fun c_132 => ?_) (fun c_132 => ?_)
        · rw [show (0 : Int32) = iI 0 from rfl, iI_le (by omega) (by omega) (by omega) (by omega)] at c_132
          refine P_iconst (q := 140) (v := nI 0) dL_isWell_139 rfl (by decide +kernel) ?_
          refine P_iadd (q := 141) dL_isWell_140 rfl ?_
          first | rw [show iI (w.A.ps (fU' w.A) c r) + nI 1 = iI (w.A.ps (fU' w.A) c (r + 1)) from by rw [ps_s, iI_nI, iI_add]; congr 1; show w.A.ps (fU' w.A) c r + _ = w.A.ps (fU' w.A) c r + fU' w.A c r; unfold fU'; split <;> omega] | rw [show iI (w.A.ps (fU' w.A) c r) + nI 0 = iI (w.A.ps (fU' w.A) c (r + 1)) from by rw [ps_s, iI_nI, iI_add]; congr 1; show w.A.ps (fU' w.A) c r + _ = w.A.ps (fU' w.A) c r + fU' w.A c r; unfold fU'; split <;> omega]
          refine P_istore (q := 143) (L' := [_, _, _, _, _, _, _, _, _, _, _, _, _, _, _, _, _]) dL_isWell_141 rfl (by decide) rfl ?_
          refine P_iload (q := 145) dL_isWell_143 rfl rfl ?_
          refine P_iload (q := 147) dL_isWell_145 rfl rfl ?_
          refine P_if_le (q := 150) (tgt := 154) dL_isWell_147 rfl (by decide) (fun c_147 => ?_) (fun c_147 => ?_)
          · rw [show (0 : Int32) = iI 0 from rfl, iI_le (by omega) (by omega) (by omega) (by omega)] at c_147
            refine P_iconst (q := 155) (v := nI 0) dL_isWell_154 rfl (by decide +kernel) ?_
            refine P_iadd (q := 156) dL_isWell_155 rfl ?_
            first | rw [show iI (w.A.ps (fG w.A) c r) + nI 1 = iI (w.A.ps (fG w.A) c (r + 1)) from by rw [ps_s, iI_nI, iI_add]; congr 1; show w.A.ps (fG w.A) c r + _ = w.A.ps (fG w.A) c r + fG w.A c r; unfold fG; split <;> omega] | rw [show iI (w.A.ps (fG w.A) c r) + nI 0 = iI (w.A.ps (fG w.A) c (r + 1)) from by rw [ps_s, iI_nI, iI_add]; congr 1; show w.A.ps (fG w.A) c r + _ = w.A.ps (fG w.A) c r + fG w.A c r; unfold fG; split <;> omega]
            refine P_istore (q := 158) (L' := [_, _, _, _, _, _, _, _, _, _, _, _, _, _, _, _, _]) dL_isWell_156 rfl (by decide) rfl ?_
            refine P_iload (q := 160) dL_isWell_158 rfl rfl ?_
            refine P_aload_n (q := 161) dL_isWell_160 rfl rfl ?_
            refine P_iload (q := 163) dL_isWell_161 rfl rfl ?_
            refine P_iload (q := 165) dL_isWell_163 rfl rfl ?_
            refine P_iconst (q := 166) (v := nI 1) dL_isWell_165 rfl (by decide +kernel) ?_
            refine P_api (q := 169) dL_isWell_166 rfl kL_40 (o_cell hW5 hr hc (by omega) (by omega) 1 (by decide) (v := iI (w.A.fd c r)) (cellv hr hc 1)) rfl rfl (by decide) (hW5.oo) rfl ⟨by decide, by decide⟩ (Nat.le_of_ble_eq_true rfl) ?_
            intro σ6 hW6
            refine P_iload (q := 171) dL_isWell_169 rfl rfl ?_
            refine P_imul (q := 172) dL_isWell_171 rfl ?_
            rw [iI_mul]
            refine P_iadd (q := 173) dL_isWell_172 rfl ?_
            rw [show iI (w.A.ps (fF w.A) c r) + iI (w.A.fd c r * w.A.s c r) = iI (w.A.ps (fF w.A) c (r + 1)) from by rw [ps_s, iI_add]; rfl]
            refine P_istore (q := 175) (L' := [_, _, _, _, _, _, _, _, _, _, _, _, _, _, _, _, _]) dL_isWell_173 rfl (by decide) rfl ?_
            exact w_we3 hA hc hr hW6 (fun σ7 y12 y13 y14 y15 y16 hW7 => ih (r + 1) (by omega) σ7 y12 y13 y14 y15 y16 hW7)
          · rw [show (0 : Int32) = iI 0 from rfl, iI_le (by omega) (by omega) (by omega) (by omega)] at c_147
            refine P_iconst (q := 151) (v := nI 1) dL_isWell_150 rfl (by decide +kernel) ?_
            refine P_goto (tgt := 155) dL_isWell_151 (by decide) ?_
            refine P_iadd (q := 156) dL_isWell_155 rfl ?_
            first | rw [show iI (w.A.ps (fG w.A) c r) + nI 1 = iI (w.A.ps (fG w.A) c (r + 1)) from by rw [ps_s, iI_nI, iI_add]; congr 1; show w.A.ps (fG w.A) c r + _ = w.A.ps (fG w.A) c r + fG w.A c r; unfold fG; split <;> omega] | rw [show iI (w.A.ps (fG w.A) c r) + nI 0 = iI (w.A.ps (fG w.A) c (r + 1)) from by rw [ps_s, iI_nI, iI_add]; congr 1; show w.A.ps (fG w.A) c r + _ = w.A.ps (fG w.A) c r + fG w.A c r; unfold fG; split <;> omega]
            refine P_istore (q := 158) (L' := [_, _, _, _, _, _, _, _, _, _, _, _, _, _, _, _, _]) dL_isWell_156 rfl (by decide) rfl ?_
            refine P_iload (q := 160) dL_isWell_158 rfl rfl ?_
            refine P_aload_n (q := 161) dL_isWell_160 rfl rfl ?_
            refine P_iload (q := 163) dL_isWell_161 rfl rfl ?_
            refine P_iload (q := 165) dL_isWell_163 rfl rfl ?_
            refine P_iconst (q := 166) (v := nI 1) dL_isWell_165 rfl (by decide +kernel) ?_
            refine P_api (q := 169) dL_isWell_166 rfl kL_40 (o_cell hW5 hr hc (by omega) (by omega) 1 (by decide) (v := iI (w.A.fd c r)) (cellv hr hc 1)) rfl rfl (by decide) (hW5.oo) rfl ⟨by decide, by decide⟩ (Nat.le_of_ble_eq_true rfl) ?_
            intro σ6 hW6
            refine P_iload (q := 171) dL_isWell_169 rfl rfl ?_
            refine P_imul (q := 172) dL_isWell_171 rfl ?_
            rw [iI_mul]
            refine P_iadd (q := 173) dL_isWell_172 rfl ?_
            rw [show iI (w.A.ps (fF w.A) c r) + iI (w.A.fd c r * w.A.s c r) = iI (w.A.ps (fF w.A) c (r + 1)) from by rw [ps_s, iI_add]; rfl]
            refine P_istore (q := 175) (L' := [_, _, _, _, _, _, _, _, _, _, _, _, _, _, _, _, _]) dL_isWell_173 rfl (by decide) rfl ?_
            exact w_we3 hA hc hr hW6 (fun σ7 y12 y13 y14 y15 y16 hW7 => ih (r + 1) (by omega) σ7 y12 y13 y14 y15 y16 hW7)
        · rw [show (0 : Int32) = iI 0 from rfl, iI_le (by omega) (by omega) (by omega) (by omega)] at c_132
          refine P_iconst (q := 136) (v := nI 1) dL_isWell_135 rfl (by decide +kernel) ?_
          refine P_goto (tgt := 140) dL_isWell_136 (by decide) ?_
          refine P_iadd (q := 141) dL_isWell_140 rfl ?_
          first | rw [show iI (w.A.ps (fU' w.A) c r) + nI 1 = iI (w.A.ps (fU' w.A) c (r + 1)) from by rw [ps_s, iI_nI, iI_add]; congr 1; show w.A.ps (fU' w.A) c r + _ = w.A.ps (fU' w.A) c r + fU' w.A c r; unfold fU'; split <;> omega] | rw [show iI (w.A.ps (fU' w.A) c r) + nI 0 = iI (w.A.ps (fU' w.A) c (r + 1)) from by rw [ps_s, iI_nI, iI_add]; congr 1; show w.A.ps (fU' w.A) c r + _ = w.A.ps (fU' w.A) c r + fU' w.A c r; unfold fU'; split <;> omega]
          refine P_istore (q := 143) (L' := [_, _, _, _, _, _, _, _, _, _, _, _, _, _, _, _, _]) dL_isWell_141 rfl (by decide) rfl ?_
          refine P_iload (q := 145) dL_isWell_143 rfl rfl ?_
          refine P_iload (q := 147) dL_isWell_145 rfl rfl ?_
          refine P_if_le (q := 150) (tgt := 154) dL_isWell_147 rfl (by decide) (fun c_147 => ?_) (fun c_147 => ?_)
          · rw [show (0 : Int32) = iI 0 from rfl, iI_le (by omega) (by omega) (by omega) (by omega)] at c_147
            refine P_iconst (q := 155) (v := nI 0) dL_isWell_154 rfl (by decide +kernel) ?_
            refine P_iadd (q := 156) dL_isWell_155 rfl ?_
            first | rw [show iI (w.A.ps (fG w.A) c r) + nI 1 = iI (w.A.ps (fG w.A) c (r + 1)) from by rw [ps_s, iI_nI, iI_add]; congr 1; show w.A.ps (fG w.A) c r + _ = w.A.ps (fG w.A) c r + fG w.A c r; unfold fG; split <;> omega] | rw [show iI (w.A.ps (fG w.A) c r) + nI 0 = iI (w.A.ps (fG w.A) c (r + 1)) from by rw [ps_s, iI_nI, iI_add]; congr 1; show w.A.ps (fG w.A) c r + _ = w.A.ps (fG w.A) c r + fG w.A c r; unfold fG; split <;> omega]
            refine P_istore (q := 158) (L' := [_, _, _, _, _, _, _, _, _, _, _, _, _, _, _, _, _]) dL_isWell_156 rfl (by decide) rfl ?_
            refine P_iload (q := 160) dL_isWell_158 rfl rfl ?_
            refine P_aload_n (q := 161) dL_isWell_160 rfl rfl ?_
            refine P_iload (q := 163) dL_isWell_161 rfl rfl ?_
            refine P_iload (q := 165) dL_isWell_163 rfl rfl ?_
            refine P_iconst (q := 166) (v := nI 1) dL_isWell_165 rfl (by decide +kernel) ?_
            refine P_api (q := 169) dL_isWell_166 rfl kL_40 (o_cell hW5 hr hc (by omega) (by omega) 1 (by decide) (v := iI (w.A.fd c r)) (cellv hr hc 1)) rfl rfl (by decide) (hW5.oo) rfl ⟨by decide, by decide⟩ (Nat.le_of_ble_eq_true rfl) ?_
            intro σ6 hW6
            refine P_iload (q := 171) dL_isWell_169 rfl rfl ?_
            refine P_imul (q := 172) dL_isWell_171 rfl ?_
            rw [iI_mul]
            refine P_iadd (q := 173) dL_isWell_172 rfl ?_
            rw [show iI (w.A.ps (fF w.A) c r) + iI (w.A.fd c r * w.A.s c r) = iI (w.A.ps (fF w.A) c (r + 1)) from by rw [ps_s, iI_add]; rfl]
            refine P_istore (q := 175) (L' := [_, _, _, _, _, _, _, _, _, _, _, _, _, _, _, _, _]) dL_isWell_173 rfl (by decide) rfl ?_
            exact w_we3 hA hc hr hW6 (fun σ7 y12 y13 y14 y15 y16 hW7 => ih (r + 1) (by omega) σ7 y12 y13 y14 y15 y16 hW7)
          · rw [show (0 : Int32) = iI 0 from rfl, iI_le (by omega) (by omega) (by omega) (by omega)] at c_147
            refine P_iconst (q := 151) (v := nI 1) dL_isWell_150 rfl (by decide +kernel) ?_
            refine P_goto (tgt := 155) dL_isWell_151 (by decide) ?_
            refine P_iadd (q := 156) dL_isWell_155 rfl ?_
            first | rw [show iI (w.A.ps (fG w.A) c r) + nI 1 = iI (w.A.ps (fG w.A) c (r + 1)) from by rw [ps_s, iI_nI, iI_add]; congr 1; show w.A.ps (fG w.A) c r + _ = w.A.ps (fG w.A) c r + fG w.A c r; unfold fG; split <;> omega] | rw [show iI (w.A.ps (fG w.A) c r) + nI 0 = iI (w.A.ps (fG w.A) c (r + 1)) from by rw [ps_s, iI_nI, iI_add]; congr 1; show w.A.ps (fG w.A) c r + _ = w.A.ps (fG w.A) c r + fG w.A c r; unfold fG; split <;> omega]
            refine P_istore (q := 158) (L' := [_, _, _, _, _, _, _, _, _, _, _, _, _, _, _, _, _]) dL_isWell_156 rfl (by decide) rfl ?_
            refine P_iload (q := 160) dL_isWell_158 rfl rfl ?_
            refine P_aload_n (q := 161) dL_isWell_160 rfl rfl ?_
            refine P_iload (q := 163) dL_isWell_161 rfl rfl ?_
            refine P_iload (q := 165) dL_isWell_163 rfl rfl ?_
            refine P_iconst (q := 166) (v := nI 1) dL_isWell_165 rfl (by decide +kernel) ?_
            refine P_api (q := 169) dL_isWell_166 rfl kL_40 (o_cell hW5 hr hc (by omega) (by omega) 1 (by decide) (v := iI (w.A.fd c r)) (cellv hr hc 1)) rfl rfl (by decide) (hW5.oo) rfl ⟨by decide, by decide⟩ (Nat.le_of_ble_eq_true rfl) ?_
            intro σ6 hW6
            refine P_iload (q := 171) dL_isWell_169 rfl rfl ?_
            refine P_imul (q := 172) dL_isWell_171 rfl ?_
            rw [iI_mul]
            refine P_iadd (q := 173) dL_isWell_172 rfl ?_
            rw [show iI (w.A.ps (fF w.A) c r) + iI (w.A.fd c r * w.A.s c r) = iI (w.A.ps (fF w.A) c (r + 1)) from by rw [ps_s, iI_add]; rfl]
            refine P_istore (q := 175) (L' := [_, _, _, _, _, _, _, _, _, _, _, _, _, _, _, _, _]) dL_isWell_173 rfl (by decide) rfl ?_
            exact w_we3 hA hc hr hW6 (fun σ7 y12 y13 y14 y15 y16 hW7 => ih (r + 1) (by omega) σ7 y12 y13 y14 y15 y16 hW7)
set_option maxRecDepth 100000 in
set_option maxHeartbeats 4000000 in
theorem w_we0 {σ : Sto} {w x : Cs} {m : Nat} {x11 x12 x13 x14 x15 x16 : Option Value} (hA : w.A.ok) (hm : m ≤ (w.A.ptp w.A.C).1) (hW : W2 σ w x) : PW mL_isWell 0 0 (fun v σ' => v = some (.int (nI 1)) ∧ W2 σ' w x) 309 [some (.ref 0), some (.int (nI w.A.R)), some (.int (nI w.A.C)), some (.int (iI (2 * w.A.PR))), some (.int (iI (2 * w.A.PR - 2 * w.A.WL))), some (.int (iI (pcN 64 w.A.U))), some (.int (iI w.A.GC)), some (.int (iI (w.A.sum2 (fF w.A)))), some (.int (nI (27720 * m))), some (.int (nI 1)), some (.int (nI w.A.C)), x11, x12, x13, x14, x15, x16] [] 228 σ 0 0 := by
  have hC := hA.1
  have hR := hA.2.1
  have h1 := St.PR_in hA
  have h2 := St.WL_in hA
  have h3 := ptk_le hA (w.A.C * w.A.R)
  rw [ptk_e hA] at h3
  have h4 : w.A.C * w.A.R ≤ 30 := Nat.mul_le_mul hC.2 hR.2
  have h5 := hA.2.2.2.1
  have h6 := hA.2.2.2.2.1
  refine P_iload_n (q := 310) dL_isWell_309 rfl rfl ?_
  refine P_iload (q := 312) dL_isWell_310 rfl rfl ?_
  refine P_isub (q := 313) dL_isWell_312 rfl ?_
  rw [iI_sub, show 2 * w.A.PR - (2 * w.A.PR - 2 * w.A.WL) = 2 * w.A.WL by omega]
  refine P_iconst (q := 314) (v := nI 2) dL_isWell_313 rfl (by decide +kernel) ?_
  refine P_idiv (q := 315) dL_isWell_314 rfl (by decide) ?_
  rw [iI_half (by omega) (by omega)]
  refine P_istore (q := 317) (L' := [_, _, _, _, _, _, _, _, _, _, _, _, _, _, _, _, _]) dL_isWell_315 rfl (by decide) rfl ?_
  refine P_aload_n (q := 318) dL_isWell_317 rfl rfl ?_
  refine P_bipush (q := 320) (v := nI 6) dL_isWell_318 rfl (by decide +kernel) ?_
  refine P_api (q := 323) dL_isWell_320 rfl kL_19 (o_count hW 6 (by decide) (v := iI w.A.al) (rfl)) rfl rfl (by decide) (hW.oo) rfl ⟨by decide, by decide⟩ (Nat.le_of_ble_eq_true rfl) ?_
  intro σ1 hW1
  refine P_aload_n (q := 324) dL_isWell_323 rfl rfl ?_
  refine P_bipush (q := 326) (v := nI 7) dL_isWell_324 rfl (by decide +kernel) ?_
  refine P_api (q := 329) dL_isWell_326 rfl kL_19 (o_count hW1 7 (by decide) (v := iI w.A.ac) (rfl)) rfl rfl (by decide) (hW1.oo) rfl ⟨by decide, by decide⟩ (Nat.le_of_ble_eq_true rfl) ?_
  intro σ2 hW2
  refine P_icmp_ne (q := 332) (tgt := 336) dL_isWell_329 rfl (by decide) (fun c_329 => ?_) (fun c_329 => ?_)
  · rw [iI_inj (by omega) (by omega) (by omega) (by omega)] at c_329
    refine P_iconst (q := 337) (v := nI 0) dL_isWell_336 rfl (by decide +kernel) ?_
    refine P_istore (q := 339) (L' := [_, _, _, _, _, _, _, _, _, _, _, _, _, _, _, _, _]) dL_isWell_337 rfl (by decide) rfl ?_
    refine P_iload (q := 341) dL_isWell_339 rfl rfl ?_
    refine P_if_eq (q := 344) (tgt := 450) dL_isWell_341 rfl (by decide) (fun c_341 => ?_) (fun c_341 => ?_)
    · exact absurd c_341 (by decide)
    · refine P_iload (q := 346) dL_isWell_344 rfl rfl ?_
      refine P_sipush (q := 349) (v := nI 27720) dL_isWell_346 rfl (by decide +kernel) ?_
      refine P_irem (q := 350) dL_isWell_349 rfl (by decide) ?_
      rw [show (27720 : Nat) = 27720 from rfl, pk_rem (by omega) (by decide) (by decide), Nat.mul_mod_right]
      refine P_if_ne (q := 353) (tgt := 450) dL_isWell_350 rfl (by decide) (fun c_350 => ?_) (fun c_350 => ?_)
      · exact absurd (rfl) c_350
      · refine P_aload_n (q := 354) dL_isWell_353 rfl rfl ?_
        refine P_bipush (q := 356) (v := nI 11) dL_isWell_354 rfl (by decide +kernel) ?_
        refine P_api (q := 359) dL_isWell_356 rfl kL_19 (o_count hW2 11 (by decide) (v := nI (w.A.ptp w.A.C).1) (rfl)) rfl rfl (by decide) (hW2.oo) rfl ⟨by decide, by decide⟩ (Nat.le_of_ble_eq_true rfl) ?_
        intro σ3 hW3
        refine P_iload (q := 361) dL_isWell_359 rfl rfl ?_
        refine P_sipush (q := 364) (v := nI 27720) dL_isWell_361 rfl (by decide +kernel) ?_
        refine P_idiv (q := 365) dL_isWell_364 rfl (by decide) ?_
        rw [pk_div (by omega) (by decide) (by decide), Nat.mul_div_cancel_left m (by decide)]
        refine P_icmp_lt (q := 368) (tgt := 450) dL_isWell_365 rfl (by decide) (fun c_365 => ?_) (fun c_365 => ?_)
        · exfalso; rw [nI_ltI (by omega) (by omega)] at c_365; omega
        · refine P_iload_n (q := 369) dL_isWell_368 rfl rfl ?_
          refine P_iconst (q := 370) (v := iI 2) dL_isWell_369 rfl (by decide +kernel) ?_
          refine P_aload_n (q := 371) dL_isWell_370 rfl rfl ?_
          refine P_bipush (q := 373) (v := nI 14) dL_isWell_371 rfl (by decide +kernel) ?_
          refine P_api (q := 376) dL_isWell_373 rfl kL_19 (o_count hW3 14 (by decide) (v := iI w.A.PR) (rfl)) rfl rfl (by decide) (hW3.oo) rfl ⟨by decide, by decide⟩ (Nat.le_of_ble_eq_true rfl) ?_
          intro σ4 hW4
          refine P_imul (q := 377) dL_isWell_376 rfl ?_
          rw [iI_mul]
          refine P_icmp_ne (q := 380) (tgt := 450) dL_isWell_377 rfl (by decide) (fun c_377 => ?_) (fun c_377 => ?_)
          · exact absurd (rfl) c_377
          · refine P_iload (q := 382) dL_isWell_380 rfl rfl ?_
            refine P_aload_n (q := 383) dL_isWell_382 rfl rfl ?_
            refine P_iconst (q := 384) (v := nI 4) dL_isWell_383 rfl (by decide +kernel) ?_
            refine P_api (q := 387) dL_isWell_384 rfl kL_19 (o_count hW4 4 (by decide) (v := iI w.A.WL) (rfl)) rfl rfl (by decide) (hW4.oo) rfl ⟨by decide, by decide⟩ (Nat.le_of_ble_eq_true rfl) ?_
            intro σ5 hW5
            refine P_icmp_ne (q := 390) (tgt := 450) dL_isWell_387 rfl (by decide) (fun c_387 => ?_) (fun c_387 => ?_)
            · exact absurd (rfl) c_387
            · refine P_iload (q := 392) dL_isWell_390 rfl rfl ?_
              refine P_aload_n (q := 393) dL_isWell_392 rfl rfl ?_
              refine P_iconst (q := 394) (v := nI 5) dL_isWell_393 rfl (by decide +kernel) ?_
              refine P_api (q := 397) dL_isWell_394 rfl kL_19 (o_count hW5 5 (by decide) (v := iI (pcN 64 w.A.U)) (iI_nI _)) rfl rfl (by decide) (hW5.oo) rfl ⟨by decide, by decide⟩ (Nat.le_of_ble_eq_true rfl) ?_
              intro σ6 hW6
              refine P_icmp_ne (q := 400) (tgt := 450) dL_isWell_397 rfl (by decide) (fun c_397 => ?_) (fun c_397 => ?_)
              · exact absurd (rfl) c_397
              · refine P_iload (q := 402) dL_isWell_400 rfl rfl ?_
                refine P_aload_n (q := 403) dL_isWell_402 rfl rfl ?_
                refine P_bipush (q := 405) (v := nI 12) dL_isWell_403 rfl (by decide +kernel) ?_
                refine P_api (q := 408) dL_isWell_405 rfl kL_19 (o_count hW6 12 (by decide) (v := iI w.A.GC) (rfl)) rfl rfl (by decide) (hW6.oo) rfl ⟨by decide, by decide⟩ (Nat.le_of_ble_eq_true rfl) ?_
                intro σ7 hW7
                refine P_icmp_ne (q := 411) (tgt := 450) dL_isWell_408 rfl (by decide) (fun c_408 => ?_) (fun c_408 => ?_)
                · exact absurd (rfl) c_408
                · refine P_iload (q := 413) dL_isWell_411 rfl rfl ?_
                  refine P_if_eq (q := 416) (tgt := 446) dL_isWell_413 rfl (by decide) (fun c_413 => ?_) (fun c_413 => ?_)
                  · refine P_iconst (q := 447) (v := nI 1) dL_isWell_446 rfl (by decide +kernel) ?_
                    refine P_goto (tgt := 451) dL_isWell_447 (by decide) ?_
                    refine P_iret dL_isWell_451 rfl (rfl) ?_
                    exact ⟨rfl, hW7⟩
                  · exact absurd rfl c_413
  · rw [iI_inj (by omega) (by omega) (by omega) (by omega)] at c_329
    refine P_iconst (q := 333) (v := nI 1) dL_isWell_332 rfl (by decide +kernel) ?_
    refine P_goto (tgt := 337) dL_isWell_333 (by decide) ?_
    refine P_istore (q := 339) (L' := [_, _, _, _, _, _, _, _, _, _, _, _, _, _, _, _, _]) dL_isWell_337 rfl (by decide) rfl ?_
    refine P_iload (q := 341) dL_isWell_339 rfl rfl ?_
    refine P_if_eq (q := 344) (tgt := 450) dL_isWell_341 rfl (by decide) (fun c_341 => ?_) (fun c_341 => ?_)
    · exact absurd c_341 (by decide)
    · refine P_iload (q := 346) dL_isWell_344 rfl rfl ?_
      refine P_sipush (q := 349) (v := nI 27720) dL_isWell_346 rfl (by decide +kernel) ?_
      refine P_irem (q := 350) dL_isWell_349 rfl (by decide) ?_
      rw [show (27720 : Nat) = 27720 from rfl, pk_rem (by omega) (by decide) (by decide), Nat.mul_mod_right]
      refine P_if_ne (q := 353) (tgt := 450) dL_isWell_350 rfl (by decide) (fun c_350 => ?_) (fun c_350 => ?_)
      · exact absurd (rfl) c_350
      · refine P_aload_n (q := 354) dL_isWell_353 rfl rfl ?_
        refine P_bipush (q := 356) (v := nI 11) dL_isWell_354 rfl (by decide +kernel) ?_
        refine P_api (q := 359) dL_isWell_356 rfl kL_19 (o_count hW2 11 (by decide) (v := nI (w.A.ptp w.A.C).1) (rfl)) rfl rfl (by decide) (hW2.oo) rfl ⟨by decide, by decide⟩ (Nat.le_of_ble_eq_true rfl) ?_
        intro σ3 hW3
        refine P_iload (q := 361) dL_isWell_359 rfl rfl ?_
        refine P_sipush (q := 364) (v := nI 27720) dL_isWell_361 rfl (by decide +kernel) ?_
        refine P_idiv (q := 365) dL_isWell_364 rfl (by decide) ?_
        rw [pk_div (by omega) (by decide) (by decide), Nat.mul_div_cancel_left m (by decide)]
        refine P_icmp_lt (q := 368) (tgt := 450) dL_isWell_365 rfl (by decide) (fun c_365 => ?_) (fun c_365 => ?_)
        · exfalso; rw [nI_ltI (by omega) (by omega)] at c_365; omega
        · refine P_iload_n (q := 369) dL_isWell_368 rfl rfl ?_
          refine P_iconst (q := 370) (v := iI 2) dL_isWell_369 rfl (by decide +kernel) ?_
          refine P_aload_n (q := 371) dL_isWell_370 rfl rfl ?_
          refine P_bipush (q := 373) (v := nI 14) dL_isWell_371 rfl (by decide +kernel) ?_
          refine P_api (q := 376) dL_isWell_373 rfl kL_19 (o_count hW3 14 (by decide) (v := iI w.A.PR) (rfl)) rfl rfl (by decide) (hW3.oo) rfl ⟨by decide, by decide⟩ (Nat.le_of_ble_eq_true rfl) ?_
          intro σ4 hW4
          refine P_imul (q := 377) dL_isWell_376 rfl ?_
          rw [iI_mul]
          refine P_icmp_ne (q := 380) (tgt := 450) dL_isWell_377 rfl (by decide) (fun c_377 => ?_) (fun c_377 => ?_)
          · exact absurd (rfl) c_377
          · refine P_iload (q := 382) dL_isWell_380 rfl rfl ?_
            refine P_aload_n (q := 383) dL_isWell_382 rfl rfl ?_
            refine P_iconst (q := 384) (v := nI 4) dL_isWell_383 rfl (by decide +kernel) ?_
            refine P_api (q := 387) dL_isWell_384 rfl kL_19 (o_count hW4 4 (by decide) (v := iI w.A.WL) (rfl)) rfl rfl (by decide) (hW4.oo) rfl ⟨by decide, by decide⟩ (Nat.le_of_ble_eq_true rfl) ?_
            intro σ5 hW5
            refine P_icmp_ne (q := 390) (tgt := 450) dL_isWell_387 rfl (by decide) (fun c_387 => ?_) (fun c_387 => ?_)
            · exact absurd (rfl) c_387
            · refine P_iload (q := 392) dL_isWell_390 rfl rfl ?_
              refine P_aload_n (q := 393) dL_isWell_392 rfl rfl ?_
              refine P_iconst (q := 394) (v := nI 5) dL_isWell_393 rfl (by decide +kernel) ?_
              refine P_api (q := 397) dL_isWell_394 rfl kL_19 (o_count hW5 5 (by decide) (v := iI (pcN 64 w.A.U)) (iI_nI _)) rfl rfl (by decide) (hW5.oo) rfl ⟨by decide, by decide⟩ (Nat.le_of_ble_eq_true rfl) ?_
              intro σ6 hW6
              refine P_icmp_ne (q := 400) (tgt := 450) dL_isWell_397 rfl (by decide) (fun c_397 => ?_) (fun c_397 => ?_)
              · exact absurd (rfl) c_397
              · refine P_iload (q := 402) dL_isWell_400 rfl rfl ?_
                refine P_aload_n (q := 403) dL_isWell_402 rfl rfl ?_
                refine P_bipush (q := 405) (v := nI 12) dL_isWell_403 rfl (by decide +kernel) ?_
                refine P_api (q := 408) dL_isWell_405 rfl kL_19 (o_count hW6 12 (by decide) (v := iI w.A.GC) (rfl)) rfl rfl (by decide) (hW6.oo) rfl ⟨by decide, by decide⟩ (Nat.le_of_ble_eq_true rfl) ?_
                intro σ7 hW7
                refine P_icmp_ne (q := 411) (tgt := 450) dL_isWell_408 rfl (by decide) (fun c_408 => ?_) (fun c_408 => ?_)
                · exact absurd (rfl) c_408
                · refine P_iload (q := 413) dL_isWell_411 rfl rfl ?_
                  refine P_if_eq (q := 416) (tgt := 446) dL_isWell_413 rfl (by decide) (fun c_413 => ?_) (fun c_413 => ?_)
                  · exact absurd c_413 (by decide)
                  · refine P_aload_n (q := 417) dL_isWell_416 rfl rfl ?_
                    refine P_iconst (q := 418) (v := nI 3) dL_isWell_417 rfl (by decide +kernel) ?_
                    refine P_api (q := 421) dL_isWell_418 rfl kL_19 (o_count hW7 3 (by decide) (v := iI w.A.E) (rfl)) rfl rfl (by decide) (hW7.oo) rfl ⟨by decide, by decide⟩ (Nat.le_of_ble_eq_true rfl) ?_
                    intro σ8 hW8
                    refine P_aload_n (q := 422) dL_isWell_421 rfl rfl ?_
                    refine P_bipush (q := 424) (v := nI 6) dL_isWell_422 rfl (by decide +kernel) ?_
                    refine P_api (q := 427) dL_isWell_424 rfl kL_19 (o_count hW8 6 (by decide) (v := iI w.A.al) (rfl)) rfl rfl (by decide) (hW8.oo) rfl ⟨by decide, by decide⟩ (Nat.le_of_ble_eq_true rfl) ?_
                    intro σ9 hW9
                    refine P_ineg (q := 428) dL_isWell_427 rfl ?_
                    rw [iI_neg]
                    refine P_aload_n (q := 429) dL_isWell_428 rfl rfl ?_
                    refine P_bipush (q := 431) (v := nI 14) dL_isWell_429 rfl (by decide +kernel) ?_
                    refine P_api (q := 434) dL_isWell_431 rfl kL_19 (o_count hW9 14 (by decide) (v := iI w.A.PR) (rfl)) rfl rfl (by decide) (hW9.oo) rfl ⟨by decide, by decide⟩ (Nat.le_of_ble_eq_true rfl) ?_
                    intro σ10 hW10
                    refine P_iconst (q := 435) (v := iI 2) dL_isWell_434 rfl (by decide +kernel) ?_
                    refine P_iload (q := 437) dL_isWell_435 rfl rfl ?_
                    refine P_imul (q := 438) dL_isWell_437 rfl ?_
                    rw [iI_mul]
                    refine P_isub (q := 439) dL_isWell_438 rfl ?_
                    rw [iI_sub]
                    refine P_imul (q := 440) dL_isWell_439 rfl ?_
                    rw [iI_mul]
                    refine P_iload (q := 442) dL_isWell_440 rfl rfl ?_
                    refine P_isub (q := 443) dL_isWell_442 rfl ?_
                    rw [iI_sub]
                    refine P_icmp_ne (q := 446) (tgt := 450) dL_isWell_443 rfl (by decide) (fun c_443 => ?_) (fun c_443 => ?_)
                    · exact absurd (congrArg iI (E_alike c_329)) c_443
                    · refine P_iconst (q := 447) (v := nI 1) dL_isWell_446 rfl (by decide +kernel) ?_
                      refine P_goto (tgt := 451) dL_isWell_447 (by decide) ?_
                      refine P_iret dL_isWell_451 rfl (rfl) ?_
                      exact ⟨rfl, hW10⟩
set_option maxRecDepth 100000 in
set_option maxHeartbeats 4000000 in
theorem w_we2 {w x : Cs} (hA : w.A.ok) : ∀ d c, c + d = w.A.C → ∀ (σ : Sto) (x11 x12 x13 x14 x15 x16 : Option Value), W2 σ w x → PW mL_isWell 0 0 (fun v σ' => v = some (.int (nI 1)) ∧ W2 σ' w x) 35 [some (.ref 0), some (.int (nI w.A.R)), some (.int (nI w.A.C)), some (.int (iI (w.A.ps (fN w.A) c 0))), some (.int (iI (w.A.ps (fL w.A) c 0))), some (.int (iI (w.A.ps (fU' w.A) c 0))), some (.int (iI (w.A.ps (fG w.A) c 0))), some (.int (iI (w.A.ps (fF w.A) c 0))), some (.int (iI (w.A.ps (fS' w.A) c 0))), some (.int (nI 1)), some (.int (nI c)), x11, x12, x13, x14, x15, x16] [] 228 σ 0 0 := by
  have hC := hA.1
  have hR := hA.2.1
  intro d
  induction d with
  | zero =>
    intro c hc σ x11 x12 x13 x14 x15 x16 hW
    have e : c = w.A.C := by omega
    subst e
    obtain ⟨m, hm, hs⟩ := shares hA
    have e1 : w.A.ps (fN w.A) w.A.C 0 = 2 * w.A.PR := (ps_e _ _).trans (sum2_nn hA)
    have e2 : w.A.ps (fL w.A) w.A.C 0 = 2 * w.A.PR - 2 * w.A.WL := (ps_e _ _).trans (sum2_nl hA)
    have e3 : w.A.ps (fU' w.A) w.A.C 0 = (pcN 64 w.A.U : Int) := (ps_e _ _).trans (sum2_up hA)
    have e4 : w.A.ps (fG w.A) w.A.C 0 = w.A.GC := (ps_e _ _).trans (sum2_GC w.A)
    have e5 := ps_e w.A (fF w.A)
    have e6 : iI (w.A.ps (fS' w.A) w.A.C 0) = nI (27720 * m) := by
      rw [iI_nI, ← hs, sumN_Z2, ps_e]
      rfl
    rw [e1, e2, e3, e4, e5, e6]
    refine P_iload (q := 37) dL_isWell_35 rfl rfl ?_
    refine P_iload_n (q := 38) dL_isWell_37 rfl rfl ?_
    refine P_icmp_ge (q := 41) (tgt := 309) dL_isWell_38 rfl (by decide) (fun c_38 => ?_) (fun c_38 => ?_)
    · rw [nI_leI (by omega) (by omega)] at c_38
      exact w_we0 hA hm hW
    · exfalso; rw [nI_leI (by omega) (by omega)] at c_38; omega
  | succ d ih =>
    intro c hc σ x11 x12 x13 x14 x15 x16 hW
    refine P_iload (q := 37) dL_isWell_35 rfl rfl ?_
    refine P_iload_n (q := 38) dL_isWell_37 rfl rfl ?_
    refine P_icmp_ge (q := 41) (tgt := 309) dL_isWell_38 rfl (by decide) (fun c_38 => ?_) (fun c_38 => ?_)
    · exfalso; rw [nI_leI (by omega) (by omega)] at c_38; omega
    · rw [nI_leI (by omega) (by omega)] at c_38
      refine P_iload (q := 43) dL_isWell_41 rfl rfl ?_
      refine P_if_eq (q := 46) (tgt := 309) dL_isWell_43 rfl (by decide) (fun c_43 => ?_) (fun c_43 => ?_)
      · exact absurd c_43 (by decide)
      · refine P_iconst (q := 47) (v := nI 0) dL_isWell_46 rfl (by decide +kernel) ?_
        refine P_istore (q := 49) (L' := [_, _, _, _, _, _, _, _, _, _, _, _, _, _, _, _, _]) dL_isWell_47 rfl (by decide) rfl ?_
        exact w_we1 hA (by omega) (fun σ1 y11 y12 y13 y14 y15 y16 hW1 => ih (c + 1) (by omega) σ1 y11 y12 y13 y14 y15 y16 hW1) w.A.R 0 (by omega) _ _ _ _ _ _ hW
set_option maxRecDepth 100000 in
set_option maxHeartbeats 4000000 in
theorem t_isWell {σ : Sto} {w x : Cs} (hW : W2 σ w x) : CP mL_isWell 0 0 [.ref 0] 228 σ (fun v σ' => v = some (.int (nI 1)) ∧ W2 σ' w x) := by
  have hA := hW.okA
  refine CP_of (by decide +kernel) (Nat.le_of_ble_eq_true rfl) ?_
  change PW _ _ _ _ 0 [_, _, _, _, _, _, _, _, _, _, _, _, _, _, _, _, _] [] _ _ _ _
  refine P_aload_n (q := 1) dL_isWell_0 rfl rfl ?_
  refine P_iconst (q := 2) (v := nI 1) dL_isWell_1 rfl (by decide +kernel) ?_
  refine P_api (q := 5) dL_isWell_2 rfl kL_19 (o_count hW 1 (by decide) (v := nI w.A.R) rfl) rfl rfl (by decide) (hW.oo) rfl ⟨by decide, by decide⟩ (Nat.le_of_ble_eq_true rfl) ?_
  intro σ1 hW1
  refine P_istore_n (q := 6) (L' := [_, _, _, _, _, _, _, _, _, _, _, _, _, _, _, _, _]) dL_isWell_5 rfl (by decide) rfl ?_
  refine P_aload_n (q := 7) dL_isWell_6 rfl rfl ?_
  refine P_iconst (q := 8) (v := nI 0) dL_isWell_7 rfl (by decide +kernel) ?_
  refine P_api (q := 11) dL_isWell_8 rfl kL_19 (o_count hW1 0 (by decide) (v := nI w.A.C) rfl) rfl rfl (by decide) (hW1.oo) rfl ⟨by decide, by decide⟩ (Nat.le_of_ble_eq_true rfl) ?_
  intro σ2 hW2
  refine P_istore_n (q := 12) (L' := [_, _, _, _, _, _, _, _, _, _, _, _, _, _, _, _, _]) dL_isWell_11 rfl (by decide) rfl ?_
  refine P_iconst (q := 13) (v := nI 0) dL_isWell_12 rfl (by decide +kernel) ?_
  refine P_istore_n (q := 14) (L' := [_, _, _, _, _, _, _, _, _, _, _, _, _, _, _, _, _]) dL_isWell_13 rfl (by decide) rfl ?_
  refine P_iconst (q := 15) (v := nI 0) dL_isWell_14 rfl (by decide +kernel) ?_
  refine P_istore (q := 17) (L' := [_, _, _, _, _, _, _, _, _, _, _, _, _, _, _, _, _]) dL_isWell_15 rfl (by decide) rfl ?_
  refine P_iconst (q := 18) (v := nI 0) dL_isWell_17 rfl (by decide +kernel) ?_
  refine P_istore (q := 20) (L' := [_, _, _, _, _, _, _, _, _, _, _, _, _, _, _, _, _]) dL_isWell_18 rfl (by decide) rfl ?_
  refine P_iconst (q := 21) (v := nI 0) dL_isWell_20 rfl (by decide +kernel) ?_
  refine P_istore (q := 23) (L' := [_, _, _, _, _, _, _, _, _, _, _, _, _, _, _, _, _]) dL_isWell_21 rfl (by decide) rfl ?_
  refine P_iconst (q := 24) (v := nI 0) dL_isWell_23 rfl (by decide +kernel) ?_
  refine P_istore (q := 26) (L' := [_, _, _, _, _, _, _, _, _, _, _, _, _, _, _, _, _]) dL_isWell_24 rfl (by decide) rfl ?_
  refine P_iconst (q := 27) (v := nI 0) dL_isWell_26 rfl (by decide +kernel) ?_
  refine P_istore (q := 29) (L' := [_, _, _, _, _, _, _, _, _, _, _, _, _, _, _, _, _]) dL_isWell_27 rfl (by decide) rfl ?_
  refine P_iconst (q := 30) (v := nI 1) dL_isWell_29 rfl (by decide +kernel) ?_
  refine P_istore (q := 32) (L' := [_, _, _, _, _, _, _, _, _, _, _, _, _, _, _, _, _]) dL_isWell_30 rfl (by decide) rfl ?_
  refine P_iconst (q := 33) (v := nI 0) dL_isWell_32 rfl (by decide +kernel) ?_
  refine P_istore (q := 35) (L' := [_, _, _, _, _, _, _, _, _, _, _, _, _, _, _, _, _]) dL_isWell_33 rfl (by decide) rfl ?_
  exact w_we2 hA w.A.C 0 (by omega) _ _ _ _ _ _ _ hW2
