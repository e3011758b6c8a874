/-! THE LAW: a step -/
set_option maxRecDepth 100000 in
set_option maxHeartbeats 4000000 in
theorem w_st0 {σ : Sto} {w x : Cs} {c r : Nat} {v y z : Int32} (hW : W2 σ w x) (h : Rel w x) (hc : c < w.A.C) (hr : r < w.A.R) : PW mL_isStep 0 0 LQ 120 [some (.ref 0), some (.ref 114), some (.int v), some (.int y), some (.int z), some (.int (nI w.A.R)), some (.int (nI w.A.C)), some (.int (nI r)), some (.int (nI c)), some (.int (iI w.A.E)), none, none, none, none] [] 228 σ 0 0 := by
  have hA := hW.okA
  have hB := hW.okB
  have hM := h.1
  have hC := hA.1
  have hR := hA.2.1
  have hE := St.E_in hA
  have hcB : c < x.A.C := by rw [hM.1.1]; exact hc
  have hrB : r < x.A.R := by rw [hM.1.2.1]; exact hr
  refine P_aload_n (q := 121) dL_isStep_120 rfl rfl ?_
  refine P_aload_n (q := 122) dL_isStep_121 rfl rfl ?_
  refine P_iconst (q := 123) (v := nI 1) dL_isStep_122 rfl (by decide +kernel) ?_
  refine P_iload_n (q := 124) dL_isStep_123 rfl rfl ?_
  refine P_iload (q := 126) dL_isStep_124 rfl rfl ?_
  refine P_iconst (q := 127) (v := nI 3) dL_isStep_126 rfl (by decide +kernel) ?_
  refine P_cs1 (q := 130) dL_isStep_127 rfl kL_23 (t_up _ (by decide) (by decide)) rfl rfl ⟨by decide, by decide⟩ (Nat.le_of_ble_eq_true rfl) ⟨Nat.le_refl _, Nat.le_refl _⟩ ?_
  refine P_if_ne (q := 133) (tgt := 138) dL_isStep_130 rfl (by decide) (fun c_130 => ?_) (fun c_130 => ?_)
  · refine P_iconst (q := 139) (v := nI 5) dL_isStep_138 rfl (by decide +kernel) ?_
    refine P_cs1 (q := 142) dL_isStep_139 rfl kL_23 (t_up y (by decide) (by decide)) rfl rfl ⟨by decide, by decide⟩ (Nat.le_of_ble_eq_true rfl) ⟨Nat.le_refl _, Nat.le_refl _⟩ ?_
    refine P_iadd (q := 143) dL_isStep_142 rfl ?_
    rw [nI_add]
    refine P_iconst (q := 144) (v := nI 1) dL_isStep_143 rfl (by decide +kernel) ?_
    refine P_iload_n (q := 145) dL_isStep_144 rfl rfl ?_
    refine P_iconst (q := 146) (v := nI 5) dL_isStep_145 rfl (by decide +kernel) ?_
    refine P_ishr (q := 147) dL_isStep_146 rfl ?_
    refine P_iconst (q := 148) (v := nI 3) dL_isStep_147 rfl (by decide +kernel) ?_
    refine P_cs1 (q := 151) dL_isStep_148 rfl kL_23 (t_up _ (by decide) (by decide)) rfl rfl ⟨by decide, by decide⟩ (Nat.le_of_ble_eq_true rfl) ⟨Nat.le_refl _, Nat.le_refl _⟩ ?_
    refine P_iadd (q := 152) dL_isStep_151 rfl ?_
    rw [nI_add]
    refine P_iload (q := 154) dL_isStep_152 rfl rfl ?_
    refine P_iconst (q := 155) (v := nI 2) dL_isStep_154 rfl (by decide +kernel) ?_
    refine P_cs1 (q := 158) dL_isStep_155 rfl kL_23 (t_up _ (by decide) (by decide)) rfl rfl ⟨by decide, by decide⟩ (Nat.le_of_ble_eq_true rfl) ⟨Nat.le_refl _, Nat.le_refl _⟩ ?_
    refine P_if_ne (q := 161) (tgt := 165) dL_isStep_158 rfl (by decide) (fun c_158 => ?_) (fun c_158 => ?_)
    · refine P_iconst (q := 166) (v := (bI false)) dL_isStep_165 rfl (by decide +kernel) ?_
      refine P_calls (q := 169) dL_isStep_166 rfl (t_isLaid hW h.r0 (by omega) (by have := upV_lt y (k := 10) (by decide); have := upV_lt y (k := 5) (by decide); omega) (by omega) (by have := upV_lt (y >>> (nI 5 &&& 31)) (k := 3) (by decide); omega) _) kL_28 rfl rfl ⟨by decide, by decide⟩ (Nat.le_of_ble_eq_true rfl) ⟨Nat.le_refl _, Nat.le_refl _⟩ ?_
      rintro v9 σ9 ⟨rfl, w9, x9, hW9, h9⟩
      refine P_iret dL_isStep_169 rfl (rfl) ?_
      exact ⟨rfl, w9, x9, hW9, h9⟩
    · refine P_iconst (q := 162) (v := (bI true)) dL_isStep_161 rfl (by decide +kernel) ?_
      refine P_goto (tgt := 166) dL_isStep_162 (by decide) ?_
      refine P_calls (q := 169) dL_isStep_166 rfl (t_isLaid hW h.r0 (by omega) (by have := upV_lt y (k := 10) (by decide); have := upV_lt y (k := 5) (by decide); omega) (by omega) (by have := upV_lt (y >>> (nI 5 &&& 31)) (k := 3) (by decide); omega) _) kL_28 rfl rfl ⟨by decide, by decide⟩ (Nat.le_of_ble_eq_true rfl) ⟨Nat.le_refl _, Nat.le_refl _⟩ ?_
      rintro v9 σ9 ⟨rfl, w9, x9, hW9, h9⟩
      refine P_iret dL_isStep_169 rfl (rfl) ?_
      exact ⟨rfl, w9, x9, hW9, h9⟩
  · refine P_bipush (q := 135) (v := nI 10) dL_isStep_133 rfl (by decide +kernel) ?_
    refine P_goto (tgt := 139) dL_isStep_135 (by decide) ?_
    refine P_cs1 (q := 142) dL_isStep_139 rfl kL_23 (t_up y (by decide) (by decide)) rfl rfl ⟨by decide, by decide⟩ (Nat.le_of_ble_eq_true rfl) ⟨Nat.le_refl _, Nat.le_refl _⟩ ?_
    refine P_iadd (q := 143) dL_isStep_142 rfl ?_
    rw [nI_add]
    refine P_iconst (q := 144) (v := nI 1) dL_isStep_143 rfl (by decide +kernel) ?_
    refine P_iload_n (q := 145) dL_isStep_144 rfl rfl ?_
    refine P_iconst (q := 146) (v := nI 5) dL_isStep_145 rfl (by decide +kernel) ?_
    refine P_ishr (q := 147) dL_isStep_146 rfl ?_
    refine P_iconst (q := 148) (v := nI 3) dL_isStep_147 rfl (by decide +kernel) ?_
    refine P_cs1 (q := 151) dL_isStep_148 rfl kL_23 (t_up _ (by decide) (by decide)) rfl rfl ⟨by decide, by decide⟩ (Nat.le_of_ble_eq_true rfl) ⟨Nat.le_refl _, Nat.le_refl _⟩ ?_
    refine P_iadd (q := 152) dL_isStep_151 rfl ?_
    rw [nI_add]
    refine P_iload (q := 154) dL_isStep_152 rfl rfl ?_
    refine P_iconst (q := 155) (v := nI 2) dL_isStep_154 rfl (by decide +kernel) ?_
    refine P_cs1 (q := 158) dL_isStep_155 rfl kL_23 (t_up _ (by decide) (by decide)) rfl rfl ⟨by decide, by decide⟩ (Nat.le_of_ble_eq_true rfl) ⟨Nat.le_refl _, Nat.le_refl _⟩ ?_
    refine P_if_ne (q := 161) (tgt := 165) dL_isStep_158 rfl (by decide) (fun c_158 => ?_) (fun c_158 => ?_)
    · refine P_iconst (q := 166) (v := (bI false)) dL_isStep_165 rfl (by decide +kernel) ?_
      refine P_calls (q := 169) dL_isStep_166 rfl (t_isLaid hW h.r0 (by omega) (by have := upV_lt y (k := 10) (by decide); have := upV_lt y (k := 5) (by decide); omega) (by omega) (by have := upV_lt (y >>> (nI 5 &&& 31)) (k := 3) (by decide); omega) _) kL_28 rfl rfl ⟨by decide, by decide⟩ (Nat.le_of_ble_eq_true rfl) ⟨Nat.le_refl _, Nat.le_refl _⟩ ?_
      rintro v9 σ9 ⟨rfl, w9, x9, hW9, h9⟩
      refine P_iret dL_isStep_169 rfl (rfl) ?_
      exact ⟨rfl, w9, x9, hW9, h9⟩
    · refine P_iconst (q := 162) (v := (bI true)) dL_isStep_161 rfl (by decide +kernel) ?_
      refine P_goto (tgt := 166) dL_isStep_162 (by decide) ?_
      refine P_calls (q := 169) dL_isStep_166 rfl (t_isLaid hW h.r0 (by omega) (by have := upV_lt y (k := 10) (by decide); have := upV_lt y (k := 5) (by decide); omega) (by omega) (by have := upV_lt (y >>> (nI 5 &&& 31)) (k := 3) (by decide); omega) _) kL_28 rfl rfl ⟨by decide, by decide⟩ (Nat.le_of_ble_eq_true rfl) ⟨Nat.le_refl _, Nat.le_refl _⟩ ?_
      rintro v9 σ9 ⟨rfl, w9, x9, hW9, h9⟩
      refine P_iret dL_isStep_169 rfl (rfl) ?_
      exact ⟨rfl, w9, x9, hW9, h9⟩
theorem close_y {w : Cs} {g : Bool} (h : g.toNat = w.A.g) : oClose w g = (iI (-1005), w) := if_pos h
theorem close_n {w : Cs} {g : Bool} (h : ¬ g.toNat = w.A.g) : oClose w g = (iI (w.A.rg g.toNat).E, w.to (w.A.rg g.toNat)) := if_neg h
theorem Rel.rg {w x : Cs} (h : Rel w x) (g : Nat) : Rel (w.to (w.A.rg g)) (x.to (x.A.rg g)) := ⟨h.1.rg g, h.2.1, h.2.2⟩
set_option maxRecDepth 100000 in
set_option maxHeartbeats 4000000 in
theorem w_st1_true {σ : Sto} {w x : Cs} {c r : Nat} {v y z : Int32} (hW : W2 σ w x) (h : Rel w x) (hc : c < w.A.C) (hr : r < w.A.R) : PW mL_isStep 0 0 LQ 183 [some (.ref 0), some (.ref 114), some (.int v), some (.int y), some (.int z), some (.int (nI w.A.R)), some (.int (nI w.A.C)), some (.int (nI r)), some (.int (nI c)), some (.int (iI w.A.E)), none, none, none, none] [.int (bI true)] 228 σ 0 0 := by
  have hA := hW.okA
  have hB := hW.okB
  have hM := h.1
  have hC := hA.1
  have hR := hA.2.1
  have hE := St.E_in hA
  have hcB : c < x.A.C := by rw [hM.1.1]; exact hc
  have hrB : r < x.A.R := by rw [hM.1.2.1]; exact hr
  have hE2 := St.E_in (rg_ok hA (show Bool.toNat true ≤ 1 by decide))
  have hg2 := hA.2.2.1
  have hg : w.A.g = 0 ∨ w.A.g = 1 := by omega
  rcases hg with hg | hg
  · refine P_istore (q := 185) (L' := [_, _, _, _, _, _, _, _, _, _, _, _, _, _]) dL_isStep_183 rfl (by decide) rfl ?_
    refine P_aload_n (q := 186) dL_isStep_185 rfl rfl ?_
    refine P_iconst (q := 187) (v := nI 2) dL_isStep_186 rfl (by decide +kernel) ?_
    refine P_api (q := 190) dL_isStep_187 rfl kL_19 (o_count hW 2 (by decide) (v := nI 0) (show nI w.A.g = nI 0 by rw [hg])) rfl rfl (by decide) (hW.oo) rfl ⟨by decide, by decide⟩ (Nat.le_of_ble_eq_true rfl) ?_
    intro σ1 hW1
    refine P_iconst (q := 191) (v := nI 1) dL_isStep_190 rfl (by decide +kernel) ?_
    refine P_icmp_ne (q := 194) (tgt := 198) dL_isStep_191 rfl (by decide) (fun c_191 => ?_) (fun c_191 => ?_)
    · refine P_iconst (q := 199) (v := nI 0) dL_isStep_198 rfl (by decide +kernel) ?_
      refine P_istore (q := 201) (L' := [_, _, _, _, _, _, _, _, _, _, _, _, _, _]) dL_isStep_199 rfl (by decide) rfl ?_
      refine P_aload_n (q := 202) dL_isStep_201 rfl rfl ?_
      refine P_iload (q := 204) dL_isStep_202 rfl rfl ?_
      refine P_api (q := 207) dL_isStep_204 rfl kL_32 (o_close hW1 true (close_n (w := w) (by rw [hg]; decide))) rfl rfl (by decide) (hW1.oo) rfl ⟨by decide, by decide⟩ (Nat.le_of_ble_eq_true rfl) ?_
      intro σ2 hW2
      refine P_istore (q := 209) (L' := [_, _, _, _, _, _, _, _, _, _, _, _, _, _]) dL_isStep_207 rfl (by decide) rfl ?_
      refine P_iload (q := 211) dL_isStep_209 rfl rfl ?_
      refine P_aload_n (q := 212) dL_isStep_211 rfl rfl ?_
      refine P_iload (q := 214) dL_isStep_212 rfl rfl ?_
      refine P_api (q := 217) dL_isStep_214 rfl kL_32 (p_close hW2 true ((close_n (w := x) (by rw [hM.1.2.2.1, hg]; decide)).trans (by rw [(hM.rg (Bool.toNat true)).E (rg_ok hA (by decide))]))) rfl rfl (by decide) (hW2.pp) rfl ⟨by decide, by decide⟩ (Nat.le_of_ble_eq_true rfl) ?_
      intro σ3 hW3
      refine P_icmp_ne (q := 220) (tgt := 269) dL_isStep_217 rfl (by decide) (fun c_217 => ?_) (fun c_217 => ?_)
      · exact absurd (rfl) c_217
      · refine P_iload (q := 222) dL_isStep_220 rfl rfl ?_
        refine P_sipush (q := 225) (v := iI (-1005)) dL_isStep_222 rfl (by decide +kernel) ?_
        refine P_icmp_ne (q := 228) (tgt := 232) dL_isStep_225 rfl (by decide) (fun c_225 => ?_) (fun c_225 => ?_)
        · refine P_iconst (q := 233) (v := nI 0) dL_isStep_232 rfl (by decide +kernel) ?_
          refine P_iload (q := 235) dL_isStep_233 rfl rfl ?_
          refine P_iload (q := 237) dL_isStep_235 rfl rfl ?_
          refine P_icmp_ne (q := 240) (tgt := 244) dL_isStep_237 rfl (by decide) (fun c_237 => ?_) (fun c_237 => ?_)
          · refine P_iconst (q := 245) (v := nI 0) dL_isStep_244 rfl (by decide +kernel) ?_
            refine P_icmp_ne (q := 248) (tgt := 269) dL_isStep_245 rfl (by decide) (fun c_245 => ?_) (fun c_245 => ?_)
            · exact absurd (rfl) c_245
            · refine P_iload (q := 250) dL_isStep_248 rfl rfl ?_
              refine P_iload (q := 252) dL_isStep_250 rfl rfl ?_
              refine P_icmp_eq (q := 255) (tgt := 265) dL_isStep_252 rfl (by decide) (fun c_252 => ?_) (fun c_252 => ?_)
              · exact absurd c_252 (by decide)
              · refine P_iload (q := 257) dL_isStep_255 rfl rfl ?_
                refine P_aload_n (q := 258) dL_isStep_257 rfl rfl ?_
                refine P_iconst (q := 259) (v := nI 3) dL_isStep_258 rfl (by decide +kernel) ?_
                refine P_api (q := 262) dL_isStep_259 rfl kL_19 (o_count hW3 3 (by decide) (v := iI (w.A.rg (Bool.toNat true)).E) rfl) rfl rfl (by decide) (hW3.oo) rfl ⟨by decide, by decide⟩ (Nat.le_of_ble_eq_true rfl) ?_
                intro σ4 hW4
                refine P_icmp_ne (q := 265) (tgt := 269) dL_isStep_262 rfl (by decide) (fun c_262 => ?_) (fun c_262 => ?_)
                · exact absurd (rfl) c_262
                · refine P_iconst (q := 266) (v := nI 1) dL_isStep_265 rfl (by decide +kernel) ?_
                  refine P_goto (tgt := 270) dL_isStep_266 (by decide) ?_
                  refine P_iret dL_isStep_270 rfl (rfl) ?_
                  exact ⟨rfl, _, _, hW4, h.rg _⟩
          · exact absurd c_237 (by decide)
        · exfalso; rw [iI_inj (by omega) (by omega) (by omega) (by omega)] at c_225; omega
    · exact absurd c_191 (by decide)
  · refine P_istore (q := 185) (L' := [_, _, _, _, _, _, _, _, _, _, _, _, _, _]) dL_isStep_183 rfl (by decide) rfl ?_
    refine P_aload_n (q := 186) dL_isStep_185 rfl rfl ?_
    refine P_iconst (q := 187) (v := nI 2) dL_isStep_186 rfl (by decide +kernel) ?_
    refine P_api (q := 190) dL_isStep_187 rfl kL_19 (o_count hW 2 (by decide) (v := nI 1) (show nI w.A.g = nI 1 by rw [hg])) rfl rfl (by decide) (hW.oo) rfl ⟨by decide, by decide⟩ (Nat.le_of_ble_eq_true rfl) ?_
    intro σ1 hW1
    refine P_iconst (q := 191) (v := nI 1) dL_isStep_190 rfl (by decide +kernel) ?_
    refine P_icmp_ne (q := 194) (tgt := 198) dL_isStep_191 rfl (by decide) (fun c_191 => ?_) (fun c_191 => ?_)
    · exact absurd (rfl) c_191
    · refine P_iconst (q := 195) (v := nI 1) dL_isStep_194 rfl (by decide +kernel) ?_
      refine P_goto (tgt := 199) dL_isStep_195 (by decide) ?_
      refine P_istore (q := 201) (L' := [_, _, _, _, _, _, _, _, _, _, _, _, _, _]) dL_isStep_199 rfl (by decide) rfl ?_
      refine P_aload_n (q := 202) dL_isStep_201 rfl rfl ?_
      refine P_iload (q := 204) dL_isStep_202 rfl rfl ?_
      refine P_api (q := 207) dL_isStep_204 rfl kL_32 (o_close hW1 true (close_y (by rw [hg]; rfl))) rfl rfl (by decide) (hW1.oo) rfl ⟨by decide, by decide⟩ (Nat.le_of_ble_eq_true rfl) ?_
      intro σ2 hW2
      refine P_istore (q := 209) (L' := [_, _, _, _, _, _, _, _, _, _, _, _, _, _]) dL_isStep_207 rfl (by decide) rfl ?_
      refine P_iload (q := 211) dL_isStep_209 rfl rfl ?_
      refine P_aload_n (q := 212) dL_isStep_211 rfl rfl ?_
      refine P_iload (q := 214) dL_isStep_212 rfl rfl ?_
      refine P_api (q := 217) dL_isStep_214 rfl kL_32 (p_close hW2 true (close_y (by rw [hM.1.2.2.1, hg]; rfl))) rfl rfl (by decide) (hW2.pp) rfl ⟨by decide, by decide⟩ (Nat.le_of_ble_eq_true rfl) ?_
      intro σ3 hW3
      refine P_icmp_ne (q := 220) (tgt := 269) dL_isStep_217 rfl (by decide) (fun c_217 => ?_) (fun c_217 => ?_)
      · exact absurd (rfl) c_217
      · refine P_iload (q := 222) dL_isStep_220 rfl rfl ?_
        refine P_sipush (q := 225) (v := iI (-1005)) dL_isStep_222 rfl (by decide +kernel) ?_
        refine P_icmp_ne (q := 228) (tgt := 232) dL_isStep_225 rfl (by decide) (fun c_225 => ?_) (fun c_225 => ?_)
        · exact absurd (rfl) c_225
        · refine P_iconst (q := 229) (v := nI 1) dL_isStep_228 rfl (by decide +kernel) ?_
          refine P_goto (tgt := 233) dL_isStep_229 (by decide) ?_
          refine P_iload (q := 235) dL_isStep_233 rfl rfl ?_
          refine P_iload (q := 237) dL_isStep_235 rfl rfl ?_
          refine P_icmp_ne (q := 240) (tgt := 244) dL_isStep_237 rfl (by decide) (fun c_237 => ?_) (fun c_237 => ?_)
          · exact absurd (rfl) c_237
          · refine P_iconst (q := 241) (v := nI 1) dL_isStep_240 rfl (by decide +kernel) ?_
            refine P_goto (tgt := 245) dL_isStep_241 (by decide) ?_
            refine P_icmp_ne (q := 248) (tgt := 269) dL_isStep_245 rfl (by decide) (fun c_245 => ?_) (fun c_245 => ?_)
            · exact absurd (rfl) c_245
            · refine P_iload (q := 250) dL_isStep_248 rfl rfl ?_
              refine P_iload (q := 252) dL_isStep_250 rfl rfl ?_
              refine P_icmp_eq (q := 255) (tgt := 265) dL_isStep_252 rfl (by decide) (fun c_252 => ?_) (fun c_252 => ?_)
              · refine P_iconst (q := 266) (v := nI 1) dL_isStep_265 rfl (by decide +kernel) ?_
                refine P_goto (tgt := 270) dL_isStep_266 (by decide) ?_
                refine P_iret dL_isStep_270 rfl (rfl) ?_
                exact ⟨rfl, w, x, hW3, h⟩
              · exact absurd (rfl) c_252
set_option maxRecDepth 100000 in
set_option maxHeartbeats 4000000 in
theorem w_st1_false {σ : Sto} {w x : Cs} {c r : Nat} {v y z : Int32} (hW : W2 σ w x) (h : Rel w x) (hc : c < w.A.C) (hr : r < w.A.R) : PW mL_isStep 0 0 LQ 183 [some (.ref 0), some (.ref 114), some (.int v), some (.int y), some (.int z), some (.int (nI w.A.R)), some (.int (nI w.A.C)), some (.int (nI r)), some (.int (nI c)), some (.int (iI w.A.E)), none, none, none, none] [.int (bI false)] 228 σ 0 0 := by
  have hA := hW.okA
  have hB := hW.okB
  have hM := h.1
  have hC := hA.1
  have hR := hA.2.1
  have hE := St.E_in hA
  have hcB : c < x.A.C := by rw [hM.1.1]; exact hc
  have hrB : r < x.A.R := by rw [hM.1.2.1]; exact hr
  have hE2 := St.E_in (rg_ok hA (show Bool.toNat false ≤ 1 by decide))
  have hg2 := hA.2.2.1
  have hg : w.A.g = 0 ∨ w.A.g = 1 := by omega
  rcases hg with hg | hg
  · refine P_istore (q := 185) (L' := [_, _, _, _, _, _, _, _, _, _, _, _, _, _]) dL_isStep_183 rfl (by decide) rfl ?_
    refine P_aload_n (q := 186) dL_isStep_185 rfl rfl ?_
    refine P_iconst (q := 187) (v := nI 2) dL_isStep_186 rfl (by decide +kernel) ?_
    refine P_api (q := 190) dL_isStep_187 rfl kL_19 (o_count hW 2 (by decide) (v := nI 0) (show nI w.A.g = nI 0 by rw [hg])) rfl rfl (by decide) (hW.oo) rfl ⟨by decide, by decide⟩ (Nat.le_of_ble_eq_true rfl) ?_
    intro σ1 hW1
    refine P_iconst (q := 191) (v := nI 1) dL_isStep_190 rfl (by decide +kernel) ?_
    refine P_icmp_ne (q := 194) (tgt := 198) dL_isStep_191 rfl (by decide) (fun c_191 => ?_) (fun c_191 => ?_)
    · refine P_iconst (q := 199) (v := nI 0) dL_isStep_198 rfl (by decide +kernel) ?_
      refine P_istore (q := 201) (L' := [_, _, _, _, _, _, _, _, _, _, _, _, _, _]) dL_isStep_199 rfl (by decide) rfl ?_
      refine P_aload_n (q := 202) dL_isStep_201 rfl rfl ?_
      refine P_iload (q := 204) dL_isStep_202 rfl rfl ?_
      refine P_api (q := 207) dL_isStep_204 rfl kL_32 (o_close hW1 false (close_y (by rw [hg]; rfl))) rfl rfl (by decide) (hW1.oo) rfl ⟨by decide, by decide⟩ (Nat.le_of_ble_eq_true rfl) ?_
      intro σ2 hW2
      refine P_istore (q := 209) (L' := [_, _, _, _, _, _, _, _, _, _, _, _, _, _]) dL_isStep_207 rfl (by decide) rfl ?_
      refine P_iload (q := 211) dL_isStep_209 rfl rfl ?_
      refine P_aload_n (q := 212) dL_isStep_211 rfl rfl ?_
      refine P_iload (q := 214) dL_isStep_212 rfl rfl ?_
      refine P_api (q := 217) dL_isStep_214 rfl kL_32 (p_close hW2 false (close_y (by rw [hM.1.2.2.1, hg]; rfl))) rfl rfl (by decide) (hW2.pp) rfl ⟨by decide, by decide⟩ (Nat.le_of_ble_eq_true rfl) ?_
      intro σ3 hW3
      refine P_icmp_ne (q := 220) (tgt := 269) dL_isStep_217 rfl (by decide) (fun c_217 => ?_) (fun c_217 => ?_)
      · exact absurd (rfl) c_217
      · refine P_iload (q := 222) dL_isStep_220 rfl rfl ?_
        refine P_sipush (q := 225) (v := iI (-1005)) dL_isStep_222 rfl (by decide +kernel) ?_
        refine P_icmp_ne (q := 228) (tgt := 232) dL_isStep_225 rfl (by decide) (fun c_225 => ?_) (fun c_225 => ?_)
        · exact absurd (rfl) c_225
        · refine P_iconst (q := 229) (v := nI 1) dL_isStep_228 rfl (by decide +kernel) ?_
          refine P_goto (tgt := 233) dL_isStep_229 (by decide) ?_
          refine P_iload (q := 235) dL_isStep_233 rfl rfl ?_
          refine P_iload (q := 237) dL_isStep_235 rfl rfl ?_
          refine P_icmp_ne (q := 240) (tgt := 244) dL_isStep_237 rfl (by decide) (fun c_237 => ?_) (fun c_237 => ?_)
          · exact absurd (rfl) c_237
          · refine P_iconst (q := 241) (v := nI 1) dL_isStep_240 rfl (by decide +kernel) ?_
            refine P_goto (tgt := 245) dL_isStep_241 (by decide) ?_
            refine P_icmp_ne (q := 248) (tgt := 269) dL_isStep_245 rfl (by decide) (fun c_245 => ?_) (fun c_245 => ?_)
            · exact absurd (rfl) c_245
            · refine P_iload (q := 250) dL_isStep_248 rfl rfl ?_
              refine P_iload (q := 252) dL_isStep_250 rfl rfl ?_
              refine P_icmp_eq (q := 255) (tgt := 265) dL_isStep_252 rfl (by decide) (fun c_252 => ?_) (fun c_252 => ?_)
              · refine P_iconst (q := 266) (v := nI 1) dL_isStep_265 rfl (by decide +kernel) ?_
                refine P_goto (tgt := 270) dL_isStep_266 (by decide) ?_
                refine P_iret dL_isStep_270 rfl (rfl) ?_
                exact ⟨rfl, w, x, hW3, h⟩
              · exact absurd (rfl) c_252
    · exact absurd c_191 (by decide)
  · refine P_istore (q := 185) (L' := [_, _, _, _, _, _, _, _, _, _, _, _, _, _]) dL_isStep_183 rfl (by decide) rfl ?_
    refine P_aload_n (q := 186) dL_isStep_185 rfl rfl ?_
    refine P_iconst (q := 187) (v := nI 2) dL_isStep_186 rfl (by decide +kernel) ?_
    refine P_api (q := 190) dL_isStep_187 rfl kL_19 (o_count hW 2 (by decide) (v := nI 1) (show nI w.A.g = nI 1 by rw [hg])) rfl rfl (by decide) (hW.oo) rfl ⟨by decide, by decide⟩ (Nat.le_of_ble_eq_true rfl) ?_
    intro σ1 hW1
    refine P_iconst (q := 191) (v := nI 1) dL_isStep_190 rfl (by decide +kernel) ?_
    refine P_icmp_ne (q := 194) (tgt := 198) dL_isStep_191 rfl (by decide) (fun c_191 => ?_) (fun c_191 => ?_)
    · exact absurd (rfl) c_191
    · refine P_iconst (q := 195) (v := nI 1) dL_isStep_194 rfl (by decide +kernel) ?_
      refine P_goto (tgt := 199) dL_isStep_195 (by decide) ?_
      refine P_istore (q := 201) (L' := [_, _, _, _, _, _, _, _, _, _, _, _, _, _]) dL_isStep_199 rfl (by decide) rfl ?_
      refine P_aload_n (q := 202) dL_isStep_201 rfl rfl ?_
      refine P_iload (q := 204) dL_isStep_202 rfl rfl ?_
      refine P_api (q := 207) dL_isStep_204 rfl kL_32 (o_close hW1 false (close_n (w := w) (by rw [hg]; decide))) rfl rfl (by decide) (hW1.oo) rfl ⟨by decide, by decide⟩ (Nat.le_of_ble_eq_true rfl) ?_
      intro σ2 hW2
      refine P_istore (q := 209) (L' := [_, _, _, _, _, _, _, _, _, _, _, _, _, _]) dL_isStep_207 rfl (by decide) rfl ?_
      refine P_iload (q := 211) dL_isStep_209 rfl rfl ?_
      refine P_aload_n (q := 212) dL_isStep_211 rfl rfl ?_
      refine P_iload (q := 214) dL_isStep_212 rfl rfl ?_
      refine P_api (q := 217) dL_isStep_214 rfl kL_32 (p_close hW2 false ((close_n (w := x) (by rw [hM.1.2.2.1, hg]; decide)).trans (by rw [(hM.rg (Bool.toNat false)).E (rg_ok hA (by decide))]))) rfl rfl (by decide) (hW2.pp) rfl ⟨by decide, by decide⟩ (Nat.le_of_ble_eq_true rfl) ?_
      intro σ3 hW3
      refine P_icmp_ne (q := 220) (tgt := 269) dL_isStep_217 rfl (by decide) (fun c_217 => ?_) (fun c_217 => ?_)
      · exact absurd (rfl) c_217
      · refine P_iload (q := 222) dL_isStep_220 rfl rfl ?_
        refine P_sipush (q := 225) (v := iI (-1005)) dL_isStep_222 rfl (by decide +kernel) ?_
        refine P_icmp_ne (q := 228) (tgt := 232) dL_isStep_225 rfl (by decide) (fun c_225 => ?_) (fun c_225 => ?_)
        · refine P_iconst (q := 233) (v := nI 0) dL_isStep_232 rfl (by decide +kernel) ?_
          refine P_iload (q := 235) dL_isStep_233 rfl rfl ?_
          refine P_iload (q := 237) dL_isStep_235 rfl rfl ?_
          refine P_icmp_ne (q := 240) (tgt := 244) dL_isStep_237 rfl (by decide) (fun c_237 => ?_) (fun c_237 => ?_)
          · refine P_iconst (q := 245) (v := nI 0) dL_isStep_244 rfl (by decide +kernel) ?_
            refine P_icmp_ne (q := 248) (tgt := 269) dL_isStep_245 rfl (by decide) (fun c_245 => ?_) (fun c_245 => ?_)
            · exact absurd (rfl) c_245
            · refine P_iload (q := 250) dL_isStep_248 rfl rfl ?_
              refine P_iload (q := 252) dL_isStep_250 rfl rfl ?_
              refine P_icmp_eq (q := 255) (tgt := 265) dL_isStep_252 rfl (by decide) (fun c_252 => ?_) (fun c_252 => ?_)
              · exact absurd c_252 (by decide)
              · refine P_iload (q := 257) dL_isStep_255 rfl rfl ?_
                refine P_aload_n (q := 258) dL_isStep_257 rfl rfl ?_
                refine P_iconst (q := 259) (v := nI 3) dL_isStep_258 rfl (by decide +kernel) ?_
                refine P_api (q := 262) dL_isStep_259 rfl kL_19 (o_count hW3 3 (by decide) (v := iI (w.A.rg (Bool.toNat false)).E) rfl) rfl rfl (by decide) (hW3.oo) rfl ⟨by decide, by decide⟩ (Nat.le_of_ble_eq_true rfl) ?_
                intro σ4 hW4
                refine P_icmp_ne (q := 265) (tgt := 269) dL_isStep_262 rfl (by decide) (fun c_262 => ?_) (fun c_262 => ?_)
                · exact absurd (rfl) c_262
                · refine P_iconst (q := 266) (v := nI 1) dL_isStep_265 rfl (by decide +kernel) ?_
                  refine P_goto (tgt := 270) dL_isStep_266 (by decide) ?_
                  refine P_iret dL_isStep_270 rfl (rfl) ?_
                  exact ⟨rfl, _, _, hW4, h.rg _⟩
          · exact absurd c_237 (by decide)
        · exfalso; rw [iI_inj (by omega) (by omega) (by omega) (by omega)] at c_225; omega
set_option maxRecDepth 100000 in
set_option maxHeartbeats 4000000 in
theorem w_st1 {σ : Sto} {w x : Cs} {c r : Nat} {v y z : Int32} (hW : W2 σ w x) (h : Rel w x) (hc : c < w.A.C) (hr : r < w.A.R) : PW mL_isStep 0 0 LQ 170 [some (.ref 0), some (.ref 114), some (.int v), some (.int y), some (.int z), some (.int (nI w.A.R)), some (.int (nI w.A.C)), some (.int (nI r)), some (.int (nI c)), some (.int (iI w.A.E)), none, none, none, none] [] 228 σ 0 0 := by
  have hA := hW.okA
  have hB := hW.okB
  have hM := h.1
  have hC := hA.1
  have hR := hA.2.1
  have hE := St.E_in hA
  have hcB : c < x.A.C := by rw [hM.1.1]; exact hc
  have hrB : r < x.A.R := by rw [hM.1.2.1]; exact hr
  refine P_iload_n (q := 171) dL_isStep_170 rfl rfl ?_
  refine P_iconst (q := 172) (v := nI 2) dL_isStep_171 rfl (by decide +kernel) ?_
  refine P_cs1 (q := 175) dL_isStep_172 rfl kL_23 (t_up y (by decide) (by decide)) rfl rfl ⟨by decide, by decide⟩ (Nat.le_of_ble_eq_true rfl) ⟨Nat.le_refl _, Nat.le_refl _⟩ ?_
  refine P_if_ne (q := 178) (tgt := 182) dL_isStep_175 rfl (by decide) (fun c_175 => ?_) (fun c_175 => ?_)
  · refine P_iconst (q := 183) (v := (bI false)) dL_isStep_182 rfl (by decide +kernel) ?_
    first | exact w_st1_true hW h hc hr | exact w_st1_false hW h hc hr
  · refine P_iconst (q := 179) (v := (bI true)) dL_isStep_178 rfl (by decide +kernel) ?_
    refine P_goto (tgt := 183) dL_isStep_179 (by decide) ?_
    first | exact w_st1_true hW h hc hr | exact w_st1_false hW h hc hr
theorem pull_y {w : Cs} {b : Bool} {q : Int} (q1 : -2 ≤ q) (q2 : q ≤ 2) (h : q = w.A.pv b) : oPull w b q = (iI (-1005), w) := by
  unfold oPull
  rw [if_pos ⟨q1, q2⟩, if_pos h]
theorem pull_n {w : Cs} {b : Bool} {q : Int} (q1 : -2 ≤ q) (q2 : q ≤ 2) (h : ¬ q = w.A.pv b) : oPull w b q = (iI (w.A.pv b), w.to (w.A.pl b q)) := by
  unfold oPull
  rw [if_pos ⟨q1, q2⟩, if_neg h]
set_option maxRecDepth 100000 in
set_option maxHeartbeats 4000000 in
theorem w_st2_true {σ : Sto} {w x : Cs} {c r : Nat} {v y z : Int32} (hW : W2 σ w x) (h : Rel w x) (hc : c < w.A.C) (hr : r < w.A.R) {q : Int} (q1 : -2 ≤ q) (q2 : q ≤ 2) : PW mL_isStep 0 0 LQ 294 [some (.ref 0), some (.ref 114), some (.int v), some (.int y), some (.int z), some (.int (nI w.A.R)), some (.int (nI w.A.C)), some (.int (nI r)), some (.int (nI c)), some (.int (iI w.A.E)), some (.int (iI q)), none, none, none] [.int (bI true)] 228 σ 0 0 := by
  have hA := hW.okA
  have hB := hW.okB
  have hM := h.1
  have hC := hA.1
  have hR := hA.2.1
  have hE := St.E_in hA
  have hcB : c < x.A.C := by rw [hM.1.1]; exact hc
  have hrB : r < x.A.R := by rw [hM.1.2.1]; exact hr
  obtain ⟨v0, w1, x1, e1, e2, hr1, hq⟩ : ∃ v0 w1 x1, oPull w true q = (v0, w1) ∧ oPull x true q = (v0, x1) ∧ Rel w1 x1 ∧ w1.A.ac = q := by
    by_cases e : q = w.A.pv true
    · exact ⟨_, _, _, pull_y q1 q2 e, pull_y q1 q2 (e.trans (hM.pv true).symm), h, e.symm⟩
    · exact ⟨iI (w.A.pv true), w.to (w.A.pl true q), x.to (x.A.pl true q), pull_n q1 q2 e, (pull_n (w := x) q1 q2 (fun g => e (g.trans (hM.pv true)))).trans (by rw [hM.pv true]), ⟨hM.pl true q, h.2.1, h.2.2⟩, rfl⟩
  refine P_istore (q := 296) (L' := [_, _, _, _, _, _, _, _, _, _, _, _, _, _]) dL_isStep_294 rfl (by decide) rfl ?_
  refine P_aload_n (q := 297) dL_isStep_296 rfl rfl ?_
  refine P_iload (q := 299) dL_isStep_297 rfl rfl ?_
  refine P_iload (q := 301) dL_isStep_299 rfl rfl ?_
  refine P_api (q := 304) dL_isStep_301 rfl kL_36 (o_pull_true hW (by omega) (by omega) e1) rfl rfl (by decide) (hW.oo) rfl ⟨by decide, by decide⟩ (Nat.le_of_ble_eq_true rfl) ?_
  intro σ1 hW1
  refine P_aload_n (q := 305) dL_isStep_304 rfl rfl ?_
  refine P_iload (q := 307) dL_isStep_305 rfl rfl ?_
  refine P_iload (q := 309) dL_isStep_307 rfl rfl ?_
  refine P_api (q := 312) dL_isStep_309 rfl kL_36 (p_pull_true hW1 (by omega) (by omega) e2) rfl rfl (by decide) (hW1.pp) rfl ⟨by decide, by decide⟩ (Nat.le_of_ble_eq_true rfl) ?_
  intro σ2 hW2
  refine P_icmp_ne (q := 315) (tgt := 340) dL_isStep_312 rfl (by decide) (fun c_312 => ?_) (fun c_312 => ?_)
  · exact absurd (rfl) c_312
  · refine P_aload_n (q := 316) dL_isStep_315 rfl rfl ?_
    refine P_iload (q := 318) dL_isStep_316 rfl rfl ?_
    refine P_if_eq (q := 321) (tgt := 326) dL_isStep_318 rfl (by decide) (fun c_318 => ?_) (fun c_318 => ?_)
    · exact absurd c_318 (by decide)
    · refine P_bipush (q := 323) (v := nI 7) dL_isStep_321 rfl (by decide +kernel) ?_
      refine P_goto (tgt := 328) dL_isStep_323 (by decide) ?_
      refine P_api (q := 331) dL_isStep_328 rfl kL_19 (o_count hW2 7 (by decide) (v := iI q) (congrArg iI hq)) rfl rfl (by decide) (hW2.oo) rfl ⟨by decide, by decide⟩ (Nat.le_of_ble_eq_true rfl) ?_
      intro σ3 hW3
      refine P_iload (q := 333) dL_isStep_331 rfl rfl ?_
      refine P_icmp_ne (q := 336) (tgt := 340) dL_isStep_333 rfl (by decide) (fun c_333 => ?_) (fun c_333 => ?_)
      · exact absurd (rfl) c_333
      · refine P_iconst (q := 337) (v := nI 1) dL_isStep_336 rfl (by decide +kernel) ?_
        refine P_goto (tgt := 341) dL_isStep_337 (by decide) ?_
        refine P_iret dL_isStep_341 rfl (rfl) ?_
        exact ⟨rfl, _, _, hW3, hr1⟩
set_option maxRecDepth 100000 in
set_option maxHeartbeats 4000000 in
theorem w_st2_false {σ : Sto} {w x : Cs} {c r : Nat} {v y z : Int32} (hW : W2 σ w x) (h : Rel w x) (hc : c < w.A.C) (hr : r < w.A.R) {q : Int} (q1 : -2 ≤ q) (q2 : q ≤ 2) : PW mL_isStep 0 0 LQ 294 [some (.ref 0), some (.ref 114), some (.int v), some (.int y), some (.int z), some (.int (nI w.A.R)), some (.int (nI w.A.C)), some (.int (nI r)), some (.int (nI c)), some (.int (iI w.A.E)), some (.int (iI q)), none, none, none] [.int (bI false)] 228 σ 0 0 := by
  have hA := hW.okA
  have hB := hW.okB
  have hM := h.1
  have hC := hA.1
  have hR := hA.2.1
  have hE := St.E_in hA
  have hcB : c < x.A.C := by rw [hM.1.1]; exact hc
  have hrB : r < x.A.R := by rw [hM.1.2.1]; exact hr
  obtain ⟨v0, w1, x1, e1, e2, hr1, hq⟩ : ∃ v0 w1 x1, oPull w false q = (v0, w1) ∧ oPull x false q = (v0, x1) ∧ Rel w1 x1 ∧ w1.A.al = q := by
    by_cases e : q = w.A.pv false
    · exact ⟨_, _, _, pull_y q1 q2 e, pull_y q1 q2 (e.trans (hM.pv false).symm), h, e.symm⟩
    · exact ⟨iI (w.A.pv false), w.to (w.A.pl false q), x.to (x.A.pl false q), pull_n q1 q2 e, (pull_n (w := x) q1 q2 (fun g => e (g.trans (hM.pv false)))).trans (by rw [hM.pv false]), ⟨hM.pl false q, h.2.1, h.2.2⟩, rfl⟩
  refine P_istore (q := 296) (L' := [_, _, _, _, _, _, _, _, _, _, _, _, _, _]) dL_isStep_294 rfl (by decide) rfl ?_
  refine P_aload_n (q := 297) dL_isStep_296 rfl rfl ?_
  refine P_iload (q := 299) dL_isStep_297 rfl rfl ?_
  refine P_iload (q := 301) dL_isStep_299 rfl rfl ?_
  refine P_api (q := 304) dL_isStep_301 rfl kL_36 (o_pull_false hW (by omega) (by omega) e1) rfl rfl (by decide) (hW.oo) rfl ⟨by decide, by decide⟩ (Nat.le_of_ble_eq_true rfl) ?_
  intro σ1 hW1
  refine P_aload_n (q := 305) dL_isStep_304 rfl rfl ?_
  refine P_iload (q := 307) dL_isStep_305 rfl rfl ?_
  refine P_iload (q := 309) dL_isStep_307 rfl rfl ?_
  refine P_api (q := 312) dL_isStep_309 rfl kL_36 (p_pull_false hW1 (by omega) (by omega) e2) rfl rfl (by decide) (hW1.pp) rfl ⟨by decide, by decide⟩ (Nat.le_of_ble_eq_true rfl) ?_
  intro σ2 hW2
  refine P_icmp_ne (q := 315) (tgt := 340) dL_isStep_312 rfl (by decide) (fun c_312 => ?_) (fun c_312 => ?_)
  · exact absurd (rfl) c_312
  · refine P_aload_n (q := 316) dL_isStep_315 rfl rfl ?_
    refine P_iload (q := 318) dL_isStep_316 rfl rfl ?_
    refine P_if_eq (q := 321) (tgt := 326) dL_isStep_318 rfl (by decide) (fun c_318 => ?_) (fun c_318 => ?_)
    · refine P_bipush (q := 328) (v := nI 6) dL_isStep_326 rfl (by decide +kernel) ?_
      refine P_api (q := 331) dL_isStep_328 rfl kL_19 (o_count hW2 6 (by decide) (v := iI q) (congrArg iI hq)) rfl rfl (by decide) (hW2.oo) rfl ⟨by decide, by decide⟩ (Nat.le_of_ble_eq_true rfl) ?_
      intro σ3 hW3
      refine P_iload (q := 333) dL_isStep_331 rfl rfl ?_
      refine P_icmp_ne (q := 336) (tgt := 340) dL_isStep_333 rfl (by decide) (fun c_333 => ?_) (fun c_333 => ?_)
      · exact absurd (rfl) c_333
      · refine P_iconst (q := 337) (v := nI 1) dL_isStep_336 rfl (by decide +kernel) ?_
        refine P_goto (tgt := 341) dL_isStep_337 (by decide) ?_
        refine P_iret dL_isStep_341 rfl (rfl) ?_
        exact ⟨rfl, _, _, hW3, hr1⟩
    · exact absurd rfl c_318
set_option maxRecDepth 100000 in
set_option maxHeartbeats 4000000 in
theorem w_st2 {σ : Sto} {w x : Cs} {c r : Nat} {v y z : Int32} (hW : W2 σ w x) (h : Rel w x) (hc : c < w.A.C) (hr : r < w.A.R) : PW mL_isStep 0 0 LQ 271 [some (.ref 0), some (.ref 114), some (.int v), some (.int y), some (.int z), some (.int (nI w.A.R)), some (.int (nI w.A.C)), some (.int (nI r)), some (.int (nI c)), some (.int (iI w.A.E)), none, none, none, none] [] 228 σ 0 0 := by
  have hA := hW.okA
  have hB := hW.okB
  have hM := h.1
  have hC := hA.1
  have hR := hA.2.1
  have hE := St.E_in hA
  have hcB : c < x.A.C := by rw [hM.1.1]; exact hc
  have hrB : r < x.A.R := by rw [hM.1.2.1]; exact hr
  refine P_iload_n (q := 272) dL_isStep_271 rfl rfl ?_
  refine P_iconst (q := 273) (v := nI 5) dL_isStep_272 rfl (by decide +kernel) ?_
  refine P_cs1 (q := 276) dL_isStep_273 rfl kL_23 (t_up y (by decide) (by decide)) rfl rfl ⟨by decide, by decide⟩ (Nat.le_of_ble_eq_true rfl) ⟨Nat.le_refl _, Nat.le_refl _⟩ ?_
  refine P_iconst (q := 277) (v := nI 2) dL_isStep_276 rfl (by decide +kernel) ?_
  refine P_isub (q := 278) dL_isStep_277 rfl ?_
  have hu := upV_lt y (k := 5) (by decide)
  rw [nI_subI]
  refine P_istore (q := 280) (L' := [_, _, _, _, _, _, _, _, _, _, _, _, _, _]) dL_isStep_278 rfl (by decide) rfl ?_
  refine P_iload (q := 282) dL_isStep_280 rfl rfl ?_
  refine P_iconst (q := 283) (v := nI 2) dL_isStep_282 rfl (by decide +kernel) ?_
  refine P_cs1 (q := 286) dL_isStep_283 rfl kL_23 (t_up _ (by decide) (by decide)) rfl rfl ⟨by decide, by decide⟩ (Nat.le_of_ble_eq_true rfl) ⟨Nat.le_refl _, Nat.le_refl _⟩ ?_
  refine P_if_ne (q := 289) (tgt := 293) dL_isStep_286 rfl (by decide) (fun c_286 => ?_) (fun c_286 => ?_)
  · refine P_iconst (q := 294) (v := (bI false)) dL_isStep_293 rfl (by decide +kernel) ?_
    first | exact w_st2_true hW h hc hr (by omega) (by omega) | exact w_st2_false hW h hc hr (by omega) (by omega)
  · refine P_iconst (q := 290) (v := (bI true)) dL_isStep_289 rfl (by decide +kernel) ?_
    refine P_goto (tgt := 294) dL_isStep_290 (by decide) ?_
    first | exact w_st2_true hW h hc hr (by omega) (by omega) | exact w_st2_false hW h hc hr (by omega) (by omega)
theorem field_y {w : Cs} {r c : Nat} {q : Int} (hr : r < w.A.R) (hc : c < w.A.C) (q1 : -3 ≤ q) (q2 : q ≤ 3) (h : q = w.A.fd c r) : oField w (r : Int) (c : Int) q = (iI (-1005), w) := by
  unfold oField
  rw [if_pos (inB_t hr hc), if_pos ⟨q1, q2⟩]
  simp only [Int.toNat_natCast]
  rw [if_pos h]
theorem field_n {w : Cs} {r c : Nat} {q : Int} (hr : r < w.A.R) (hc : c < w.A.C) (q1 : -3 ≤ q) (q2 : q ≤ 3) (h : ¬ q = w.A.fd c r) : oField w (r : Int) (c : Int) q = (iI (w.A.fd c r), w.to (w.A.pf c r q)) := by
  unfold oField
  rw [if_pos (inB_t hr hc), if_pos ⟨q1, q2⟩]
  simp only [Int.toNat_natCast]
  rw [if_neg h]
set_option maxRecDepth 100000 in
set_option maxHeartbeats 4000000 in
theorem w_st4_y {σ : Sto} {w x : Cs} {c r : Nat} {v y z : Int32} (hW : W2 σ w x) (h : Rel w x) (hc : c < w.A.C) (hr : r < w.A.R) {q : Int} (q1 : -3 ≤ q) (q2 : q ≤ 3) (hq : q = w.A.fd c r) : PW mL_isStep 0 0 LQ 352 [some (.ref 0), some (.ref 114), some (.int v), some (.int y), some (.int z), some (.int (nI w.A.R)), some (.int (nI w.A.C)), some (.int (nI r)), some (.int (nI c)), some (.int (iI w.A.E)), some (.int (iI q)), none, none, none] [] 228 σ 0 0 := by
  have hA := hW.okA
  have hB := hW.okB
  have hM := h.1
  have hC := hA.1
  have hR := hA.2.1
  have hE := St.E_in hA
  have hcB : c < x.A.C := by rw [hM.1.1]; exact hc
  have hrB : r < x.A.R := by rw [hM.1.2.1]; exact hr
  have hfd := hA.2.2.2.2.2.2.2 c r
  refine P_aload_n (q := 353) dL_isStep_352 rfl rfl ?_
  refine P_iload (q := 355) dL_isStep_353 rfl rfl ?_
  refine P_iload (q := 357) dL_isStep_355 rfl rfl ?_
  refine P_iconst (q := 358) (v := nI 1) dL_isStep_357 rfl (by decide +kernel) ?_
  refine P_api (q := 361) dL_isStep_358 rfl kL_40 (o_cell hW hr hc (by omega) (by omega) 1 (by decide) (v := iI (w.A.fd c r)) (cellv hr hc 1)) rfl rfl (by decide) (hW.oo) rfl ⟨by decide, by decide⟩ (Nat.le_of_ble_eq_true rfl) ?_
  intro σ1 hW1
  refine P_istore (q := 363) (L' := [_, _, _, _, _, _, _, _, _, _, _, _, _, _]) dL_isStep_361 rfl (by decide) rfl ?_
  refine P_aload_n (q := 364) dL_isStep_363 rfl rfl ?_
  refine P_iload (q := 366) dL_isStep_364 rfl rfl ?_
  refine P_iload (q := 368) dL_isStep_366 rfl rfl ?_
  refine P_iload (q := 370) dL_isStep_368 rfl rfl ?_
  refine P_api (q := 373) dL_isStep_370 rfl kL_44 (o_field hW1 (by omega) (by omega) (by omega) (by omega) (field_y hr hc q1 q2 hq)) rfl rfl (by decide) (hW1.oo) rfl ⟨by decide, by decide⟩ (Nat.le_of_ble_eq_true rfl) ?_
  intro σ2 hW2
  refine P_istore (q := 375) (L' := [_, _, _, _, _, _, _, _, _, _, _, _, _, _]) dL_isStep_373 rfl (by decide) rfl ?_
  refine P_aload_n (q := 376) dL_isStep_375 rfl rfl ?_
  refine P_iload (q := 378) dL_isStep_376 rfl rfl ?_
  refine P_iload (q := 380) dL_isStep_378 rfl rfl ?_
  refine P_iload (q := 382) dL_isStep_380 rfl rfl ?_
  refine P_ineg (q := 383) dL_isStep_382 rfl ?_
  rw [iI_neg]
  refine P_api (q := 386) dL_isStep_383 rfl kL_44 (p_field hW2 (by omega) (by omega) (by omega) (by omega) (field_y hrB hcB (by omega) (by omega) (by rw [hM.2.2 c r hc hr, hq]))) rfl rfl (by decide) (hW2.pp) rfl ⟨by decide, by decide⟩ (Nat.le_of_ble_eq_true rfl) ?_
  intro σ3 hW3
  refine P_istore (q := 388) (L' := [_, _, _, _, _, _, _, _, _, _, _, _, _, _]) dL_isStep_386 rfl (by decide) rfl ?_
  refine P_iload (q := 390) dL_isStep_388 rfl rfl ?_
  refine P_iload (q := 392) dL_isStep_390 rfl rfl ?_
  refine P_iload (q := 394) dL_isStep_392 rfl rfl ?_
  refine P_icmp_ne (q := 397) (tgt := 403) dL_isStep_394 rfl (by decide) (fun c_394 => ?_) (fun c_394 => ?_)
  · exact absurd (congrArg iI hq.symm) c_394
  · refine P_sipush (q := 400) (v := iI (-1005)) dL_isStep_397 rfl (by decide +kernel) ?_
    refine P_goto (tgt := 405) dL_isStep_400 (by decide) ?_
    refine P_icmp_ne (q := 408) (tgt := 459) dL_isStep_405 rfl (by decide) (fun c_405 => ?_) (fun c_405 => ?_)
    · exact absurd (rfl) c_405
    · refine P_iload (q := 410) dL_isStep_408 rfl rfl ?_
      refine P_iload (q := 412) dL_isStep_410 rfl rfl ?_
      refine P_iload (q := 414) dL_isStep_412 rfl rfl ?_
      refine P_icmp_ne (q := 417) (tgt := 423) dL_isStep_414 rfl (by decide) (fun c_414 => ?_) (fun c_414 => ?_)
      · exact absurd (congrArg iI hq.symm) c_414
      · refine P_sipush (q := 420) (v := iI (-1005)) dL_isStep_417 rfl (by decide +kernel) ?_
        refine P_goto (tgt := 426) dL_isStep_420 (by decide) ?_
        refine P_icmp_ne (q := 429) (tgt := 459) dL_isStep_426 rfl (by decide) (fun c_426 => ?_) (fun c_426 => ?_)
        · exact absurd (rfl) c_426
        · refine P_aload_n (q := 430) dL_isStep_429 rfl rfl ?_
          refine P_iconst (q := 431) (v := nI 3) dL_isStep_430 rfl (by decide +kernel) ?_
          refine P_api (q := 434) dL_isStep_431 rfl kL_19 (o_count hW3 3 (by decide) (v := iI w.A.E) rfl) rfl rfl (by decide) (hW3.oo) rfl ⟨by decide, by decide⟩ (Nat.le_of_ble_eq_true rfl) ?_
          intro σ4 hW4
          refine P_iload (q := 436) dL_isStep_434 rfl rfl ?_
          refine P_iload (q := 438) dL_isStep_436 rfl rfl ?_
          refine P_iload (q := 440) dL_isStep_438 rfl rfl ?_
          refine P_isub (q := 441) dL_isStep_440 rfl ?_
          rw [iI_sub]
          refine P_aload_n (q := 442) dL_isStep_441 rfl rfl ?_
          refine P_iload (q := 444) dL_isStep_442 rfl rfl ?_
          refine P_iload (q := 446) dL_isStep_444 rfl rfl ?_
          refine P_iconst (q := 447) (v := nI 0) dL_isStep_446 rfl (by decide +kernel) ?_
          refine P_api (q := 450) dL_isStep_447 rfl kL_40 (o_cell (w := w) hW4 hr hc (by omega) (by omega) 0 (by decide) (v := iI (w.A.s c r)) (cellv (w := w) hr hc 0)) rfl rfl (by decide) (hW4.oo) rfl ⟨by decide, by decide⟩ (Nat.le_of_ble_eq_true rfl) ?_
          intro σ5 hW5
          refine P_imul (q := 451) dL_isStep_450 rfl ?_
          rw [iI_mul]
          refine P_isub (q := 452) dL_isStep_451 rfl ?_
          rw [iI_sub]
          refine P_icmp_ne (q := 455) (tgt := 459) dL_isStep_452 rfl (by decide) (fun c_452 => ?_) (fun c_452 => ?_)
          · exact absurd (congrArg iI (by rw [hq, Int.sub_self, Int.zero_mul]; omega)) c_452
          · refine P_iconst (q := 456) (v := nI 1) dL_isStep_455 rfl (by decide +kernel) ?_
            refine P_goto (tgt := 460) dL_isStep_456 (by decide) ?_
            refine P_iret dL_isStep_460 rfl (rfl) ?_
            exact ⟨rfl, w, x, hW5, h⟩
set_option maxRecDepth 100000 in
set_option maxHeartbeats 4000000 in
theorem w_st4_n {σ : Sto} {w x : Cs} {c r : Nat} {v y z : Int32} (hW : W2 σ w x) (h : Rel w x) (hc : c < w.A.C) (hr : r < w.A.R) {q : Int} (q1 : -3 ≤ q) (q2 : q ≤ 3) (hq : ¬ q = w.A.fd c r) : PW mL_isStep 0 0 LQ 352 [some (.ref 0), some (.ref 114), some (.int v), some (.int y), some (.int z), some (.int (nI w.A.R)), some (.int (nI w.A.C)), some (.int (nI r)), some (.int (nI c)), some (.int (iI w.A.E)), some (.int (iI q)), none, none, none] [] 228 σ 0 0 := by
  have hA := hW.okA
  have hB := hW.okB
  have hM := h.1
  have hC := hA.1
  have hR := hA.2.1
  have hE := St.E_in hA
  have hcB : c < x.A.C := by rw [hM.1.1]; exact hc
  have hrB : r < x.A.R := by rw [hM.1.2.1]; exact hr
  have hfd := hA.2.2.2.2.2.2.2 c r
  refine P_aload_n (q := 353) dL_isStep_352 rfl rfl ?_
  refine P_iload (q := 355) dL_isStep_353 rfl rfl ?_
  refine P_iload (q := 357) dL_isStep_355 rfl rfl ?_
  refine P_iconst (q := 358) (v := nI 1) dL_isStep_357 rfl (by decide +kernel) ?_
  refine P_api (q := 361) dL_isStep_358 rfl kL_40 (o_cell hW hr hc (by omega) (by omega) 1 (by decide) (v := iI (w.A.fd c r)) (cellv hr hc 1)) rfl rfl (by decide) (hW.oo) rfl ⟨by decide, by decide⟩ (Nat.le_of_ble_eq_true rfl) ?_
  intro σ1 hW1
  refine P_istore (q := 363) (L' := [_, _, _, _, _, _, _, _, _, _, _, _, _, _]) dL_isStep_361 rfl (by decide) rfl ?_
  refine P_aload_n (q := 364) dL_isStep_363 rfl rfl ?_
  refine P_iload (q := 366) dL_isStep_364 rfl rfl ?_
  refine P_iload (q := 368) dL_isStep_366 rfl rfl ?_
  refine P_iload (q := 370) dL_isStep_368 rfl rfl ?_
  refine P_api (q := 373) dL_isStep_370 rfl kL_44 (o_field hW1 (by omega) (by omega) (by omega) (by omega) (field_n hr hc q1 q2 hq)) rfl rfl (by decide) (hW1.oo) rfl ⟨by decide, by decide⟩ (Nat.le_of_ble_eq_true rfl) ?_
  intro σ2 hW2
  refine P_istore (q := 375) (L' := [_, _, _, _, _, _, _, _, _, _, _, _, _, _]) dL_isStep_373 rfl (by decide) rfl ?_
  refine P_aload_n (q := 376) dL_isStep_375 rfl rfl ?_
  refine P_iload (q := 378) dL_isStep_376 rfl rfl ?_
  refine P_iload (q := 380) dL_isStep_378 rfl rfl ?_
  refine P_iload (q := 382) dL_isStep_380 rfl rfl ?_
  refine P_ineg (q := 383) dL_isStep_382 rfl ?_
  rw [iI_neg]
  refine P_api (q := 386) dL_isStep_383 rfl kL_44 (p_field hW2 (by omega) (by omega) (by omega) (by omega) ((field_n (q := -q) hrB hcB (by omega) (by omega) (by rw [hM.2.2 c r hc hr]; omega)).trans (by rw [hM.2.2 c r hc hr]))) rfl rfl (by decide) (hW2.pp) rfl ⟨by decide, by decide⟩ (Nat.le_of_ble_eq_true rfl) ?_
  intro σ3 hW3
  refine P_istore (q := 388) (L' := [_, _, _, _, _, _, _, _, _, _, _, _, _, _]) dL_isStep_386 rfl (by decide) rfl ?_
  refine P_iload (q := 390) dL_isStep_388 rfl rfl ?_
  refine P_iload (q := 392) dL_isStep_390 rfl rfl ?_
  refine P_iload (q := 394) dL_isStep_392 rfl rfl ?_
  refine P_icmp_ne (q := 397) (tgt := 403) dL_isStep_394 rfl (by decide) (fun c_394 => ?_) (fun c_394 => ?_)
  · refine P_iload (q := 405) dL_isStep_403 rfl rfl ?_
    refine P_icmp_ne (q := 408) (tgt := 459) dL_isStep_405 rfl (by decide) (fun c_405 => ?_) (fun c_405 => ?_)
    · exact absurd (rfl) c_405
    · refine P_iload (q := 410) dL_isStep_408 rfl rfl ?_
      refine P_iload (q := 412) dL_isStep_410 rfl rfl ?_
      refine P_iload (q := 414) dL_isStep_412 rfl rfl ?_
      refine P_icmp_ne (q := 417) (tgt := 423) dL_isStep_414 rfl (by decide) (fun c_414 => ?_) (fun c_414 => ?_)
      · refine P_iload (q := 425) dL_isStep_423 rfl rfl ?_
        refine P_ineg (q := 426) dL_isStep_425 rfl ?_
        rw [iI_neg]
        refine P_icmp_ne (q := 429) (tgt := 459) dL_isStep_426 rfl (by decide) (fun c_426 => ?_) (fun c_426 => ?_)
        · exact absurd (rfl) c_426
        · refine P_aload_n (q := 430) dL_isStep_429 rfl rfl ?_
          refine P_iconst (q := 431) (v := nI 3) dL_isStep_430 rfl (by decide +kernel) ?_
          refine P_api (q := 434) dL_isStep_431 rfl kL_19 (o_count hW3 3 (by decide) (v := iI (w.A.pf c r q).E) rfl) rfl rfl (by decide) (hW3.oo) rfl ⟨by decide, by decide⟩ (Nat.le_of_ble_eq_true rfl) ?_
          intro σ4 hW4
          refine P_iload (q := 436) dL_isStep_434 rfl rfl ?_
          refine P_iload (q := 438) dL_isStep_436 rfl rfl ?_
          refine P_iload (q := 440) dL_isStep_438 rfl rfl ?_
          refine P_isub (q := 441) dL_isStep_440 rfl ?_
          rw [iI_sub]
          refine P_aload_n (q := 442) dL_isStep_441 rfl rfl ?_
          refine P_iload (q := 444) dL_isStep_442 rfl rfl ?_
          refine P_iload (q := 446) dL_isStep_444 rfl rfl ?_
          refine P_iconst (q := 447) (v := nI 0) dL_isStep_446 rfl (by decide +kernel) ?_
          refine P_api (q := 450) dL_isStep_447 rfl kL_40 (o_cell (w := (w.to (w.A.pf c r q))) hW4 hr hc (by omega) (by omega) 0 (by decide) (v := iI (w.A.s c r)) (cellv (w := (w.to (w.A.pf c r q))) hr hc 0)) rfl rfl (by decide) (hW4.oo) rfl ⟨by decide, by decide⟩ (Nat.le_of_ble_eq_true rfl) ?_
          intro σ5 hW5
          refine P_imul (q := 451) dL_isStep_450 rfl ?_
          rw [iI_mul]
          refine P_isub (q := 452) dL_isStep_451 rfl ?_
          rw [iI_sub]
          refine P_icmp_ne (q := 455) (tgt := 459) dL_isStep_452 rfl (by decide) (fun c_452 => ?_) (fun c_452 => ?_)
          · exact absurd (congrArg iI (E_pf hc hr q)) c_452
          · refine P_iconst (q := 456) (v := nI 1) dL_isStep_455 rfl (by decide +kernel) ?_
            refine P_goto (tgt := 460) dL_isStep_456 (by decide) ?_
            refine P_iret dL_isStep_460 rfl (rfl) ?_
            exact ⟨rfl, _, _, hW5, hM.pf c r q, h.2.1, h.2.2⟩
      · exfalso; rw [iI_inj (by omega) (by omega) (by omega) (by omega)] at c_414; exact hq c_414.symm
  · exfalso; rw [iI_inj (by omega) (by omega) (by omega) (by omega)] at c_394; exact hq c_394.symm
set_option maxRecDepth 100000 in
set_option maxHeartbeats 4000000 in
theorem w_st4 {σ : Sto} {w x : Cs} {c r : Nat} {v y z : Int32} (hW : W2 σ w x) (h : Rel w x) (hc : c < w.A.C) (hr : r < w.A.R) : PW mL_isStep 0 0 LQ 342 [some (.ref 0), some (.ref 114), some (.int v), some (.int y), some (.int z), some (.int (nI w.A.R)), some (.int (nI w.A.C)), some (.int (nI r)), some (.int (nI c)), some (.int (iI w.A.E)), none, none, none, none] [] 228 σ 0 0 := by
  have hA := hW.okA
  have hB := hW.okB
  have hM := h.1
  have hC := hA.1
  have hR := hA.2.1
  have hE := St.E_in hA
  have hcB : c < x.A.C := by rw [hM.1.1]; exact hc
  have hrB : r < x.A.R := by rw [hM.1.2.1]; exact hr
  refine P_iload_n (q := 343) dL_isStep_342 rfl rfl ?_
  refine P_bipush (q := 345) (v := nI 7) dL_isStep_343 rfl (by decide +kernel) ?_
  refine P_cs1 (q := 348) dL_isStep_345 rfl kL_23 (t_up y (by decide) (by decide)) rfl rfl ⟨by decide, by decide⟩ (Nat.le_of_ble_eq_true rfl) ⟨Nat.le_refl _, Nat.le_refl _⟩ ?_
  refine P_iconst (q := 349) (v := nI 3) dL_isStep_348 rfl (by decide +kernel) ?_
  refine P_isub (q := 350) dL_isStep_349 rfl ?_
  have hu := upV_lt y (k := 7) (by decide)
  rw [nI_subI]
  refine P_istore (q := 352) (L' := [_, _, _, _, _, _, _, _, _, _, _, _, _, _]) dL_isStep_350 rfl (by decide) rfl ?_
  by_cases hq : ((upV y 7 : Nat) : Int) - ((3 : Nat) : Int) = w.A.fd c r
  · exact w_st4_y hW h hc hr (by omega) (by omega) hq
  · exact w_st4_n hW h hc hr (by omega) (by omega) hq
theorem turn_e {w : Cs} {r c : Nat} (hr : r < w.A.R) (hc : c < w.A.C) (hA : w.A.ok) : oTurn w (r : Int) (c : Int) = (iI (w.A.E - w.A.gain c r), w.to (w.A.flip (2 ^ (4 * c + r)))) := by
  unfold oTurn
  rw [if_pos (inB_t hr hc)]
  simp only [Int.toNat_natCast]
  rw [E_flip hA hc hr]
set_option maxRecDepth 100000 in
set_option maxHeartbeats 4000000 in
theorem w_st7 {σ : Sto} {w x : Cs} {c r : Nat} {v y z : Int32} (hW : W2 σ w x) (h : Rel w x) (hc : c < w.A.C) (hr : r < w.A.R) : PW mL_isStep 0 0 LQ 461 [some (.ref 0), some (.ref 114), some (.int v), some (.int y), some (.int z), some (.int (nI w.A.R)), some (.int (nI w.A.C)), some (.int (nI r)), some (.int (nI c)), some (.int (iI w.A.E)), none, none, none, none] [] 228 σ 0 0 := by
  have hA := hW.okA
  have hB := hW.okB
  have hM := h.1
  have hC := hA.1
  have hR := hA.2.1
  have hE := St.E_in hA
  have hcB : c < x.A.C := by rw [hM.1.1]; exact hc
  have hrB : r < x.A.R := by rw [hM.1.2.1]; exact hr
  refine P_aload_n (q := 462) dL_isStep_461 rfl rfl ?_
  refine P_iload (q := 464) dL_isStep_462 rfl rfl ?_
  refine P_iload (q := 466) dL_isStep_464 rfl rfl ?_
  refine P_iconst (q := 467) (v := nI 2) dL_isStep_466 rfl (by decide +kernel) ?_
  refine P_api (q := 470) dL_isStep_467 rfl kL_40 (o_cell hW hr hc (by omega) (by omega) 2 (by decide) (v := iI (w.A.gain c r)) (cellv hr hc 2)) rfl rfl (by decide) (hW.oo) rfl ⟨by decide, by decide⟩ (Nat.le_of_ble_eq_true rfl) ?_
  intro σ1 hW1
  refine P_istore (q := 472) (L' := [_, _, _, _, _, _, _, _, _, _, _, _, _, _]) dL_isStep_470 rfl (by decide) rfl ?_
  refine P_aload_n (q := 473) dL_isStep_472 rfl rfl ?_
  refine P_iload (q := 475) dL_isStep_473 rfl rfl ?_
  refine P_iload (q := 477) dL_isStep_475 rfl rfl ?_
  refine P_api (q := 480) dL_isStep_477 rfl kL_47 (o_turn hW1 (by omega) (by omega) (turn_e hr hc hA)) rfl rfl (by decide) (hW1.oo) rfl ⟨by decide, by decide⟩ (Nat.le_of_ble_eq_true rfl) ?_
  intro σ2 hW2
  refine P_iload (q := 482) dL_isStep_480 rfl rfl ?_
  refine P_iload (q := 484) dL_isStep_482 rfl rfl ?_
  refine P_isub (q := 485) dL_isStep_484 rfl ?_
  rw [iI_sub]
  refine P_icmp_ne (q := 488) (tgt := 508) dL_isStep_485 rfl (by decide) (fun c_485 => ?_) (fun c_485 => ?_)
  · exact absurd (rfl) c_485
  · refine P_aload_n (q := 489) dL_isStep_488 rfl rfl ?_
    refine P_iload (q := 491) dL_isStep_489 rfl rfl ?_
    refine P_iload (q := 493) dL_isStep_491 rfl rfl ?_
    refine P_api (q := 496) dL_isStep_493 rfl kL_47 (p_turn hW2 (by omega) (by omega) ((turn_e hrB hcB hB).trans (by rw [hM.E hA, hM.gain hA hc hr]))) rfl rfl (by decide) (hW2.pp) rfl ⟨by decide, by decide⟩ (Nat.le_of_ble_eq_true rfl) ?_
    intro σ3 hW3
    refine P_iload (q := 498) dL_isStep_496 rfl rfl ?_
    refine P_iload (q := 500) dL_isStep_498 rfl rfl ?_
    refine P_isub (q := 501) dL_isStep_500 rfl ?_
    rw [iI_sub]
    refine P_icmp_ne (q := 504) (tgt := 508) dL_isStep_501 rfl (by decide) (fun c_501 => ?_) (fun c_501 => ?_)
    · exact absurd (rfl) c_501
    · refine P_iconst (q := 505) (v := nI 1) dL_isStep_504 rfl (by decide +kernel) ?_
      refine P_goto (tgt := 509) dL_isStep_505 (by decide) ?_
      refine P_iret dL_isStep_509 rfl (rfl) ?_
      exact ⟨rfl, _, _, hW3, hM.flip hA (one_sub hA hc hr), h.2.1, h.2.2⟩
theorem patch_e {w : Cs} {r c : Nat} (hr : r < w.A.R) (hc : c < w.A.C) : oPatch w (r : Int) (c : Int) = (nI (w.A.z (4 * c + r)), w.to (w.A.flip (w.A.P (4 * c + r)))) := by
  unfold oPatch
  rw [if_pos (inB_t hr hc)]
  simp only [Int.toNat_natCast]
  rfl
set_option maxRecDepth 100000 in
set_option maxHeartbeats 4000000 in
theorem w_st10 {σ : Sto} {w x : Cs} {c r : Nat} {v y z : Int32} (hW : W2 σ w x) (h : Rel w x) (hc : c < w.A.C) (hr : r < w.A.R) : PW mL_isStep 0 0 LQ 510 [some (.ref 0), some (.ref 114), some (.int v), some (.int y), some (.int z), some (.int (nI w.A.R)), some (.int (nI w.A.C)), some (.int (nI r)), some (.int (nI c)), some (.int (iI w.A.E)), none, none, none, none] [] 228 σ 0 0 := by
  have hA := hW.okA
  have hB := hW.okB
  have hM := h.1
  have hC := hA.1
  have hR := hA.2.1
  have hE := St.E_in hA
  have hcB : c < x.A.C := by rw [hM.1.1]; exact hc
  have hrB : r < x.A.R := by rw [hM.1.2.1]; exact hr
  have hP : x.A.P (4 * c + r) = w.A.P (4 * c + r) := hM.pIt hA hB hc hr 30
  refine P_aload_n (q := 511) dL_isStep_510 rfl rfl ?_
  refine P_iload (q := 513) dL_isStep_511 rfl rfl ?_
  refine P_iload (q := 515) dL_isStep_513 rfl rfl ?_
  refine P_bipush (q := 517) (v := nI 6) dL_isStep_515 rfl (by decide +kernel) ?_
  refine P_api (q := 520) dL_isStep_517 rfl kL_40 (o_cell hW hr hc (by omega) (by omega) 6 (by decide) (v := nI (w.A.z (4 * c + r))) (cellv hr hc 6)) rfl rfl (by decide) (hW.oo) rfl ⟨by decide, by decide⟩ (Nat.le_of_ble_eq_true rfl) ?_
  intro σ1 hW1
  refine P_istore (q := 522) (L' := [_, _, _, _, _, _, _, _, _, _, _, _, _, _]) dL_isStep_520 rfl (by decide) rfl ?_
  refine P_aload_n (q := 523) dL_isStep_522 rfl rfl ?_
  refine P_iload (q := 525) dL_isStep_523 rfl rfl ?_
  refine P_iload (q := 527) dL_isStep_525 rfl rfl ?_
  refine P_api (q := 530) dL_isStep_527 rfl kL_15 (o_patch hW1 (by omega) (by omega) (patch_e hr hc)) rfl rfl (by decide) (hW1.oo) rfl ⟨by decide, by decide⟩ (Nat.le_of_ble_eq_true rfl) ?_
  intro σ2 hW2
  refine P_iload (q := 532) dL_isStep_530 rfl rfl ?_
  refine P_icmp_ne (q := 535) (tgt := 552) dL_isStep_532 rfl (by decide) (fun c_532 => ?_) (fun c_532 => ?_)
  · exact absurd (rfl) c_532
  · refine P_aload_n (q := 536) dL_isStep_535 rfl rfl ?_
    refine P_iload (q := 538) dL_isStep_536 rfl rfl ?_
    refine P_iload (q := 540) dL_isStep_538 rfl rfl ?_
    refine P_api (q := 543) dL_isStep_540 rfl kL_15 (p_patch hW2 (by omega) (by omega) ((patch_e hrB hcB).trans (by rw [show x.A.z (4 * c + r) = w.A.z (4 * c + r) from congrArg (pcN 64) hP, hP]))) rfl rfl (by decide) (hW2.pp) rfl ⟨by decide, by decide⟩ (Nat.le_of_ble_eq_true rfl) ?_
    intro σ3 hW3
    refine P_iload (q := 545) dL_isStep_543 rfl rfl ?_
    refine P_icmp_ne (q := 548) (tgt := 552) dL_isStep_545 rfl (by decide) (fun c_545 => ?_) (fun c_545 => ?_)
    · exact absurd (rfl) c_545
    · refine P_iconst (q := 549) (v := nI 1) dL_isStep_548 rfl (by decide +kernel) ?_
      refine P_goto (tgt := 553) dL_isStep_549 (by decide) ?_
      refine P_iret dL_isStep_553 rfl (rfl) ?_
      exact ⟨rfl, _, _, hW3, hM.flip hA (pIt_sub hA hc hr 30), h.2.1, h.2.2⟩
theorem sweep_y {w : Cs} {k : Nat} (k1 : 1 ≤ k) (k2 : k ≤ 50) (h : (St.run k w.A).2 = 0) : oSweep w (k : Int) = (iI (-1005), w) := by
  unfold oSweep
  rw [if_pos ⟨by omega, by omega⟩, Int.toNat_natCast, if_pos h]
theorem sweep_n {w : Cs} {k : Nat} (k1 : 1 ≤ k) (k2 : k ≤ 50) (h : ¬ (St.run k w.A).2 = 0) : oSweep w (k : Int) = (nI (St.run k w.A).2, w.to (St.run k w.A).1) := by
  unfold oSweep
  rw [if_pos ⟨by omega, by omega⟩, Int.toNat_natCast, if_neg h]
set_option maxRecDepth 100000 in
set_option maxHeartbeats 4000000 in
theorem w_st11_y {σ : Sto} {w x : Cs} {c r : Nat} {v y z : Int32} (hW : W2 σ w x) (h : Rel w x) (hc : c < w.A.C) (hr : r < w.A.R) {k : Nat} (k1 : 1 ≤ k) (k2 : k ≤ 50) (hk : (St.run k w.A).2 = 0) : PW mL_isStep 0 0 LQ 563 [some (.ref 0), some (.ref 114), some (.int v), some (.int y), some (.int z), some (.int (nI w.A.R)), some (.int (nI w.A.C)), some (.int (nI r)), some (.int (nI c)), some (.int (iI w.A.E)), some (.int (nI k)), none, none, none] [] 228 σ 0 0 := by
  have hA := hW.okA
  have hB := hW.okB
  have hM := h.1
  have hC := hA.1
  have hR := hA.2.1
  have hE := St.E_in hA
  have hcB : c < x.A.C := by rw [hM.1.1]; exact hc
  have hrB : r < x.A.R := by rw [hM.1.2.1]; exact hr
  have hrun := Mir.run k hM hA
  have hG := (run_pos k1).mp hk
  refine P_aload_n (q := 564) dL_isStep_563 rfl rfl ?_
  refine P_iload (q := 566) dL_isStep_564 rfl rfl ?_
  refine P_api (q := 569) dL_isStep_566 rfl kL_50 (o_sweep hW (by omega) (sweep_y k1 k2 hk)) rfl rfl (by decide) (hW.oo) rfl ⟨by decide, by decide⟩ (Nat.le_of_ble_eq_true rfl) ?_
  intro σ1 hW1
  refine P_istore (q := 571) (L' := [_, _, _, _, _, _, _, _, _, _, _, _, _, _]) dL_isStep_569 rfl (by decide) rfl ?_
  refine P_iload (q := 573) dL_isStep_571 rfl rfl ?_
  refine P_aload_n (q := 574) dL_isStep_573 rfl rfl ?_
  refine P_iload (q := 576) dL_isStep_574 rfl rfl ?_
  refine P_api (q := 579) dL_isStep_576 rfl kL_50 (p_sweep hW1 (by omega) (sweep_y k1 k2 (hrun.2.trans hk))) rfl rfl (by decide) (hW1.pp) rfl ⟨by decide, by decide⟩ (Nat.le_of_ble_eq_true rfl) ?_
  intro σ2 hW2
  refine P_icmp_ne (q := 582) (tgt := 636) dL_isStep_579 rfl (by decide) (fun c_579 => ?_) (fun c_579 => ?_)
  · exact absurd (rfl) c_579
  · refine P_iload (q := 584) dL_isStep_582 rfl rfl ?_
    refine P_sipush (q := 587) (v := iI (-1005)) dL_isStep_584 rfl (by decide +kernel) ?_
    refine P_icmp_ne (q := 590) (tgt := 612) dL_isStep_587 rfl (by decide) (fun c_587 => ?_) (fun c_587 => ?_)
    · exact absurd (rfl) c_587
    · refine P_aload_n (q := 591) dL_isStep_590 rfl rfl ?_
      refine P_bipush (q := 593) (v := nI 12) dL_isStep_591 rfl (by decide +kernel) ?_
      refine P_api (q := 596) dL_isStep_593 rfl kL_19 (o_count hW2 12 (by decide) (v := iI 0) (congrArg iI hG)) rfl rfl (by decide) (hW2.oo) rfl ⟨by decide, by decide⟩ (Nat.le_of_ble_eq_true rfl) ?_
      intro σ3 hW3
      refine P_if_ne (q := 599) (tgt := 636) dL_isStep_596 rfl (by decide) (fun c_596 => ?_) (fun c_596 => ?_)
      · exact absurd (rfl) c_596
      · refine P_aload_n (q := 600) dL_isStep_599 rfl rfl ?_
        refine P_iconst (q := 601) (v := nI 3) dL_isStep_600 rfl (by decide +kernel) ?_
        refine P_api (q := 604) dL_isStep_601 rfl kL_19 (o_count hW3 3 (by decide) (v := iI w.A.E) rfl) rfl rfl (by decide) (hW3.oo) rfl ⟨by decide, by decide⟩ (Nat.le_of_ble_eq_true rfl) ?_
        intro σ4 hW4
        refine P_iload (q := 606) dL_isStep_604 rfl rfl ?_
        refine P_icmp_ne (q := 609) (tgt := 636) dL_isStep_606 rfl (by decide) (fun c_606 => ?_) (fun c_606 => ?_)
        · exact absurd (rfl) c_606
        · refine P_goto (tgt := 632) dL_isStep_609 (by decide) ?_
          refine P_iconst (q := 633) (v := nI 1) dL_isStep_632 rfl (by decide +kernel) ?_
          refine P_goto (tgt := 637) dL_isStep_633 (by decide) ?_
          refine P_iret dL_isStep_637 rfl (rfl) ?_
          exact ⟨rfl, w, x, hW4, h⟩
set_option maxRecDepth 100000 in
set_option maxHeartbeats 4000000 in
theorem w_st11_n {σ : Sto} {w x : Cs} {c r : Nat} {v y z : Int32} (hW : W2 σ w x) (h : Rel w x) (hc : c < w.A.C) (hr : r < w.A.R) {k : Nat} (k1 : 1 ≤ k) (k2 : k ≤ 50) (hk : ¬ (St.run k w.A).2 = 0) : PW mL_isStep 0 0 LQ 563 [some (.ref 0), some (.ref 114), some (.int v), some (.int y), some (.int z), some (.int (nI w.A.R)), some (.int (nI w.A.C)), some (.int (nI r)), some (.int (nI c)), some (.int (iI w.A.E)), some (.int (nI k)), none, none, none] [] 228 σ 0 0 := by
  have hA := hW.okA
  have hB := hW.okB
  have hM := h.1
  have hC := hA.1
  have hR := hA.2.1
  have hE := St.E_in hA
  have hcB : c < x.A.C := by rw [hM.1.1]; exact hc
  have hrB : r < x.A.R := by rw [hM.1.2.1]; exact hr
  have hrun := Mir.run k hM hA
  have hl := run_le hA k
  have hd := E_run k hA
  have hE2 := St.E_in (run_like k w.A (like_rf hA)).1
  refine P_aload_n (q := 564) dL_isStep_563 rfl rfl ?_
  refine P_iload (q := 566) dL_isStep_564 rfl rfl ?_
  refine P_api (q := 569) dL_isStep_566 rfl kL_50 (o_sweep hW (by omega) (sweep_n k1 k2 hk)) rfl rfl (by decide) (hW.oo) rfl ⟨by decide, by decide⟩ (Nat.le_of_ble_eq_true rfl) ?_
  intro σ1 hW1
  refine P_istore (q := 571) (L' := [_, _, _, _, _, _, _, _, _, _, _, _, _, _]) dL_isStep_569 rfl (by decide) rfl ?_
  refine P_iload (q := 573) dL_isStep_571 rfl rfl ?_
  refine P_aload_n (q := 574) dL_isStep_573 rfl rfl ?_
  refine P_iload (q := 576) dL_isStep_574 rfl rfl ?_
  refine P_api (q := 579) dL_isStep_576 rfl kL_50 (p_sweep hW1 (by omega) ((sweep_n (w := x) k1 k2 (by rw [hrun.2]; exact hk)).trans (by rw [hrun.2]))) rfl rfl (by decide) (hW1.pp) rfl ⟨by decide, by decide⟩ (Nat.le_of_ble_eq_true rfl) ?_
  intro σ2 hW2
  refine P_icmp_ne (q := 582) (tgt := 636) dL_isStep_579 rfl (by decide) (fun c_579 => ?_) (fun c_579 => ?_)
  · exact absurd (rfl) c_579
  · refine P_iload (q := 584) dL_isStep_582 rfl rfl ?_
    refine P_sipush (q := 587) (v := iI (-1005)) dL_isStep_584 rfl (by decide +kernel) ?_
    refine P_icmp_ne (q := 590) (tgt := 612) dL_isStep_587 rfl (by decide) (fun c_587 => ?_) (fun c_587 => ?_)
    · refine P_iload (q := 614) dL_isStep_612 rfl rfl ?_
      refine P_if_le (q := 617) (tgt := 636) dL_isStep_614 rfl (by decide) (fun c_614 => ?_) (fun c_614 => ?_)
      · exfalso; rw [show (0 : Int32) = nI 0 from rfl, nI_leI (by omega) (by omega)] at c_614; omega
      · refine P_aload_n (q := 618) dL_isStep_617 rfl rfl ?_
        refine P_iconst (q := 619) (v := nI 3) dL_isStep_618 rfl (by decide +kernel) ?_
        refine P_api (q := 622) dL_isStep_619 rfl kL_19 (o_count hW2 3 (by decide) (v := iI (St.run k w.A).1.E) rfl) rfl rfl (by decide) (hW2.oo) rfl ⟨by decide, by decide⟩ (Nat.le_of_ble_eq_true rfl) ?_
        intro σ3 hW3
        refine P_iload (q := 624) dL_isStep_622 rfl rfl ?_
        refine P_iconst (q := 625) (v := nI 2) dL_isStep_624 rfl (by decide +kernel) ?_
        refine P_iload (q := 627) dL_isStep_625 rfl rfl ?_
        refine P_imul (q := 628) dL_isStep_627 rfl ?_
        rw [pk_mul]
        refine P_isub (q := 629) dL_isStep_628 rfl ?_
        rw [sub_nI]
        refine P_icmp_gt (q := 632) (tgt := 636) dL_isStep_629 rfl (by decide) (fun c_629 => ?_) (fun c_629 => ?_)
        · exfalso; rw [iI_lt (by omega) (by omega) (by omega) (by omega)] at c_629; omega
        · refine P_iconst (q := 633) (v := nI 1) dL_isStep_632 rfl (by decide +kernel) ?_
          refine P_goto (tgt := 637) dL_isStep_633 (by decide) ?_
          refine P_iret dL_isStep_637 rfl (rfl) ?_
          exact ⟨rfl, _, _, hW3, hrun.1, h.2.1, h.2.2⟩
    · exfalso; rw [iI_nI, iI_inj (by omega) (by omega) (by omega) (by omega)] at c_587; omega
set_option maxRecDepth 100000 in
set_option maxHeartbeats 4000000 in
theorem w_st11 {σ : Sto} {w x : Cs} {c r : Nat} {v y z : Int32} (hW : W2 σ w x) (h : Rel w x) (hc : c < w.A.C) (hr : r < w.A.R) : PW mL_isStep 0 0 LQ 554 [some (.ref 0), some (.ref 114), some (.int v), some (.int y), some (.int z), some (.int (nI w.A.R)), some (.int (nI w.A.C)), some (.int (nI r)), some (.int (nI c)), some (.int (iI w.A.E)), none, none, none, none] [] 228 σ 0 0 := by
  have hA := hW.okA
  have hB := hW.okB
  have hM := h.1
  have hC := hA.1
  have hR := hA.2.1
  have hE := St.E_in hA
  have hcB : c < x.A.C := by rw [hM.1.1]; exact hc
  have hrB : r < x.A.R := by rw [hM.1.2.1]; exact hr
  refine P_iconst (q := 555) (v := nI 1) dL_isStep_554 rfl (by decide +kernel) ?_
  refine P_iload_n (q := 556) dL_isStep_555 rfl rfl ?_
  refine P_iconst (q := 557) (v := nI 5) dL_isStep_556 rfl (by decide +kernel) ?_
  refine P_cs1 (q := 560) dL_isStep_557 rfl kL_23 (t_up y (by decide) (by decide)) rfl rfl ⟨by decide, by decide⟩ (Nat.le_of_ble_eq_true rfl) ⟨Nat.le_refl _, Nat.le_refl _⟩ ?_
  refine P_iadd (q := 561) dL_isStep_560 rfl ?_
  have hu := upV_lt y (k := 5) (by decide)
  rw [nI_add]
  refine P_istore (q := 563) (L' := [_, _, _, _, _, _, _, _, _, _, _, _, _, _]) dL_isStep_561 rfl (by decide) rfl ?_
  by_cases hk : (St.run (1 + upV y 5) w.A).2 = 0
  · exact w_st11_y hW h hc hr (by omega) (by omega) hk
  · exact w_st11_n hW h hc hr (by omega) (by omega) hk
set_option maxRecDepth 100000 in
set_option maxHeartbeats 4000000 in
theorem w_st12 {σ : Sto} {w x : Cs} {c r : Nat} {v y z : Int32} (hW : W2 σ w x) (h : Rel w x) (hc : c < w.A.C) (hr : r < w.A.R) : PW mL_isStep 0 0 LQ 638 [some (.ref 0), some (.ref 114), some (.int v), some (.int y), some (.int z), some (.int (nI w.A.R)), some (.int (nI w.A.C)), some (.int (nI r)), some (.int (nI c)), some (.int (iI w.A.E)), none, none, none, none] [] 228 σ 0 0 := by
  have hA := hW.okA
  have hB := hW.okB
  have hM := h.1
  have hC := hA.1
  have hR := hA.2.1
  have hE := St.E_in hA
  have hcB : c < x.A.C := by rw [hM.1.1]; exact hc
  have hrB : r < x.A.R := by rw [hM.1.2.1]; exact hr
  refine P_aload_n (q := 639) dL_isStep_638 rfl rfl ?_
  refine P_aload_n (q := 640) dL_isStep_639 rfl rfl ?_
  refine P_iload_n (q := 641) dL_isStep_640 rfl rfl ?_
  refine P_iconst (q := 642) (v := nI 1) dL_isStep_641 rfl (by decide +kernel) ?_
  refine P_iload (q := 644) dL_isStep_642 rfl rfl ?_
  refine P_bipush (q := 646) (v := nI 10) dL_isStep_644 rfl (by decide +kernel) ?_
  refine P_cs1 (q := 649) dL_isStep_646 rfl kL_23 (t_up _ (by decide) (by decide)) rfl rfl ⟨by decide, by decide⟩ (Nat.le_of_ble_eq_true rfl) ⟨Nat.le_refl _, Nat.le_refl _⟩ ?_
  refine P_iadd (q := 650) dL_isStep_649 rfl ?_
  rw [nI_add]
  refine P_iconst (q := 651) (v := nI 1) dL_isStep_650 rfl (by decide +kernel) ?_
  refine P_iload (q := 653) dL_isStep_651 rfl rfl ?_
  refine P_iconst (q := 654) (v := nI 4) dL_isStep_653 rfl (by decide +kernel) ?_
  refine P_ishr (q := 655) dL_isStep_654 rfl ?_
  refine P_iconst (q := 656) (v := nI 3) dL_isStep_655 rfl (by decide +kernel) ?_
  refine P_cs1 (q := 659) dL_isStep_656 rfl kL_23 (t_up _ (by decide) (by decide)) rfl rfl ⟨by decide, by decide⟩ (Nat.le_of_ble_eq_true rfl) ⟨Nat.le_refl _, Nat.le_refl _⟩ ?_
  refine P_iadd (q := 660) dL_isStep_659 rfl ?_
  rw [nI_add]
  refine P_calls (q := 663) dL_isStep_660 rfl (t_isText hW h y (by omega) (by have := upV_lt z (k := 10) (by decide); omega) (by omega) (by have := upV_lt (z >>> (nI 4 &&& 31)) (k := 3) (by decide); omega)) kL_53 rfl rfl ⟨by decide, by decide⟩ (Nat.le_of_ble_eq_true rfl) ⟨Nat.le_refl _, Nat.le_refl _⟩ ?_
  rintro v9 σ9 ⟨rfl, w9, x9, hW9, h9⟩
  refine P_iret dL_isStep_663 rfl (rfl) ?_
  exact ⟨rfl, w9, x9, hW9, h9⟩
set_option maxRecDepth 100000 in
set_option maxHeartbeats 4000000 in
theorem w_st13 {σ : Sto} {w x : Cs} {c r : Nat} {v y z : Int32} (hW : W2 σ w x) (h : Rel w x) (hc : c < w.A.C) (hr : r < w.A.R) : PW mL_isStep 0 0 LQ 664 [some (.ref 0), some (.ref 114), some (.int v), some (.int y), some (.int z), some (.int (nI w.A.R)), some (.int (nI w.A.C)), some (.int (nI r)), some (.int (nI c)), some (.int (iI w.A.E)), none, none, none, none] [] 228 σ 0 0 := by
  have hA := hW.okA
  have hB := hW.okB
  have hM := h.1
  have hC := hA.1
  have hR := hA.2.1
  have hE := St.E_in hA
  have hcB : c < x.A.C := by rw [hM.1.1]; exact hc
  have hrB : r < x.A.R := by rw [hM.1.2.1]; exact hr
  refine P_aload_n (q := 665) dL_isStep_664 rfl rfl ?_
  refine P_aload_n (q := 666) dL_isStep_665 rfl rfl ?_
  refine P_iload_n (q := 667) dL_isStep_666 rfl rfl ?_
  refine P_calls (q := 670) dL_isStep_667 rfl (t_isSlot hW h y) kL_57 rfl rfl ⟨by decide, by decide⟩ (Nat.le_of_ble_eq_true rfl) ⟨Nat.le_refl _, Nat.le_refl _⟩ ?_
  rintro v9 σ9 ⟨rfl, w9, x9, hW9, h9⟩
  refine P_iret dL_isStep_670 rfl (rfl) ?_
  exact ⟨rfl, w9, x9, hW9, h9⟩
set_option maxRecDepth 100000 in
set_option maxHeartbeats 4000000 in
theorem t_isStep {σ : Sto} {w x : Cs} (hW : W2 σ w x) (h : Rel w x) (v y : Int32) : CP mL_isStep 0 0 [.ref 0, .ref 114, .int v, .int y] 228 σ LQ := by
  have hA := hW.okA
  have hC := hA.1
  have hR := hA.2.1
  refine CP_of (by decide +kernel) (Nat.le_of_ble_eq_true rfl) ?_
  change PW _ _ _ _ 0 [_, _, _, _, _, _, _, _, _, _, _, _, _, _] [] _ _ _ _
  refine P_iload_n (q := 1) dL_isStep_0 rfl rfl ?_
  refine P_iconst (q := 2) (v := nI 4) dL_isStep_1 rfl (by decide +kernel) ?_
  refine P_ishr (q := 3) dL_isStep_2 rfl ?_
  generalize v >>> (nI 4 &&& 31) = z
  refine P_istore (q := 5) (L' := [_, _, _, _, _, _, _, _, _, _, _, _, _, _]) dL_isStep_3 rfl (by decide) rfl ?_
  refine P_aload_n (q := 6) dL_isStep_5 rfl rfl ?_
  refine P_iconst (q := 7) (v := nI 1) dL_isStep_6 rfl (by decide +kernel) ?_
  refine P_api (q := 10) dL_isStep_7 rfl kL_19 (o_count hW 1 (by decide) (v := nI w.A.R) rfl) rfl rfl (by decide) (hW.oo) rfl ⟨by decide, by decide⟩ (Nat.le_of_ble_eq_true rfl) ?_
  intro σ1 hW1
  refine P_istore (q := 12) (L' := [_, _, _, _, _, _, _, _, _, _, _, _, _, _]) dL_isStep_10 rfl (by decide) rfl ?_
  refine P_aload_n (q := 13) dL_isStep_12 rfl rfl ?_
  refine P_iconst (q := 14) (v := nI 0) dL_isStep_13 rfl (by decide +kernel) ?_
  refine P_api (q := 17) dL_isStep_14 rfl kL_19 (o_count hW1 0 (by decide) (v := nI w.A.C) rfl) rfl rfl (by decide) (hW1.oo) rfl ⟨by decide, by decide⟩ (Nat.le_of_ble_eq_true rfl) ?_
  intro σ2 hW2
  refine P_istore (q := 19) (L' := [_, _, _, _, _, _, _, _, _, _, _, _, _, _]) dL_isStep_17 rfl (by decide) rfl ?_
  refine P_iload (q := 21) dL_isStep_19 rfl rfl ?_
  refine P_iload (q := 23) dL_isStep_21 rfl rfl ?_
  refine P_cs1 (q := 26) dL_isStep_23 rfl kL_23 (t_up z (by omega) (by omega)) rfl rfl ⟨by decide, by decide⟩ (Nat.le_of_ble_eq_true rfl) ⟨Nat.le_refl _, Nat.le_refl _⟩ ?_
  have hr := upV_lt z (k := w.A.R) (by omega)
  generalize upV z w.A.R = r at hr ⊢
  refine P_istore (q := 28) (L' := [_, _, _, _, _, _, _, _, _, _, _, _, _, _]) dL_isStep_26 rfl (by decide) rfl ?_
  refine P_iload (q := 30) dL_isStep_28 rfl rfl ?_
  refine P_iconst (q := 31) (v := nI 3) dL_isStep_30 rfl (by decide +kernel) ?_
  refine P_ishr (q := 32) dL_isStep_31 rfl ?_
  refine P_iload (q := 34) dL_isStep_32 rfl rfl ?_
  refine P_cs1 (q := 37) dL_isStep_34 rfl kL_23 (t_up _ (by omega) (by omega)) rfl rfl ⟨by decide, by decide⟩ (Nat.le_of_ble_eq_true rfl) ⟨Nat.le_refl _, Nat.le_refl _⟩ ?_
  have hc := upV_lt (z >>> (nI 3 &&& 31)) (k := w.A.C) (by omega)
  generalize upV (z >>> (nI 3 &&& 31)) w.A.C = c at hc ⊢
  refine P_istore (q := 39) (L' := [_, _, _, _, _, _, _, _, _, _, _, _, _, _]) dL_isStep_37 rfl (by decide) rfl ?_
  refine P_aload_n (q := 40) dL_isStep_39 rfl rfl ?_
  refine P_iconst (q := 41) (v := nI 3) dL_isStep_40 rfl (by decide +kernel) ?_
  refine P_api (q := 44) dL_isStep_41 rfl kL_19 (o_count hW2 3 (by decide) (v := iI w.A.E) rfl) rfl rfl (by decide) (hW2.oo) rfl ⟨by decide, by decide⟩ (Nat.le_of_ble_eq_true rfl) ?_
  intro σ4 hW4
  refine P_istore (q := 46) (L' := [_, _, _, _, _, _, _, _, _, _, _, _, _, _]) dL_isStep_44 rfl (by decide) rfl ?_
  refine P_iload_n (q := 47) dL_isStep_46 rfl rfl ?_
  refine P_bipush (q := 49) (v := nI 15) dL_isStep_47 rfl (by decide +kernel) ?_
  refine P_cs1 (q := 52) dL_isStep_49 rfl kL_23 (t_up v (by decide) (by decide)) rfl rfl ⟨by decide, by decide⟩ (Nat.le_of_ble_eq_true rfl) ⟨Nat.le_refl _, Nat.le_refl _⟩ ?_
  have hj := upV_lt v (k := 15) (by decide)
  generalize upV v 15 = j at hj ⊢
  by_cases hj13 : 13 ≤ j
  · have hj2 : j = 13 ∨ j = 14 := by omega
    rcases hj2 with rfl | rfl
    · refine P_tabOut (tgt := 664) dL_isStep_52 (Or.inr (by decide)) (by decide) ?_
      exact w_st13 hW4 h hc hr
    · refine P_tabOut (tgt := 664) dL_isStep_52 (Or.inr (by decide)) (by decide) ?_
      exact w_st13 hW4 h hc hr
  · rcases (show j = 0 ∨ j = 1 ∨ j = 2 ∨ j = 3 ∨ j = 4 ∨ j = 5 ∨ j = 6 ∨ j = 7 ∨ j = 8 ∨ j = 9 ∨ j = 10 ∨ j = 11 ∨ j = 12 by omega) with rfl | rfl | rfl | rfl | rfl | rfl | rfl | rfl | rfl | rfl | rfl | rfl | rfl
    · refine P_tabIn (tgt := 120) dL_isStep_52 (by decide) (by decide) (show _ = some 68 from rfl) (by decide) ?_
      exact w_st0 hW4 h hc hr
    · refine P_tabIn (tgt := 170) dL_isStep_52 (by decide) (by decide) (show _ = some 118 from rfl) (by decide) ?_
      exact w_st1 hW4 h hc hr
    · refine P_tabIn (tgt := 271) dL_isStep_52 (by decide) (by decide) (show _ = some 219 from rfl) (by decide) ?_
      exact w_st2 hW4 h hc hr
    · refine P_tabIn (tgt := 271) dL_isStep_52 (by decide) (by decide) (show _ = some 219 from rfl) (by decide) ?_
      exact w_st2 hW4 h hc hr
    · refine P_tabIn (tgt := 342) dL_isStep_52 (by decide) (by decide) (show _ = some 290 from rfl) (by decide) ?_
      exact w_st4 hW4 h hc hr
    · refine P_tabIn (tgt := 342) dL_isStep_52 (by decide) (by decide) (show _ = some 290 from rfl) (by decide) ?_
      exact w_st4 hW4 h hc hr
    · refine P_tabIn (tgt := 342) dL_isStep_52 (by decide) (by decide) (show _ = some 290 from rfl) (by decide) ?_
      exact w_st4 hW4 h hc hr
    · refine P_tabIn (tgt := 461) dL_isStep_52 (by decide) (by decide) (show _ = some 409 from rfl) (by decide) ?_
      exact w_st7 hW4 h hc hr
    · refine P_tabIn (tgt := 461) dL_isStep_52 (by decide) (by decide) (show _ = some 409 from rfl) (by decide) ?_
      exact w_st7 hW4 h hc hr
    · refine P_tabIn (tgt := 461) dL_isStep_52 (by decide) (by decide) (show _ = some 409 from rfl) (by decide) ?_
      exact w_st7 hW4 h hc hr
    · refine P_tabIn (tgt := 510) dL_isStep_52 (by decide) (by decide) (show _ = some 458 from rfl) (by decide) ?_
      exact w_st10 hW4 h hc hr
    · refine P_tabIn (tgt := 554) dL_isStep_52 (by decide) (by decide) (show _ = some 502 from rfl) (by decide) ?_
      exact w_st11 hW4 h hc hr
    · refine P_tabIn (tgt := 638) dL_isStep_52 (by decide) (by decide) (show _ = some 586 from rfl) (by decide) ?_
      exact w_st12 hW4 h hc hr
