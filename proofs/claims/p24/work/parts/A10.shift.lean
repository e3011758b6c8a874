/-! A CONTRACT FURTHER UP IN THE HEAP: the callee's world is the end of the caller's -/
def shV (a : Nat) : Value → Value
  | .ref k => .ref (a + k)
  | v => v
def shC (a : Nat) : PC → PC
  | .inl x => .inl x
  | .inr (.inl (ty, n, f)) => .inr (.inl (ty, n, fun j => (f j).map (fun k => a + k)))
  | .inr (.inr (ci, fs)) => .inr (.inr (ci, fs.map (shV a)))
theorem shV_tv (h0 a : Nat) (v : Value) : pw_tv h0 (shV a v) = pw_tv (h0 + a) v := by
  cases v with
  | ref k => show Value.ref (h0 + (a + k)) = Value.ref (h0 + a + k); rw [Nat.add_assoc]
  | _ => rfl
theorem shV_map (h0 a : Nat) (vs : List Value) : (vs.map (shV a)).map (pw_tv h0) = vs.map (pw_tv (h0 + a)) := by
  rw [List.map_map]
  exact List.map_congr_left fun v _ => shV_tv h0 a v
theorem shC_tr (h0 a : Nat) (aC : FieldType → ClassId) (c : PC) : pw_tr h0 aC (shC a c) = pw_tr (h0 + a) aC c := by
  rcases c with ⟨ty, n, f⟩ | ⟨ty, n, f⟩ | ⟨ci, fs⟩
  · rfl
  · show (Sum.inl (aC ty, n, .inr (.inr (.inr (.inr (fun j => ((f j).map (fun k => a + k)).map (fun k => h0 + k)))))) : va_E) = Sum.inl (aC ty, n, .inr (.inr (.inr (.inr (fun j => (f j).map (fun k => h0 + a + k))))))
    have hf : (fun j => ((f j).map (fun k => a + k)).map (fun k => h0 + k)) = (fun j => (f j).map (fun k => h0 + a + k)) := by
      funext j
      cases f j with
      | none => rfl
      | some k => show some (h0 + (a + k)) = some (h0 + a + k); rw [Nat.add_assoc]
    rw [hf]
  · show (Sum.inr (ci, (fs.map (shV a)).map (pw_tv h0)) : va_E) = Sum.inr (ci, fs.map (pw_tv (h0 + a)))
    rw [shV_map]
theorem CP.shift {M : Mth} {mc ms : Nat} {As : List Value} {n a : Nat} {σ τ : Sto} {Q : Option Value → Sto → Prop} (h : CP M mc ms As n τ Q) (hσ : ∀ k, k < n → σ (a + k) = shC a (τ k)) :
    CP M mc ms (As.map (shV a)) (a + n) σ (fun v σ' => ∃ v0 τ', Q v0 τ' ∧ v = v0.map (shV a) ∧ (∀ k, k < n + mc → σ' (a + k) = shC a (τ' k)) ∧ ∀ k, k < a → σ' k = σ k) := by
  intro l D aC h0 p e ha hc hk s m args below hf h1 h2 h3
  obtain ⟨q1, ⟨hP, hz⟩, hK⟩ := h2
  have hP2 : va_P D vwCl (pw_wl (h0 + a) aC n τ) s.heap := fun k q hq => by
    obtain ⟨hkn, rfl⟩ := pw_wl_in hq
    have h4 := hP (a + k) _ (pw_wl_at (show a + k < a + n by omega))
    rw [hσ k hkn, shC_tr] at h4
    rw [Nat.add_assoc]
    exact h4
  obtain ⟨k, o, g1, g2, g3, ⟨⟨⟨v, n', τ', e1, hQ, ⟨hP1, hz1⟩, hz2⟩, hF⟩, L, hE, hL⟩⟩ := h l D aC (h0 + a) p e ha hc hk s m args below hf h1 ⟨by rw [← shV_map]; exact q1, ⟨hP2, by omega⟩, hK⟩ h3
  have hn : n' = n + mc := by omega
  subst hn
  refine ⟨k, o, g1, g2, g3, ⟨⟨⟨v.map (shV a), a + (n + mc), fun k => if k < a then σ k else shC a (τ' (k - a)), ?_, ⟨v, τ', hQ, rfl, fun k hk => ?_, fun k hk => if_pos hk⟩, ⟨?_, by omega⟩, by omega⟩, hF.1, fun q hq1 hq2 => hF.2 q hq1 (fun hq3 => hq2 (by show h0 ≤ q; have : h0 + a ≤ q := hq3; omega))⟩, L, hE, fun q hq => by have : h0 + a ≤ q.base := hL q hq; show h0 ≤ q.base; omega⟩⟩
  · rw [e1]
    cases v with
    | none => rfl
    | some v => show Outcome.returned (some (pw_tv (h0 + a) v)) = Outcome.returned (some (pw_tv h0 (shV a v))); rw [shV_tv]
  · show (if a + k < a then σ (a + k) else shC a (τ' (a + k - a))) = _
    rw [if_neg (by omega), Nat.add_sub_cancel_left]
  · intro k q hq
    obtain ⟨hkn, rfl⟩ := pw_wl_in hq
    by_cases hka : k < a
    · rw [if_pos hka]
      have h4 := hP k _ (pw_wl_at (show k < a + n by omega))
      exact h4.kept (hF.2 (h0 + k) (by rw [hz]; omega) (fun hq3 => by have : h0 + a ≤ h0 + k := hq3; omega))
    · rw [if_neg hka]
      have h4 := hP1 (k - a) _ (pw_wl_at (show k - a < n + mc by omega))
      rw [shC_tr, show h0 + k = h0 + a + (k - a) by omega]
      exact h4
