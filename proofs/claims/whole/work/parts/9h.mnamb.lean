theorem updL_eq {f : Nat → Int64} {j : Nat} {v : Int64} : vp_updL f j v j = v := by unfold vp_updL; simp
theorem updL_ne {f : Nat → Int64} {j k : Nat} {v : Int64} (h : k ≠ j) : vp_updL f j v k = f k := by unfold vp_updL; simp [h]
def ixS (ix : Nat → Option Nat) (N : Nat) (o : Option Nat) : Nat → Option Nat := fun k => if k = N then o else ix k
theorem nmM_add {h m h' m' d : Nat} {dT : Nat → Nat} {ix : Nat → Option Nat} {o : Option Nat} {σ σ' : hS} {τ τ' : hT} (hN : nmM h m dT ix σ τ) (h1 : h' + m' = h + m + 1) (h2 : h ≤ h') (h3 : h' ≤ 7) (h4 : m' ≤ 5) (hd : d < 2 ^ 60) (ho : ∀ i, o = some i → i < h') (e20 : σ' 64 20 = nI (h + m + 1)) (e72 : τ' 72 = vp_updL (τ 72) (h + m) (lN d)) (e73 : σ' 73 = upd (σ 73) (h + m) (oN o)) : nmM h' m' (upN dT (h + m) d) (ixS ix (h + m) o) σ' τ' := by
  obtain ⟨n1, n2, n3, n4⟩ := hN
  refine ⟨by rw [h1]; exact e20, h3, h4, fun k hk => ?_⟩
  by_cases e : k = h + m
  · subst e
    exact ⟨by rw [e72, updL_eq, upN_eq], by rw [upN_eq]; exact hd, by rw [e73, pk_us]; unfold ixS; rw [if_pos rfl], fun i hi => ho i (by unfold ixS at hi; rw [if_pos rfl] at hi; exact hi)⟩
  · obtain ⟨m1, m2, m3, m4⟩ := n4 k (by omega)
    exact ⟨by rw [e72, updL_ne e, upN_ne e]; exact m1, by rw [upN_ne e]; exact m2, by rw [e73, pk_un e]; unfold ixS; rw [if_neg e]; exact m3, fun i hi => by unfold ixS at hi; rw [if_neg e] at hi; have := m4 i hi; omega⟩
theorem nmS_house {D : Nat → Nat} {h m t : Nat} {dT : Nat → Nat} {ix : Nat → Option Nat} {S S' : hSm} (hS : nmS D h m dT ix S) (ht : tld D S (D t) = false) (e1 : sH S' = h + 1) (e2 : sM S' = m) (e3 : sHn S' = upN (sHn S) h t) (e4 : sMn S' = sMn S) : nmS D (h + 1) m (upN dT (h + m) (D t)) (ixS ix (h + m) (some h)) S' := by
  obtain ⟨p0, p00, p1, p2, p3, p4, p5⟩ := hS
  have hno : ∀ i, i < h → ¬ D (sHn S i) = D t := by
    intro i hi q
    have : (fnd D (sHn S) (D t) (sH S)).isSome = true := fnd_some_iff.mpr ⟨i, by omega, q⟩
    unfold tld at ht
    rw [this] at ht; cases ht
  have ex : ∀ k, k ≠ h + m → ixS ix (h + m) (some h) k = ix k := fun k hk => if_neg hk
  have ee : ixS ix (h + m) (some h) (h + m) = some h := if_pos rfl
  refine ⟨e1, e2, ?_, ?_, ?_, ?_, ?_⟩
  · intro k i hk hi
    rw [e3]
    by_cases e : k = h + m
    · rw [e, ee] at hi; cases hi
      exact ⟨by omega, by rw [e, upN_eq, upN_eq]⟩
    · rw [ex k e] at hi
      obtain ⟨q1, q2⟩ := p1 k i (by omega) hi
      exact ⟨by omega, by rw [upN_ne e, upN_ne (by omega)]; exact q2⟩
  · intro i hi
    by_cases e : i = h
    · exact ⟨h + m, by omega, by rw [ee, e]⟩
    · obtain ⟨k, k1, k2⟩ := p2 i (by omega)
      exact ⟨k, by omega, by rw [ex k (by omega)]; exact k2⟩
  · intro k hk hi
    rw [e4]
    by_cases e : k = h + m
    · rw [e, ee] at hi; cases hi
    · rw [ex k e] at hi
      rw [upN_ne e]
      exact p3 k (by omega) hi
  · intro j hj
    obtain ⟨k, k1, k2⟩ := p4 j hj
    exact ⟨k, by omega, by rw [e4, upN_ne (by omega)]; exact k2⟩
  · intro i j hi hj q
    rw [e3] at q
    by_cases ei : i = h
    · by_cases ej : j = h
      · omega
      · rw [ei, upN_eq, upN_ne ej] at q
        exact absurd q.symm (hno j (by omega))
    · by_cases ej : j = h
      · rw [ej, upN_eq, upN_ne ei] at q
        exact absurd q (hno i (by omega))
      · rw [upN_ne ei, upN_ne ej] at q
        exact p5 i j (by omega) (by omega) q
theorem nmS_motion {D : Nat → Nat} {h m t : Nat} {dT : Nat → Nat} {ix : Nat → Option Nat} {S S' : hSm} (hS : nmS D h m dT ix S) (e1 : sH S' = h) (e2 : sM S' = m + 1) (e3 : sHn S' = sHn S) (e4 : sMn S' = upN (sMn S) m t) : nmS D h (m + 1) (upN dT (h + m) (D t)) (ixS ix (h + m) none) S' := by
  obtain ⟨p0, p00, p1, p2, p3, p4, p5⟩ := hS
  have ex : ∀ k, k ≠ h + m → ixS ix (h + m) none k = ix k := fun k hk => if_neg hk
  have ee : ixS ix (h + m) none (h + m) = none := if_pos rfl
  refine ⟨e1, e2, ?_, ?_, ?_, ?_, ?_⟩
  · intro k i hk hi
    rw [e3]
    by_cases e : k = h + m
    · rw [e, ee] at hi; cases hi
    · rw [ex k e] at hi
      rw [upN_ne e]
      exact p1 k i (by omega) hi
  · intro i hi
    obtain ⟨k, k1, k2⟩ := p2 i hi
    exact ⟨k, by omega, by rw [ex k (by omega)]; exact k2⟩
  · intro k hk hi
    rw [e4]
    by_cases e : k = h + m
    · exact ⟨m, by omega, by rw [e, upN_eq, upN_eq]⟩
    · rw [ex k e] at hi
      obtain ⟨j, j1, j2⟩ := p3 k (by omega) hi
      exact ⟨j, by omega, by rw [upN_ne e, upN_ne (by omega)]; exact j2⟩
  · intro j hj
    rw [e4]
    by_cases e : j = m
    · exact ⟨h + m, by omega, by rw [e, upN_eq, upN_eq]⟩
    · obtain ⟨k, k1, k2⟩ := p4 j (by omega)
      exact ⟨k, by omega, by rw [upN_ne (by omega), upN_ne e]; exact k2⟩
  · intro i j hi hj q
    rw [e3] at q
    exact p5 i j hi hj q

