theorem updL_eq {f : Nat → Int64} {j : Nat} {v : Int64} : vp_updL f j v j = v := by unfold vp_updL; simp
theorem updL_ne {f : Nat → Int64} {j k : Nat} {v : Int64} (h : k ≠ j) : vp_updL f j v k = f k := by unfold vp_updL; simp [h]
def ixS (ix : Nat → Option Nat) (N : Nat) (o : Option Nat) : Nat → Option Nat := fun k => if k = N then o else ix k
theorem nmM_add {h m h' m' d : Nat} {dT : Nat → Nat} {ix : Nat → Option Nat} {o : Option Nat} {σ σ' : hS} {τ τ' : hT} (hN : nmM h m dT ix σ τ) (h1 : h' + m' = h + m + 1) (h2 : h ≤ h') (h3 : h' ≤ 7) (h4 : m' ≤ 5) (hd : d < 2 ^ 60) (ho : ∀ i, o = some i → i < h') (e20 : σ' 64 20 = nI (h + m + 1)) (e72 : τ' 72 = vp_updL (τ 72) (h + m) (lN d)) (e73 : σ' 73 = upd (σ 73) (h + m) (oN o)) : nmM h' m' (upN dT (h + m) d) (ixS ix (h + m) o) σ' τ' := by
  obtain ⟨n1, n2, n3, n4⟩ := hN
  refine ⟨by rw [h1]; exact e20, h3, h4, fun k hk => ?_⟩
  by_cases e : k = h + m
  · subst e
    exact ⟨by rw [e72, updL_eq, upN_eq], by rw [upN_eq]; exact hd, by rw [e73, pk_us]; unfold ixS; rw [if_pos rfl], fun i hi => ho i (by unfold ixS at hi; rw [if_pos rfl] at hi; exact hi)⟩
  · obtain ⟨m1, m2, m3, m4⟩ := n4 k (by omega)
    exact ⟨by rw [e72, updL_ne e, upN_ne e]; exact m1, by rw [upN_ne e]; exact m2, by rw [e73, pk_un e]; unfold ixS; rw [if_neg e]; exact m3, fun i hi => by unfold ixS at hi; rw [if_neg e] at hi; have := m4 i hi; omega⟩

