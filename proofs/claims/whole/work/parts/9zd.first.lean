/-! how class and reference stand at first -/
abbrev σ00 : hS := fun _ _ => 0
def σ11 : hS := cS_X11_init_1 (nZ 0 σ00)
set_option maxRecDepth 100000 in
theorem σ11_laws : ∀ k, k < 5 → ∃ p, σ11 48 k = nI p ∧ p + (encL p (lawOf (fun _ => none) k)).length ≤ 10 ∧ cdAt (σ11 46) (σ11 47) p (encL p (lawOf (fun _ => none) k)) := by
  intro k hk
  rcases (show k = 0 ∨ k = 1 ∨ k = 2 ∨ k = 3 ∨ k = 4 by omega) with rfl | rfl | rfl | rfl | rfl
  · exact ⟨0, rfl, by decide, rfl, rfl, rfl, rfl, trivial⟩
  · exact ⟨2, rfl, by decide, rfl, rfl, rfl, rfl, trivial⟩
  · exact ⟨4, rfl, by decide, rfl, rfl, rfl, rfl, trivial⟩
  · exact ⟨6, rfl, by decide, rfl, rfl, rfl, rfl, trivial⟩
  · exact ⟨8, rfl, by decide, rfl, rfl, rfl, rfl, trivial⟩
set_option maxRecDepth 100000 in
theorem Rel_0 {σ : hS} {τ : hT} (hc : ∀ k, k < 64 → σ k = σ11 k) (hf : fX12 σ) (hk : rKy τ) : Rel σ τ := by
  obtain ⟨⟨f1, f2, f3, f4, f5⟩, ⟨g1, g2, g3, g4, g5, g6⟩, f6, f7, f8⟩ := hf
  have a6 : rLw σ 0 (fun k v => lvalC (σ11 46) (σ11 47) 10 v 10 (σ11 48 k) []) := rLw_read (Ls := fun _ => none) (by decide) σ11_laws (fun k hk => by
    show σ 86 (5 * 0 + k) = 0 ∧ σ 87 (5 * 0 + k) = 0
    rw [Nat.mul_zero, Nat.zero_add]; exact f6 k hk)
  have e0 : ∀ j, j < 37 → j ≠ 35 → ¬ (28 ≤ j ∧ j < 35) → σ 98 j = 0 := fun j h1 h2 h3 => by rw [f7 j h1, if_neg h2, if_neg h3]
  refine ⟨0, 10, 0, fun k v => lvalC (σ11 46) (σ11 47) 10 v 10 (σ11 48 k) [], fun _ => none, ⟨⟨?_, by decide, ?_, by decide⟩, ⟨f3, by decide, g1, by decide, rLw_okL (by decide) a6⟩, ⟨rfl, fun a ha => absurd ha (Nat.not_lt_zero _), ?_, fun k v hk => ?_, fun k v w q => lvalC_ext _ _ _ q _ _ _⟩, ?_, ?_, a6⟩, ⟨0, fun _ => 0, ?_, g3, by decide, fun i hi => absurd hi (Nat.not_lt_zero _)⟩, ⟨fun _ => 0, fun _ => 0, fun _ => 0, fun a ha => absurd ha (Nat.not_lt_zero _)⟩, ⟨⟨fun a _ h2 => ⟨e0 a (by omega) (by omega) (by omega), e0 (7 + a) (by omega) (by omega) (by omega), e0 (14 + a) (by omega) (by omega) (by omega), e0 (21 + a) (by omega) (by omega) (by omega)⟩, fun a ha => absurd ha (Nat.not_lt_zero _), fun a ha => absurd ha (Nat.not_lt_zero _), fun a j ha => absurd ha (Nat.not_lt_zero _), fun a ha => absurd ha (Nat.not_lt_zero _)⟩, ?_, ?_, ?_, fun a ha => absurd ha (Nat.not_lt_zero _)⟩, ⟨0, 0, ⟨?_, by decide, ?_, by decide⟩, f4, fun j hj => absurd hj (Nat.not_lt_zero _)⟩, fun s hs => ⟨?_, fun q => absurd ?_ q⟩, ⟨0, fun _ => 0, fun _ => 0, ?_, f5, by decide, fun i hi => absurd hi (Nat.not_lt_zero _), fun i hi => absurd hi (Nat.not_lt_zero _)⟩, ⟨0, ?_, f1, by decide, fun i hi => absurd hi (Nat.not_lt_zero _)⟩, ?_, hk⟩
  · rw [hc 38 (by decide)]; rfl
  · rw [hc 45 (by decide)]; rfl
  · show σ 38 11 = σ 84 0
    rw [hc 38 (by decide), g5]; rfl
  · show lvalC (σ 46) (σ 47) 10 v 10 (σ 48 k) [] = _
    rw [hc 46 (by decide), hc 47 (by decide), hc 48 (by decide)]
    rfl
  · rw [hc 38 (by decide), g2]; rfl
  · rw [hc 38 (by decide), g6]; rfl
  · rw [hc 38 (by decide)]; rfl
  · rw [hc 11 (by decide)]; rfl
  · rw [hc 11 (by decide), e0 36 (by decide) (by decide) (by decide)]; rfl
  · rw [hc 11 (by decide), f7 35 (by decide), if_pos rfl]; rfl
  · rw [hc 17 (by decide)]; rfl
  · rw [hc 17 (by decide)]; rfl
  · rw [hc 20 (by decide), f8 s hs]
    rcases (show s = 0 ∨ s = 1 ∨ s = 2 by omega) with rfl | rfl | rfl <;> rfl
  · rw [hc 20 (by decide)]
    rcases (show s = 0 ∨ s = 1 ∨ s = 2 by omega) with rfl | rfl | rfl <;> rfl
  · rw [hc 35 (by decide)]; rfl
  · rw [hc 1 (by decide)]; rfl
  · rw [hc 0 (by decide), f2]; rfl

