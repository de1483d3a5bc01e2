section S88
variable {G : hGl} {σ : hS} {τ : hT} {x y : Option Nat}
theorem supX_tok {D : Nat → Nat} {S : hSm} : ∀ k j m q t, supX D S k j m = .inl (q, t) → j ≤ t ∧ t < j + k ∧ (q = 3 ∨ q = 4 ∨ q = 5)
  | 0, j, m, q, t, h => by cases h
  | k + 1, j, m, q, t, h => by
    unfold supX at h
    split at h
    · cases h; omega
    · split at h
      · cases h; omega
      · have := supX_tok k _ _ q t h; omega
theorem smTell_tok {K V D : Nat → Nat} {S : hSm} {s e q t : Nat} {l : Option (Nat × hLw)} (hp : tlP K s e l) (h : smTell K V D S s e = .inl (q, t)) : s ≤ t ∧ t < e ∧ (q = 3 ∨ q = 4 ∨ q = 5) := by
  obtain ⟨t1, t2, t3, t4, t5, t6, t7, t8, t9⟩ := hp
  unfold smTell at h
  split at h
  · rename_i c
    have := t3 c
    unfold smHouse at h
    repeat' split at h
    all_goals cases h
    all_goals omega
  split at h
  · rename_i c
    have := t4 c
    unfold smHears at h
    repeat' split at h
    all_goals cases h
    all_goals omega
  split at h
  · rename_i c
    have := t5 c
    unfold smMotion at h
    split at h
    · cases h; omega
    · split at h
      · rename_i e2
        cases h
        have := supX_tok _ _ _ _ _ e2
        omega
      · cases h
  split at h
  · have := t6 (by omega)
    split at h <;> cases h
    omega
  split at h
  · have := t6 (by omega)
    split at h <;> cases h
    omega
  split at h
  · have := t6 (by omega)
    split at h <;> cases h
    omega
  cases h
theorem semX_tok {f : hF} {n a9 h9 r9 m9 : Nat} {L9 : hLs} : ∀ k s h r m (L : hLs) S q t, rel f n s → textX (kd f n) (vl f n) k s h r m L = .inr (a9, (h9, r9, m9, L9)) → semX (kd f n) (vl f n) (dg f n) k s h r m S = .inl (q, t) → rel f n t ∧ (q = 3 ∨ q = 4 ∨ q = 5)
  | 0, s, h, r, m, L, S, q, t, hr, hT, hs => by cases hs
  | k + 1, s, h, r, m, L, S, q, t, hr, hT, hs => by
    rw [semX_s] at hs
    rw [textX_s] at hT
    by_cases c25 : kd f n s = 25
    · rw [if_pos c25] at hs; cases hs
    · rw [if_neg c25] at hs hT
      obtain ⟨e, l, hX, hT2⟩ := bd_iff.mp hT
      rw [hX] at hs
      dsimp only at hs
      have hok := tellX_ok (kd f n) (vl f n) h r m s hr.1
      rw [hX] at hok
      obtain ⟨o1, o2, o3, o4⟩ := hok
      rcases hsm : smTell (kd f n) (vl f n) (dg f n) S s e with ⟨q', t'⟩ | S'
      · rw [hsm] at hs
        cases hs
        have g := smTell_tok o4 hsm
        exact ⟨rel_up hr o2 o4.2.1 (by omega) (by omega), g.2.2⟩
      · rw [hsm] at hs
        exact semX_tok k e _ _ _ _ S' q t (rel_up hr o2 o4.2.1 (Nat.le_refl _) o1) hT2 hs
/-- what a text is read as -/
def rdX (f : hF) (n : Nat) : Sum (Nat × Nat) (hLs × hSm) := match textX (kd f n) (vl f n) 401 0 0 0 0 (fun _ => none) with
  | .inl e => .inl e
  | .inr (_, (_, _, _, L)) => match semX (kd f n) (vl f n) (dg f n) 401 0 0 0 0 sm0 with
    | .inl e => .inl e
    | .inr S => .inr (L, S)
abbrev xRd : List Nat := [0, 1, 3, 4, 5, 6, 7, 8, 9, 10, 11, 12, 13, 14, 15, 16, 17, 20, 35, 51, 52, 53, 54, 55, 56, 57, 58, 59, 60, 61]
def pRd (f : hF) (n : Nat) (σ σ' : hS) : Prop := σ' 1 = upd (σ 1) 1 0 ∧ match rdX f n with
  | .inl (_, t) => (∀ c, c ∈ [11, 12, 13, 14, 15, 16, 17, 20, 35] → σ' c = σ c) ∧ σ' 0 = upd (σ 0) 11 (nI (tq f n t))
  | .inr (L, S) => σ' 0 = upd (σ 0) 11 (-1) ∧ clsS f n S σ' ∧ okS S ∧ (∃ sz, lawsC L sz σ' ∧ sz ≤ 410) ∧ σ' 17 = upd (σ 17) 4 0 ∧ (∀ j, j < 3 → σ' 20 j = 0) ∧ σ' 35 = upd (σ 35) 2 0 ∧ σ' 11 5 = nI (sH S) ∧ σ' 11 6 = 0 ∧ σ' 11 7 = nI (sSa S) ∧ (∀ i, i < sH S → σ' 12 i = nI (sFi S i) ∧ σ' 13 i = nI (sCo S i)) ∧ ∀ i, i < 7 → σ' 14 i = 0 ∧ σ' 15 i = 0 ∧ σ' 16 i = -1
theorem lawsC_0 {σ : hS} : lawsC (fun _ => none) 10 (rstS 58 σ) := by
  refine ⟨rfl, fun k hk => ?_⟩
  rcases (show k = 0 ∨ k = 1 ∨ k = 2 ∨ k = 3 ∨ k = 4 by omega) with rfl | rfl | rfl | rfl | rfl
  · exact ⟨0, rfl, by decide, sorry⟩
  · exact ⟨2, rfl, by decide, sorry⟩
  · exact ⟨4, rfl, by decide, sorry⟩
  · exact ⟨6, rfl, by decide, sorry⟩
  · exact ⟨8, rfl, by decide, sorry⟩
theorem rstS_off {σ : hS} : ∀ c, c ∉ [51, 58, 59, 60, 61] → rstS 58 (clrT 51 σ) c = σ c := by
  intro c hc
  simp only [List.mem_cons, List.not_mem_nil, or_false, not_or] at hc
  obtain ⟨q1, q2, q3, q4, q5⟩ := hc
  unfold rstS untS putS clrT
  repeat rw [hva_ne (by omega)]
theorem clsS_0 {f : hF} {n : Nat} {σ : hS} : clsS f n sm0 (rstS 58 (clrT 51 σ)) := by
  refine ⟨⟨rfl, by decide, rfl, by decide, fun i hi => absurd hi (Nat.not_lt_zero _), fun i hi => absurd hi (Nat.not_lt_zero _)⟩, rfl, by decide, fun i hi => absurd hi (Nat.not_lt_zero _), fun i hi => absurd hi (Nat.not_lt_zero _), rfl, rfl, rfl⟩
end S88

