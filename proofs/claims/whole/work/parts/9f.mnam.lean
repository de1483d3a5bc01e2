/-- the reference's names are those that are told -/
def nmS (D : Nat → Nat) (h m : Nat) (dT : Nat → Nat) (ix : Nat → Option Nat) (S : hSm) : Prop := sH S = h ∧ sM S = m ∧ (∀ k i, k < h + m → ix k = some i → i < h ∧ dT k = D (sHn S i)) ∧ (∀ i, i < h → ∃ k, k < h + m ∧ ix k = some i) ∧ (∀ k, k < h + m → ix k = none → ∃ j, j < m ∧ dT k = D (sMn S j)) ∧ (∀ j, j < m → ∃ k, k < h + m ∧ dT k = D (sMn S j)) ∧ ∀ i j, i < h → j < h → D (sHn S i) = D (sHn S j) → i = j
theorem hasN_iff {dT : Nat → Nat} {d : Nat} : ∀ n, hasN dT d n = true ↔ ∃ k, k < n ∧ dT k = d
  | 0 => ⟨fun h => (nomatch h), fun ⟨k, h, _⟩ => absurd h (by omega)⟩
  | n + 1 => by
    show (hasN dT d n || decide (dT n = d)) = true ↔ _
    rw [Bool.or_eq_true, hasN_iff n, decide_eq_true_iff]
    constructor
    · rintro (⟨k, h1, h2⟩ | h)
      · exact ⟨k, by omega, h2⟩
      · exact ⟨n, by omega, h⟩
    · rintro ⟨k, h1, h2⟩
      by_cases e : k = n
      · exact Or.inr (e ▸ h2)
      · exact Or.inl ⟨k, by omega, h2⟩
theorem fnd_some_iff {D nm : Nat → Nat} {d n : Nat} : (fnd D nm d n).isSome = true ↔ ∃ i, i < n ∧ D (nm i) = d := by
  constructor
  · intro h
    obtain ⟨i, hi⟩ := Option.isSome_iff_exists.mp h
    exact ⟨i, fnd_lt n i hi⟩
  · rintro ⟨i, h1, h2⟩
    cases hq : fnd D nm d n with
    | some j => rfl
    | none => exact absurd h2 ((fnd_none n).mp hq i h1)
theorem hasN_tld {D : Nat → Nat} {h m d : Nat} {dT : Nat → Nat} {ix : Nat → Option Nat} {S : hSm} (hS : nmS D h m dT ix S) : hasN dT d (h + m) = tld D S d := by
  obtain ⟨e1, e2, p1, p2, p3, p4, p5⟩ := hS
  rw [Bool.eq_iff_iff, hasN_iff]
  unfold tld
  rw [Bool.or_eq_true, fnd_some_iff, fnd_some_iff, e1, e2]
  constructor
  · rintro ⟨k, h1, h2⟩
    rcases hk : ix k with _ | i
    · obtain ⟨j, j1, j2⟩ := p3 k h1 hk
      exact Or.inr ⟨j, j1, by rw [← j2, h2]⟩
    · obtain ⟨i1, i2⟩ := p1 k i h1 hk
      exact Or.inl ⟨i, i1, by rw [← i2, h2]⟩
  · rintro (⟨i, i1, i2⟩ | ⟨j, j1, j2⟩)
    · obtain ⟨k, k1, k2⟩ := p2 i i1
      exact ⟨k, k1, by rw [(p1 k i k1 k2).2, i2]⟩
    · obtain ⟨k, k1, k2⟩ := p4 j j1
      exact ⟨k, k1, by rw [k2, j2]⟩
theorem hsN_some {dT : Nat → Nat} {ix : Nat → Option Nat} {d : Nat} : ∀ n k i, hsN dT ix d n k = some i → ∃ q, k ≤ q ∧ q < k + n ∧ dT q = d ∧ ix q = some i
  | 0, k, i, h => by cases h
  | n + 1, k, i, h => by
    have h' : (if dT k = d ∧ (ix k).isSome then ix k else hsN dT ix d n (k + 1)) = some i := h
    split at h'
    · rename_i c
      exact ⟨k, Nat.le_refl _, by omega, c.1, h'⟩
    · obtain ⟨q, q1, q2, q3⟩ := hsN_some n (k + 1) i h'
      exact ⟨q, by omega, by omega, q3⟩
theorem hsN_none {dT : Nat → Nat} {ix : Nat → Option Nat} {d : Nat} : ∀ n k, hsN dT ix d n k = none → ∀ q, k ≤ q → q < k + n → dT q = d → ix q = none
  | 0, k, h, q, q1, q2, _ => by omega
  | n + 1, k, h, q, q1, q2, q3 => by
    have h' : (if dT k = d ∧ (ix k).isSome then ix k else hsN dT ix d n (k + 1)) = none := h
    split at h'
    · rename_i c
      rw [h'] at c; cases c.2
    · rename_i c
      by_cases e : q = k
      · subst e
        cases hx : ix q with
        | none => rfl
        | some i => exact absurd ⟨q3, by rw [hx]; rfl⟩ c
      · exact hsN_none n (k + 1) h' q (by omega) (by omega) q3
theorem hsN_fnd {D : Nat → Nat} {h m d : Nat} {dT : Nat → Nat} {ix : Nat → Option Nat} {S : hSm} (hS : nmS D h m dT ix S) : hsN dT ix d (h + m) 0 = fnd D (sHn S) d (sH S) := by
  obtain ⟨e1, e2, p1, p2, p3, p4, p5⟩ := hS
  rw [e1]
  cases hq : hsN dT ix d (h + m) 0 with
  | none =>
    refine ((fnd_none h).mpr (fun i hi q => ?_)).symm
    obtain ⟨k, k1, k2⟩ := p2 i hi
    have := hsN_none (h + m) 0 hq k (Nat.zero_le _) (by omega) (by rw [(p1 k i k1 k2).2, q])
    rw [this] at k2; cases k2
  | some i =>
    obtain ⟨k, -, k1, k2, k3⟩ := hsN_some (h + m) 0 i hq
    obtain ⟨i1, i2⟩ := p1 k i (by omega) k3
    cases hf : fnd D (sHn S) d h with
    | none => exact absurd (by rw [← i2, k2]) ((fnd_none h).mp hf i i1)
    | some j =>
      obtain ⟨j1, j2⟩ := fnd_lt h j hf
      rw [p5 i j i1 j1 (by rw [← i2, k2, j2])]

