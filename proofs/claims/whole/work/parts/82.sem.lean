/-! what a text without a FAULT of SYNTAX or ROOM tells -/
/-- houses, hears, motions; tokens of names; fish, coins, hunger, fear, heard; supporters; salt, odds, seed -/
abbrev hSm : Type := (Nat × Nat × Nat) × ((Nat → Nat) × (Nat → Nat)) × ((Nat → Nat) × (Nat → Nat) × (Nat → Nat) × (Nat → Nat) × (Nat → Nat)) × (Nat → Nat) × (Nat × Nat × Nat)
def sH (S : hSm) : Nat := S.1.1
def sR (S : hSm) : Nat := S.1.2.1
def sM (S : hSm) : Nat := S.1.2.2
def sHn (S : hSm) : Nat → Nat := S.2.1.1
def sMn (S : hSm) : Nat → Nat := S.2.1.2
def sFi (S : hSm) : Nat → Nat := S.2.2.1.1
def sCo (S : hSm) : Nat → Nat := S.2.2.1.2.1
def sHu (S : hSm) : Nat → Nat := S.2.2.1.2.2.1
def sFe (S : hSm) : Nat → Nat := S.2.2.1.2.2.2.1
def sHe (S : hSm) : Nat → Nat := S.2.2.1.2.2.2.2
def sSu (S : hSm) : Nat → Nat := S.2.2.2.1
def sSa (S : hSm) : Nat := S.2.2.2.2.1
def sOd (S : hSm) : Nat := S.2.2.2.2.2.1
def sSe (S : hSm) : Nat := S.2.2.2.2.2.2
def upN (f : Nat → Nat) (k v : Nat) : Nat → Nat := fun j => if j = k then v else f j
theorem upN_eq {f : Nat → Nat} {k v : Nat} : upN f k v k = v := if_pos rfl
theorem upN_ne {f : Nat → Nat} {k v j : Nat} (h : j ≠ k) : upN f k v j = f j := if_neg h
/-- the first of the names with that number -/
def fnd (D nm : Nat → Nat) (d : Nat) : Nat → Option Nat
  | 0 => none
  | k + 1 => match fnd D nm d k with
    | some i => some i
    | none => if D (nm k) = d then some k else none
theorem fnd_lt {D nm : Nat → Nat} {d : Nat} : ∀ k i, fnd D nm d k = some i → i < k ∧ D (nm i) = d
  | 0, i, h => by cases h
  | k + 1, i, h => by
    unfold fnd at h
    cases hq : fnd D nm d k with
    | some j =>
      rw [hq] at h
      have := fnd_lt k j hq
      cases h
      exact ⟨by omega, this.2⟩
    | none =>
      rw [hq] at h
      dsimp only at h
      split at h
      · cases h; exact ⟨by omega, by assumption⟩
      · cases h
theorem fnd_none {D nm : Nat → Nat} {d : Nat} : ∀ k, fnd D nm d k = none ↔ ∀ i, i < k → ¬ D (nm i) = d
  | 0 => ⟨fun _ i hi => absurd hi (by omega), fun _ => rfl⟩
  | k + 1 => by
    unfold fnd
    cases hq : fnd D nm d k with
    | some j =>
      have := fnd_lt k j hq
      exact ⟨fun h => (nomatch h), fun h => absurd this.2 (h j (by omega))⟩
    | none =>
      have h0 := (fnd_none k).mp hq
      dsimp only
      split
      · rename_i c
        exact ⟨fun h => (nomatch h), fun h => absurd c (h k (by omega))⟩
      · rename_i c
        exact ⟨fun _ i hi => if e : i = k then by rw [e]; exact c else h0 i (by omega), fun _ => rfl⟩
section S82
variable (K V D : Nat → Nat)
/-- whether a name is told already -/
def tld (S : hSm) (d : Nat) : Bool := (fnd D (sHn S) d (sH S)).isSome || (fnd D (sMn S) d (sM S)).isSome
def smHouse (S : hSm) (s : Nat) : Sum (Nat × Nat) hSm :=
  if tld D S (D (s + 1)) = true then .inl (3, s + 1)
  else if 99 < V (s + 2) then .inl (5, s + 2)
  else if 999 < V (s + 3) then .inl (5, s + 3)
  else if 9 < V (s + 4) then .inl (5, s + 4)
  else if 9 < V (s + 5) then .inl (5, s + 5)
  else .inr ((sH S + 1, sR S, sM S), (upN (sHn S) (sH S) (s + 1), sMn S), (upN (sFi S) (sH S) (V (s + 2)), upN (sCo S) (sH S) (V (s + 3)), upN (sHu S) (sH S) (V (s + 4)), upN (sFe S) (sH S) (V (s + 5)), upN (sHe S) (sH S) 0), sSu S, (sSa S, sOd S, sSe S))
def smHears (S : hSm) (s : Nat) : Sum (Nat × Nat) hSm := match fnd D (sHn S) (D (s + 1)) (sH S) with
  | none => .inl (4, s + 1)
  | some a => match fnd D (sHn S) (D (s + 2)) (sH S) with
    | none => .inl (4, s + 2)
    | some b => if a = b ∨ (sHe S a).testBit b = true then .inl (3, s + 2) else .inr ((sH S, sR S + 1, sM S), (sHn S, sMn S), (sFi S, sCo S, sHu S, sFe S, upN (sHe S) a (sHe S a ||| 2 ^ b)), sSu S, (sSa S, sOd S, sSe S))
/-- those that are for a motion: k tokens from j on -/
def supX (S : hSm) : Nat → Nat → Nat → Sum (Nat × Nat) Nat
  | 0, _, m => .inr m
  | k + 1, j, m => match fnd D (sHn S) (D j) (sH S) with
    | none => .inl (4, j)
    | some a => if m.testBit a = true then .inl (3, j) else supX S k (j + 1) (m ||| 2 ^ a)
def smMotion (S : hSm) (s e : Nat) : Sum (Nat × Nat) hSm :=
  if tld D S (D (s + 1)) = true then .inl (3, s + 1)
  else match supX D S (e - 1 - (s + 2)) (s + 2) 0 with
    | .inl x => .inl x
    | .inr m => .inr ((sH S, sR S, sM S + 1), (sHn S, upN (sMn S) (sM S) (s + 1)), (sFi S, sCo S, sHu S, sFe S, sHe S), upN (sSu S) (sM S) m, (sSa S, sOd S, sSe S))
/-- a TELL from s to e -/
def smTell (S : hSm) (s e : Nat) : Sum (Nat × Nat) hSm :=
  if K s = 0 then smHouse V D S s else if K s = 1 then smHears D S s else if K s = 2 then smMotion D S s e
  else if K s = 8 then (if 999 < V (s + 1) then .inl (5, s + 1) else .inr (S.1, S.2.1, S.2.2.1, S.2.2.2.1, (V (s + 1), sOd S, sSe S)))
  else if K s = 9 then (if 100 < V (s + 1) then .inl (5, s + 1) else .inr (S.1, S.2.1, S.2.2.1, S.2.2.2.1, (sSa S, V (s + 1), sSe S)))
  else if K s = 10 then (if 9999 < V (s + 1) then .inl (5, s + 1) else .inr (S.1, S.2.1, S.2.2.1, S.2.2.2.1, (sSa S, sOd S, V (s + 1))))
  else .inr S
def semX : Nat → Nat → Nat → Nat → Nat → hSm → Sum (Nat × Nat) hSm
  | 0, _, _, _, _, S => .inr S
  | k + 1, s, h, r, m, S => if K s = 25 then .inr S else match tellX K V h r m s with
    | .inl _ => .inr S
    | .inr (e, _) => match smTell K V D S s e with
      | .inl x => .inl x
      | .inr S' => semX k e (cnt K 0 h s) (cnt K 1 r s) (cnt K 2 m s) S'
def sm0 : hSm := ((0, 0, 0), (fun _ => 0, fun _ => 0), (fun _ => 0, fun _ => 0, fun _ => 0, fun _ => 0, fun _ => 0), fun _ => 0, (20, 0, 0))
end S82

