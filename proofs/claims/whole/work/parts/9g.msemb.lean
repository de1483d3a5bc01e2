theorem bit_1 {m i : Nat} (hm : m < 2 ^ 31) (hi : i < 32) : (nI m >>> (nI i &&& 31)) &&& 1 = 1 ↔ m.testBit i = true := by
  rw [b_shr hm hi, tb_div, decide_eq_true_iff]
  have : m / 2 ^ i % 2 < 2 := Nat.mod_lt _ (by decide)
  exact nI_eq (b := 1) (by omega) (by decide)
theorem heG_none {D : Nat → Nat} {S : hSm} {s : Nat} {bt : Nat → Nat → Bool} (hb : ∀ i j, i < sH S → j < sH S → bt i j = (sHe S i).testBit j) : heG bt (fnd D (sHn S) (D (s + 1)) (sH S)) (fnd D (sHn S) (D (s + 2)) (sH S)) (s + 1) none = lft (smHears D S s) := by
  unfold smHears
  rcases h1 : fnd D (sHn S) (D (s + 1)) (sH S) with _ | i
  · rcases fnd D (sHn S) (D (s + 2)) (sH S) with _ | j <;> rfl
  · rcases h2 : fnd D (sHn S) (D (s + 2)) (sH S) with _ | j
    · rfl
    · have e := hb i j (fnd_lt _ i h1).1 (fnd_lt _ j h2).1
      show (if i = j ∨ bt i j = true then orE none (3, s + 1 + 1) else none) = lft (if i = j ∨ (sHe S i).testBit j = true then .inl (3, s + 2) else _)
      rw [e]
      by_cases c : i = j ∨ (sHe S i).testBit j = true
      · rw [if_pos c, if_pos c]; rfl
      · rw [if_neg c, if_neg c]; rfl
theorem moS_sup {D : Nat → Nat} {S : hSm} {hs : Nat → Option Nat} (h7 : sH S ≤ 7) (hh : ∀ j, hs j = fnd D (sHn S) (D j) (sH S)) : ∀ k j m, m < 128 → match supX D S k j m with
    | .inl e => (moS hs k j (nI m) none).2 = some e
    | .inr m' => moS hs k j (nI m) none = (nI m', none)
  | 0, j, m, hm => rfl
  | k + 1, j, m, hm => by
    have e : moS hs (k + 1) j (nI m) none = match hs j with
      | none => moS hs k (j + 1) (nI m) (orE none (4, j))
      | some i => moS hs k (j + 1) (nI m ||| (1 : Int32) <<< (nI i &&& 31)) (if (nI m >>> (nI i &&& 31)) &&& 1 = 1 then orE none (3, j) else none) := rfl
    have e2 : supX D S (k + 1) j m = match fnd D (sHn S) (D j) (sH S) with
      | none => .inl (4, j)
      | some a => if m.testBit a = true then .inl (3, j) else supX D S k (j + 1) (m ||| 2 ^ a) := rfl
    rw [e, e2, hh j]
    rcases hf : fnd D (sHn S) (D j) (sH S) with _ | i
    · exact moS_some k (j + 1) _
    · have hi := (fnd_lt _ i hf).1
      dsimp only
      have hb := bit_1 (m := m) (i := i) (by omega) (by omega)
      by_cases c : m.testBit i = true
      · rw [if_pos c, if_pos (hb.mpr c)]
        exact moS_some k (j + 1) _
      · have hp : 2 ^ i < 128 := by
          have : 2 ^ i ≤ 2 ^ 6 := Nat.pow_le_pow_right (by decide) (by omega)
          omega
        rw [if_neg c, if_neg (fun q => c (hb.mp q)), b_shl (by omega), b_or (by omega) (by omega)]
        exact moS_sup h7 hh k (j + 1) (m ||| 2 ^ i) (Nat.or_lt_two_pow (n := 7) hm hp)

