/-! what is wrong first -/
def lft {α : Type} : Sum (Nat × Nat) α → Option (Nat × Nat)
  | .inl e => some e
  | .inr _ => none
theorem bG_some {K V : Nat → Nat} {M : Nat} {s : hPR Unit} {e : Nat × Nat} : bG K V M s (some e) = some e := by
  rcases s with q | ⟨a, u⟩
  · rfl
  · show (if K a = 24 ∧ M < V a then some e else some e) = some e
    exact ite_self _
theorem hoG_some {f : hF} {n N a : Nat} {dT : Nat → Nat} {e : Nat × Nat} : hoG f n N a dT (some e) = some e := by
  unfold hoG
  rw [show (if hasN dT (dg f n a) N = true then orE (some e) (3, a) else some e) = some e from ite_self _, bG_some, bG_some, bG_some, bG_some]
theorem hoG_none {f : hF} {n N s : Nat} {dT : Nat → Nat} {S : hSm} (ht : hasN dT (dg f n (s + 1)) N = tld (dg f n) S (dg f n (s + 1))) (k1 : kd f n (s + 2) = 24) (k2 : kd f n (s + 3) = 24) (k3 : kd f n (s + 4) = 24) (k4 : kd f n (s + 5) = 24) : hoG f n N (s + 1) dT none = lft (smHouse (vl f n) (dg f n) S s) := by
  unfold hoG smHouse
  rw [ht]
  by_cases c : tld (dg f n) S (dg f n (s + 1)) = true
  · rw [if_pos c, if_pos c]
    show bG _ _ _ _ (bG _ _ _ _ (bG _ _ _ _ (bG _ _ _ _ (some (3, s + 1))))) = _
    rw [bG_some, bG_some, bG_some, bG_some]; rfl
  rw [if_neg c, if_neg c]
  have e1 : bG (kd f n) (vl f n) 99 (.inr (s + 1 + 1, ())) none = if 99 < vl f n (s + 2) then some (5, s + 2) else none := by
    show (if kd f n (s + 2) = 24 ∧ 99 < vl f n (s + 2) then _ else _) = _
    by_cases q : 99 < vl f n (s + 2)
    · rw [if_pos ⟨k1, q⟩, if_pos q]; rfl
    · rw [if_neg (fun z => q z.2), if_neg q]
  have e2 : bG (kd f n) (vl f n) 999 (.inr (s + 1 + 2, ())) none = if 999 < vl f n (s + 3) then some (5, s + 3) else none := by
    show (if kd f n (s + 3) = 24 ∧ 999 < vl f n (s + 3) then _ else _) = _
    by_cases q : 999 < vl f n (s + 3)
    · rw [if_pos ⟨k2, q⟩, if_pos q]; rfl
    · rw [if_neg (fun z => q z.2), if_neg q]
  have e3 : bG (kd f n) (vl f n) 9 (.inr (s + 1 + 3, ())) none = if 9 < vl f n (s + 4) then some (5, s + 4) else none := by
    show (if kd f n (s + 4) = 24 ∧ 9 < vl f n (s + 4) then _ else _) = _
    by_cases q : 9 < vl f n (s + 4)
    · rw [if_pos ⟨k3, q⟩, if_pos q]; rfl
    · rw [if_neg (fun z => q z.2), if_neg q]
  have e4 : bG (kd f n) (vl f n) 9 (.inr (s + 1 + 4, ())) none = if 9 < vl f n (s + 5) then some (5, s + 5) else none := by
    show (if kd f n (s + 5) = 24 ∧ 9 < vl f n (s + 5) then _ else _) = _
    by_cases q : 9 < vl f n (s + 5)
    · rw [if_pos ⟨k4, q⟩, if_pos q]; rfl
    · rw [if_neg (fun z => q z.2), if_neg q]
  rw [e1]
  by_cases q1 : 99 < vl f n (s + 2)
  · rw [if_pos q1, if_pos q1, bG_some, bG_some, bG_some]; rfl
  rw [if_neg q1, if_neg q1, e2]
  by_cases q2 : 999 < vl f n (s + 3)
  · rw [if_pos q2, if_pos q2, bG_some, bG_some]; rfl
  rw [if_neg q2, if_neg q2, e3]
  by_cases q3 : 9 < vl f n (s + 4)
  · rw [if_pos q3, if_pos q3, bG_some]; rfl
  rw [if_neg q3, if_neg q3, e4]
  by_cases q4 : 9 < vl f n (s + 5)
  · rw [if_pos q4, if_pos q4]; rfl
  rw [if_neg q4, if_neg q4]; rfl
theorem heG_some {bt : Nat → Nat → Bool} {o1 o2 : Option Nat} {a : Nat} {e : Nat × Nat} : heG bt o1 o2 a (some e) = some e := by
  rcases o1 with _ | i <;> rcases o2 with _ | j
  · rfl
  · rfl
  · rfl
  · show (if i = j ∨ bt i j = true then some e else some e) = some e
    exact ite_self _
theorem moS_some {hs : Nat → Option Nat} {e : Nat × Nat} : ∀ k j w, (moS hs k j w (some e)).2 = some e
  | 0, j, w => rfl
  | k + 1, j, w => by
    rw [moS_s]
    have ih := moS_some (hs := hs) (e := e) k j w
    rcases hs (j + k) with _ | i
    · show orE (moS hs k j w (some e)).2 _ = _; rw [ih]; rfl
    · show (if _ then orE (moS hs k j w (some e)).2 _ else (moS hs k j w (some e)).2) = _
      rw [ih]; exact ite_self _

