/-! the text's grammar, over kinds K and values V of the tokens -/
abbrev hCd : Type := List (Int32 × Int32)
abbrev hPR (α : Type) : Type := Sum (Nat × Nat) (Nat × α)
def bd {α β : Type} (r : hPR α) (g : Nat → α → hPR β) : hPR β := match r with
  | .inl e => .inl e
  | .inr (a, c) => g a c
def pass (at' : Nat) : hPR Unit := if at' < 400 then .inr (at' + 1, ()) else .inl (2, at')
section S72
variable (K V : Nat → Nat)
def tk (k at' : Nat) : hPR Unit := if K at' = k then pass at' else .inl (1, at')
def prodL (U : Nat → hPR hCd) : Nat → Nat → hCd → hPR hCd
  | 0, at', c => .inr (at', c)
  | k + 1, at', c => if K at' = 31 ∨ K at' = 32 then bd (pass at') (fun a _ => bd (U a) (fun a' c' => prodL U k a' (c ++ c' ++ [(if K at' = 31 then 4 else 5, 0)]))) else .inr (at', c)
def prodX (U : Nat → hPR hCd) (at' : Nat) : hPR hCd := bd (U at') (fun a c => prodL K U 401 a c)
def sumL (P : Nat → hPR hCd) : Nat → Nat → hCd → hPR hCd
  | 0, at', c => .inr (at', c)
  | k + 1, at', c => if K at' = 29 ∨ K at' = 30 then bd (pass at') (fun a _ => bd (P a) (fun a' c' => sumL P k a' (c ++ c' ++ [(if K at' = 29 then 2 else 3, 0)]))) else .inr (at', c)
def sumX (U : Nat → hPR hCd) (at' : Nat) : hPR hCd := bd (prodX K U at') (fun a c => sumL K (prodX K U) 401 a c)
/-- UNIT: what is left of the depth -/
def uX : Nat → Nat → hPR hCd
  | 0 => fun at' =>
    if K at' = 24 then bd (pass at') (fun a _ => .inr (a, [(0, nI (V at'))]))
    else if 14 ≤ K at' ∧ K at' ≤ 22 then bd (pass at') (fun a _ => .inr (a, [(1, nI (K at' - 14))]))
    else if K at' = 34 then .inl (2, at') else .inl (1, at')
  | e + 1 => fun at' =>
    if K at' = 24 then bd (pass at') (fun a _ => .inr (a, [(0, nI (V at'))]))
    else if 14 ≤ K at' ∧ K at' ≤ 22 then bd (pass at') (fun a _ => .inr (a, [(1, nI (K at' - 14))]))
    else if K at' = 34 then bd (pass at') (fun a _ => bd (sumX K (uX e) a) (fun a' c => bd (tk K 35 a') (fun a'' _ => .inr (a'', c)))) else .inl (1, at')
/-- an E -/
def eX (at' : Nat) : hPR hCd := sumX K (uX K V 6) at'
abbrev hBr : Type := hCd × hCd × hCd
abbrev hLw : Type := List hBr × hCd
def ifX (at' : Nat) : hPR hBr := bd (pass at') (fun a _ => bd (eX K V a) (fun a1 c1 => bd (tk K 33 a1) (fun a2 _ => bd (eX K V a2) (fun a3 c2 => bd (tk K 12 a3) (fun a4 _ => bd (eX K V a4) (fun a5 c3 => bd (tk K 13 a5) (fun a6 _ => .inr (a6, (c1, c2, c3)))))))))
def ifsX : Nat → Nat → List hBr → hPR (List hBr)
  | 0, at', bs => if K at' = 11 then .inl (2, at') else .inr (at', bs)
  | k + 1, at', bs => if K at' = 11 then bd (ifX K V at') (fun a b => ifsX k a (bs ++ [b])) else .inr (at', bs)
/-- a LAW, from its = on -/
def lawX (at' : Nat) : hPR hLw := bd (tk K 28 at') (fun a _ => bd (ifsX K V 4 a []) (fun a1 bs => bd (eX K V a1) (fun a2 c => bd (tk K 27 a2) (fun a3 _ => .inr (a3, (bs, c))))))
/-- NAMES, as many as there are -/
def nmsX : Nat → Nat → hPR Unit
  | 0, at' => .inr (at', ())
  | k + 1, at' => if K at' = 23 then bd (pass at') (fun a _ => nmsX k a) else .inr (at', ())
def intsX : Nat → Nat → hPR Unit
  | 0, at' => .inr (at', ())
  | k + 1, at' => bd (tk K 24 at') (fun a _ => intsX k a)
/-- a TELL: a law's number and the LAW, if it is one -/
def tellX (h r m at' : Nat) : hPR (Option (Nat × hLw)) :=
  if K at' = 0 then (if 7 ≤ h then .inl (2, at') else bd (pass at') (fun a _ => bd (tk K 23 a) (fun a1 _ => bd (intsX K 4 a1) (fun a2 _ => bd (tk K 27 a2) (fun a3 _ => .inr (a3, none))))))
  else if K at' = 1 then (if 16 ≤ r then .inl (2, at') else bd (pass at') (fun a _ => bd (tk K 23 a) (fun a1 _ => bd (tk K 23 a1) (fun a2 _ => bd (tk K 27 a2) (fun a3 _ => .inr (a3, none))))))
  else if K at' = 2 then (if 5 ≤ m then .inl (2, at') else bd (pass at') (fun a _ => bd (tk K 23 a) (fun a1 _ => bd (nmsX K 401 a1) (fun a2 _ => bd (tk K 27 a2) (fun a3 _ => .inr (a3, none))))))
  else if 3 ≤ K at' ∧ K at' ≤ 7 then bd (pass at') (fun a _ => bd (lawX K V a) (fun a1 l => .inr (a1, some (K at' - 3, l))))
  else if 8 ≤ K at' ∧ K at' ≤ 10 then bd (pass at') (fun a _ => bd (tk K 24 a) (fun a1 _ => bd (tk K 27 a1) (fun a2 _ => .inr (a2, none))))
  else .inl (1, at')
/-- how many there are of each sort -/
def cnt (k x at' : Nat) : Nat := if K at' = k then x + 1 else x
abbrev hLs : Type := Nat → Option hLw
def setL (L : hLs) : Option (Nat × hLw) → hLs
  | none => L
  | some (k, l) => fun j => if j = k then some l else L j
/-- the text: houses, hears, motions, laws -/
def textX : Nat → Nat → Nat → Nat → Nat → hLs → hPR (Nat × Nat × Nat × hLs)
  | 0, at', h, r, m, L => .inr (at', (h, r, m, L))
  | k + 1, at', h, r, m, L => if K at' = 25 then .inr (at', (h, r, m, L)) else bd (tellX K V h r m at') (fun a l => textX k a (cnt K 0 h at') (cnt K 1 r at') (cnt K 2 m at') (setL L l))
/-- nothing ends between -/
def cln (a b : Nat) : Prop := ∀ j, a ≤ j → j < b → K j ≠ 25 ∧ K j ≠ 26 ∧ K j ≠ 27
/-- a fault's number and its place, or how far one came -/
def okG {α : Type} (at' : Nat) (P : Nat → α → Prop) (r : hPR α) : Prop := match r with
  | .inl (x, t) => at' ≤ t ∧ t ≤ 400 ∧ (x = 1 ∨ x = 2) ∧ ∀ j, at' ≤ j → j < t → K j ≠ 25 ∧ K j ≠ 26
  | .inr (a, c) => at' ≤ a ∧ a ≤ 400 ∧ (∀ j, at' ≤ j → j < a → K j ≠ 25 ∧ K j ≠ 26) ∧ P a c
theorem okG_bd {α β : Type} {at' : Nat} {P : Nat → α → Prop} {Q : Nat → β → Prop} {r : hPR α} {g : Nat → α → hPR β} (h : okG K at' P r) (hg : ∀ a c, at' ≤ a → a ≤ 400 → P a c → okG K a Q (g a c)) : okG K at' Q (bd r g) := by
  rcases r with ⟨x, t⟩ | ⟨a, c⟩
  · exact h
  · obtain ⟨h1, h2, h3, h4⟩ := h
    have h5 := hg a c h1 h2 h4
    show okG K at' Q (g a c)
    rcases hr : g a c with ⟨x, t⟩ | ⟨a', c'⟩
    · rw [hr] at h5
      obtain ⟨k1, k2, k3, k4⟩ := h5
      exact ⟨by omega, k2, k3, fun j j1 j2 => if c : j < a then h3 j j1 c else k4 j (by omega) j2⟩
    · rw [hr] at h5
      obtain ⟨k1, k2, k3, k4⟩ := h5
      exact ⟨by omega, k2, fun j j1 j2 => if c : j < a then h3 j j1 c else k3 j (by omega) j2, k4⟩
theorem okG_mono {α : Type} {at' : Nat} {P Q : Nat → α → Prop} {r : hPR α} (h : okG K at' P r) (hpq : ∀ a c, at' ≤ a → a ≤ 400 → P a c → Q a c) : okG K at' Q r := by
  rcases r with ⟨x, t⟩ | ⟨a, c⟩
  · exact h
  · exact ⟨h.1, h.2.1, h.2.2.1, hpq a c h.1 h.2.1 h.2.2.2⟩
theorem okG_pass {at' : Nat} (h : at' ≤ 400) (hk : K at' ≠ 25 ∧ K at' ≠ 26) : okG K at' (fun a _ => a = at' + 1) (pass at') := by
  unfold pass
  split
  · exact ⟨by omega, by omega, fun j j1 j2 => by rw [show j = at' by omega]; exact hk, rfl⟩
  · exact ⟨Nat.le_refl _, h, Or.inr rfl, fun j j1 j2 => absurd j2 (by omega)⟩
theorem okG_tk {k at' : Nat} (h : at' ≤ 400) (hk : k ≠ 25 ∧ k ≠ 26) : okG K at' (fun a _ => a = at' + 1 ∧ K at' = k) (tk K k at') := by
  unfold tk
  split
  · rename_i e
    exact okG_mono K (okG_pass K h (by rw [e]; exact hk)) (fun a c _ _ q => ⟨q, e⟩)
  · exact ⟨Nat.le_refl _, h, Or.inl rfl, fun j j1 j2 => absurd j2 (by omega)⟩
end S72

