/-- the code's machine; none: divided by 0 -/
def evC (v : hF) : hCd → List Int32 → Option (List Int32)
  | [], s => some s
  | (k, o) :: c, s => if k = 0 then evC v c (o :: s) else if k = 1 then evC v c (v o.toNatClampNeg :: s) else match s with
    | b :: a :: s' => if k = 5 ∧ b = 0 then none else evC v c (mJ k a b :: s')
    | _ => some []
/-- code that is well made: from a height to a height, below a bound -/
def wfC : hCd → Nat → Nat → Nat → Prop
  | [], h, _, h' => h = h'
  | (k, o) :: c, h, b, h' => ((k = 0 ∨ (k = 1 ∧ ∃ j, j < 9 ∧ o = nI j)) ∧ h < b ∧ wfC c (h + 1) b h') ∨ ((k = 2 ∨ k = 3 ∨ k = 4 ∨ k = 5) ∧ 2 ≤ h ∧ wfC c (h - 1) b h')
theorem wfC_app : ∀ (c1 c2 : hCd) (h b h1 h2 : Nat), wfC c1 h b h1 → wfC c2 h1 b h2 → wfC (c1 ++ c2) h b h2
  | [], c2, h, b, h1, h2, e, w => by rw [show h = h1 from e]; exact w
  | (k, o) :: c1, c2, h, b, h1, h2, e, w => by
    rcases e with ⟨e1, e2, e3⟩ | ⟨e1, e2, e3⟩
    · exact Or.inl ⟨e1, e2, wfC_app c1 c2 _ b h1 h2 e3 w⟩
    · exact Or.inr ⟨e1, e2, wfC_app c1 c2 _ b h1 h2 e3 w⟩
theorem i32_k : (¬ (2 : Int32) = 0 ∧ ¬ (2 : Int32) = 1) ∧ (¬ (3 : Int32) = 0 ∧ ¬ (3 : Int32) = 1) ∧ (¬ (4 : Int32) = 0 ∧ ¬ (4 : Int32) = 1) ∧ (¬ (5 : Int32) = 0 ∧ ¬ (5 : Int32) = 1) := by decide
theorem op_ne {k : Int32} (h : k = 2 ∨ k = 3 ∨ k = 4 ∨ k = 5) : ¬ k = 0 ∧ ¬ k = 1 := by
  rcases h with rfl | rfl | rfl | rfl <;> decide
theorem evC_len (v : hF) : ∀ (c : hCd) (s s' : List Int32) (b h' : Nat), wfC c s.length b h' → evC v c s = some s' → s'.length = h'
  | [], s, s', b, h', w, e => by
    have e2 : s = s' := Option.some.inj e
    rw [← e2]; exact w
  | (k, o) :: c, s, s', b, h', w, e => by
    unfold evC at e
    rcases w with ⟨w1, w2, w3⟩ | ⟨w1, w2, w3⟩
    · rcases w1 with rfl | ⟨rfl, j, hj, rfl⟩
      · rw [if_pos rfl] at e
        exact evC_len v c (o :: s) s' b h' w3 e
      · rw [if_neg (by decide), if_pos rfl] at e
        exact evC_len v c (v (nI j).toNatClampNeg :: s) s' b h' w3 e
    · have hn := op_ne w1
      rw [if_neg hn.1, if_neg hn.2] at e
      match s, w2, e, w3 with
      | y :: z :: t, _, e, w3 =>
        dsimp only at e
        split at e
        · cases e
        · exact evC_len v c (mJ k z y :: t) s' b h' w3 e
theorem evC_app (v : hF) : ∀ (c : hCd) (s t : List Int32) (b h' : Nat), wfC c s.length b h' → evC v c (s ++ t) = (evC v c s).map (fun q => q ++ t)
  | [], s, t, b, h', w => rfl
  | (k, o) :: c, s, t, b, h', w => by
    unfold evC
    rcases w with ⟨w1, w2, w3⟩ | ⟨w1, w2, w3⟩
    · rcases w1 with rfl | ⟨rfl, j, hj, rfl⟩
      · rw [if_pos rfl, if_pos rfl]
        exact evC_app v c (o :: s) t b h' w3
      · rw [if_neg (by decide), if_pos rfl, if_neg (by decide), if_pos rfl]
        exact evC_app v c (v (nI j).toNatClampNeg :: s) t b h' w3
    · have hn := op_ne w1
      rw [if_neg hn.1, if_neg hn.2, if_neg hn.1, if_neg hn.2]
      match s, w2, w3 with
      | y :: z :: s', _, w3 =>
        show (if k = 5 ∧ y = 0 then none else evC v c (mJ k z y :: (s' ++ t))) = Option.map (fun q => q ++ t) (if k = 5 ∧ y = 0 then none else evC v c (mJ k z y :: s'))
        split
        · rfl
        · exact evC_app v c (mJ k z y :: s') t b h' w3
/-- the code stands there -/
def cdAt (st op : hF) (p : Nat) : hCd → Prop
  | [] => True
  | (k, o) :: c => st p = k ∧ op p = o ∧ cdAt st op (p + 1) c
theorem cdAt_app {st op : hF} : ∀ (c1 c2 : hCd) (p : Nat), cdAt st op p (c1 ++ c2) ↔ (cdAt st op p c1 ∧ cdAt st op (p + c1.length) c2)
  | [], c2, p => by simp [cdAt]
  | (k, o) :: c1, c2, p => by
    show (st p = k ∧ op p = o ∧ cdAt st op (p + 1) (c1 ++ c2)) ↔ ((st p = k ∧ op p = o ∧ cdAt st op (p + 1) c1) ∧ cdAt st op (p + (c1.length + 1)) c2)
    rw [cdAt_app c1 c2 (p + 1), show p + 1 + c1.length = p + (c1.length + 1) by omega]
    constructor
    · rintro ⟨a, b, c, d⟩; exact ⟨⟨a, b, c⟩, d⟩
    · rintro ⟨⟨a, b, c⟩, d⟩; exact ⟨a, b, c, d⟩
theorem cdAt_ext {st op st' op' : hF} : ∀ (c : hCd) (p q : Nat), p + c.length ≤ q → (∀ j, j < q → st' j = st j) → (∀ j, j < q → op' j = op j) → cdAt st op p c → cdAt st' op' p c
  | [], _, _, _, _, _, _ => trivial
  | (k, o) :: c, p, q, hq, h1, h2, h => by
    have hl : p + (c.length + 1) ≤ q := hq
    exact ⟨by rw [h1 p (by omega)]; exact h.1, by rw [h2 p (by omega)]; exact h.2.1, cdAt_ext c (p + 1) q (by omega) h1 h2 h.2.2⟩
theorem lvalC_s (st op : hF) (sz : Nat) (v : hF) (n : Nat) (at' : Int32) (k : List Int32) : lvalC st op sz v (n + 1) at' k =
    if at' < 0 then 0 else if nI sz ≤ at' then 0 else
    if st at'.toNatClampNeg = 7 then k.headD 0
    else if st at'.toNatClampNeg ≤ 1 then
      if k.length < 24 then lvalC st op sz v n (at' + 1) ((if st at'.toNatClampNeg = 0 then op at'.toNatClampNeg else lVar v (op at'.toNatClampNeg)) :: k) else 0
    else match k with
      | b :: a :: k' =>
        if st at'.toNatClampNeg = 6 then lvalC st op sz v n (if a < b then at' + 1 else op at'.toNatClampNeg) k'
        else if st at'.toNatClampNeg = 5 ∧ b = 0 then 0
        else lvalC st op sz v n (at' + 1) (lJoin (st at'.toNatClampNeg) a b :: k')
      | _ => 0 := rfl
theorem mT_s (cd ci v : hF) (n c : Nat) (s : List Int32) : mT cd ci v (n + 1) c s =
    if cd c = 0 then (if s.length < 400 then mT cd ci v n (c + 1) (ci c :: s) else none)
    else if cd c = 1 then (if s.length < 400 ∧ ¬ ci c < 0 ∧ ¬ 9 ≤ ci c then mT cd ci v n (c + 1) (v (ci c).toNatClampNeg :: s) else none)
    else if cd c = 2 ∨ cd c = 3 ∨ cd c = 4 ∨ cd c = 5 then
      match s with
      | b :: a :: s' => if cd c = 5 ∧ b = 0 then some none else mT cd ci v n (c + 1) (mJ (cd c) a b :: s')
      | _ => none
    else none := rfl
/-- the class's machine goes through code -/
theorem lv_run (st op : hF) (sz : Nat) (v : hF) (hsz : sz ≤ 410) : ∀ (c : hCd) (n p : Nat) (k : List Int32) (h' : Nat), cdAt st op p c → wfC c k.length 24 h' → p + c.length ≤ sz → lvalC st op sz v (c.length + n) (nI p) k = match evC v c k with
    | none => 0
    | some k' => lvalC st op sz v n (nI (p + c.length)) k'
  | [], n, p, k, h', _, _, _ => by
    show lvalC st op sz v (0 + n) (nI p) k = lvalC st op sz v n (nI (p + 0)) k
    rw [Nat.zero_add, Nat.add_zero]
  | (q, o) :: c, n, p, k, h', ⟨a1, a2, a3⟩, w, hl => by
    have hl2 : p + (c.length + 1) ≤ sz := hl
    rw [show ((q, o) :: c).length + n = c.length + n + 1 by simp; omega, lvalC_s, if_neg (nI_pos (by omega)), if_neg (nI_ge (by omega) (by omega)), nI_clamp (by omega), a1, a2, nI_1]
    unfold evC
    rcases w with ⟨w1, w2, w3⟩ | ⟨w1, w2, w3⟩
    · rcases w1 with rfl | ⟨rfl, j, hj, rfl⟩
      · rw [if_neg (by decide), if_pos (by decide), if_pos w2, if_pos rfl, if_pos rfl, lv_run st op sz v hsz c n (p + 1) (o :: k) h' a3 w3 (by omega), show p + 1 + c.length = p + ((0, o) :: c).length by simp; omega]
      · rw [if_neg (by decide), if_pos (by decide), if_pos w2, if_neg (by decide), if_neg (by decide), if_pos rfl, show lVar v (nI j) = v (nI j).toNatClampNeg by unfold lVar; rw [if_neg (nI_pos (by omega)), if_neg (show ¬ (9 : Int32) ≤ nI j from nI_ge (b := 9) hj (by decide))], lv_run st op sz v hsz c n (p + 1) (v (nI j).toNatClampNeg :: k) h' a3 w3 (by omega), show p + 1 + c.length = p + ((1, nI j) :: c).length by simp; omega]
    · have hn := op_ne w1
      have hn2 : ¬ q = 7 ∧ ¬ q ≤ 1 ∧ ¬ q = 6 := by rcases w1 with rfl | rfl | rfl | rfl <;> decide
      rw [if_neg hn2.1, if_neg hn2.2.1, if_neg hn.1, if_neg hn.2]
      match k, w2, w3 with
      | y :: z :: t, _, w3 =>
        dsimp only
        rw [if_neg hn2.2.2]
        by_cases cz : q = 5 ∧ y = 0
        · rw [if_pos cz, if_pos cz]
        · rw [if_neg cz, if_neg cz, show lJoin q z y = mJ q z y by
            unfold lJoin mJ
            rcases w1 with rfl | rfl | rfl | rfl
            · rfl
            · rfl
            · rfl
            · exact if_neg (fun e => cz ⟨rfl, e⟩), lv_run st op sz v hsz c n (p + 1) (mJ q z y :: t) h' a3 w3 (by omega), show p + 1 + c.length = p + ((q, o) :: c).length by simp; omega]
/-- the reference's machine goes through code -/
theorem mT_run (cd ci v : hF) : ∀ (c : hCd) (n p : Nat) (k : List Int32) (b h' : Nat), b ≤ 400 → cdAt cd ci p c → wfC c k.length b h' → mT cd ci v (c.length + n) p k = match evC v c k with
    | none => some none
    | some k' => mT cd ci v n (p + c.length) k'
  | [], n, p, k, b, h', _, _, _ => by
    show mT cd ci v (0 + n) p k = mT cd ci v n (p + 0) k
    rw [Nat.zero_add, Nat.add_zero]
  | (q, o) :: c, n, p, k, b, h', hb, ⟨a1, a2, a3⟩, w => by
    rw [show ((q, o) :: c).length + n = c.length + n + 1 by simp; omega, mT_s, a1, a2]
    unfold evC
    rcases w with ⟨w1, w2, w3⟩ | ⟨w1, w2, w3⟩
    · rcases w1 with rfl | ⟨rfl, j, hj, rfl⟩
      · rw [if_pos rfl, if_pos (show k.length < 400 by omega), if_pos rfl, mT_run cd ci v c n (p + 1) (o :: k) b h' hb a3 w3, show p + 1 + c.length = p + ((0, o) :: c).length by simp; omega]
      · rw [if_neg (by decide), if_pos rfl, if_pos (show k.length < 400 ∧ ¬ nI j < 0 ∧ ¬ 9 ≤ nI j from ⟨by omega, nI_pos (by omega), nI_ge (b := 9) hj (by decide)⟩), if_neg (by decide), if_pos rfl, mT_run cd ci v c n (p + 1) (v (nI j).toNatClampNeg :: k) b h' hb a3 w3, show p + 1 + c.length = p + ((1, nI j) :: c).length by simp; omega]
    · have hn := op_ne w1
      rw [if_neg hn.1, if_neg hn.2, if_pos w1, if_neg hn.1, if_neg hn.2]
      match k, w2, w3 with
      | y :: z :: t, _, w3 =>
        dsimp only
        by_cases cz : q = 5 ∧ y = 0
        · rw [if_pos cz, if_pos cz]
        · rw [if_neg cz, if_neg cz, mT_run cd ci v c n (p + 1) (mJ q z y :: t) b h' hb a3 w3, show p + 1 + c.length = p + ((q, o) :: c).length by simp; omega]
/-! what an E comes to: one number -/
def e1 (v : hF) (c : hCd) : Option Int32 := (evC v c []).map (fun s => s.headD 0)
def okE (c : hCd) : Prop := ∀ h, h + 15 ≤ 24 → wfC c h 24 (h + 1)
theorem e1_run {v : hF} {c : hCd} (h : okE c) (k : List Int32) : evC v c k = (e1 v c).map (fun z => z :: k) := by
  have h0 := h 0 (by decide)
  have h1 := evC_app v c [] k 24 1 h0
  rw [List.nil_append] at h1
  rw [h1]
  unfold e1
  cases hq : evC v c [] with
  | none => rfl
  | some s =>
    have h2 := evC_len v c [] s 24 1 h0 hq
    match s, h2 with
    | [z], _ => rfl
def lawV (v : hF) : List hBr → hCd → Int32
  | [], c => (e1 v c).getD 0
  | (c1, c2, c3) :: bs, c => match e1 v c1, e1 v c2 with
    | some u, some w => if u < w then (e1 v c3).getD 0 else lawV v bs c
    | _, _ => 0

