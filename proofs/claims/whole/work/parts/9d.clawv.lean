/-! the class's steps of a LAW come to the LAW's value -/
theorem lv_7 {st op v : hF} {sz n p : Nat} {k : List Int32} (hs : sz ≤ 410) (hp : p < sz) (h : st p = 7) : lvalC st op sz v (n + 1) (nI p) k = k.headD 0 := by
  rw [lvalC_s, if_neg (nI_pos (by omega)), if_neg (nI_ge hp (by omega)), nI_clamp (by omega), if_pos h]
theorem lv_6 {st op v : hF} {sz n p q : Nat} {a b : Int32} {k : List Int32} (hs : sz ≤ 410) (hp : p < sz) (h : st p = 6) (ho : op p = nI q) : lvalC st op sz v (n + 1) (nI p) (b :: a :: k) = lvalC st op sz v n (if a < b then nI (p + 1) else nI q) k := by
  rw [lvalC_s, if_neg (nI_pos (by omega)), if_neg (nI_ge hp (by omega)), nI_clamp (by omega), h, if_neg (by decide), if_neg (by decide)]
  show (if (6 : Int32) = 6 then lvalC st op sz v n (if a < b then nI p + 1 else op p) k else _) = _
  rw [if_pos rfl, ho, nI_1]
theorem lv_e {st op v : hF} {sz n p : Nat} {c : hCd} {k : List Int32} (hs : sz ≤ 410) (h : okE c) (hk : k.length ≤ 9) (hc : cdAt st op p c) (hp : p + c.length ≤ sz) : lvalC st op sz v (c.length + n) (nI p) k = match e1 v c with
    | none => 0
    | some z => lvalC st op sz v n (nI (p + c.length)) (z :: k) := by
  rw [lv_run st op sz v hs c n p k (k.length + 1) hc (h k.length (by omega)) hp, e1_run h k]
  cases e1 v c <;> rfl
theorem lv_law {st op v : hF} {sz : Nat} {c : hCd} (hs : sz ≤ 410) (hc : okE c) : ∀ (bs : List hBr) (p N : Nat), cdAt st op p (encL p (bs, c)) → p + (encL p (bs, c)).length ≤ sz → (encL p (bs, c)).length ≤ N → (∀ b, b ∈ bs → okBr b) → lvalC st op sz v N (nI p) [] = lawV v bs c
  | [], p, N, h, hp, hN, _ => by
    have e : encL p ([], c) = c ++ [(7, 0)] := rfl
    rw [e] at h hp hN
    rw [List.length_append, List.length_singleton] at hp hN
    obtain ⟨a1, a2, a3, a4⟩ := (cdAt_app c _ p).mp h
    obtain ⟨n, rfl⟩ : ∃ n, N = c.length + (n + 1) := ⟨N - c.length - 1, by omega⟩
    rw [lv_e hs hc (by simp) a1 (by omega)]
    show _ = (e1 v c).getD 0
    rcases e1 v c with _ | z
    · rfl
    · exact lv_7 hs (by omega) a2
  | (c1, c2, c3) :: bs, p, N, h, hp, hN, hk => by
    obtain ⟨k1, k2, k3⟩ := hk (c1, c2, c3) (List.mem_cons_self ..)
    dsimp only at k1 k2 k3
    have el := encB_len p (c1, c2, c3)
    dsimp only at el
    have e : encL p ((c1, c2, c3) :: bs, c) = encB p (c1, c2, c3) ++ encL (p + (encB p (c1, c2, c3)).length) (bs, c) := by
      unfold encL
      show encB p (c1, c2, c3) ++ encBs (p + (encB p (c1, c2, c3)).length) bs ++ c ++ [(7, 0)] = _
      simp only [List.append_assoc]
    rw [e] at h hp hN
    obtain ⟨h1, h2⟩ := (cdAt_app _ _ p).mp h
    rw [List.length_append] at hp hN
    have ih := fun N => lv_law (v := v) hs hc bs (p + (encB p (c1, c2, c3)).length) N h2 (by omega)
    unfold encB at h1
    dsimp only at h1
    obtain ⟨h3, h4, h5, -⟩ := (cdAt_app _ _ p).mp h1
    obtain ⟨h6, h7⟩ := (cdAt_app _ _ p).mp h3
    obtain ⟨h8, h9, h10, -⟩ := (cdAt_app _ _ p).mp h6
    obtain ⟨h11, h12⟩ := (cdAt_app _ _ p).mp h8
    simp only [List.length_append, List.length_singleton] at h4 h7 h9 h10
    obtain ⟨n, rfl⟩ : ∃ n, N = c1.length + (c2.length + (n + 1)) := ⟨N - c1.length - c2.length - 1, by omega⟩
    show _ = (match e1 v c1, e1 v c2 with
      | some u, some w => if u < w then (e1 v c3).getD 0 else lawV v bs c
      | _, _ => 0)
    rw [lv_e hs k1 (by simp) h11 (by omega)]
    rcases e1 v c1 with _ | z1
    · rfl
    show lvalC st op sz v (c2.length + (n + 1)) (nI (p + c1.length)) [z1] = _
    rw [lv_e hs k2 (by simp) h12 (by omega)]
    rcases e1 v c2 with _ | z2
    · rfl
    show lvalC st op sz v (n + 1) (nI (p + c1.length + c2.length)) [z2, z1] = if z1 < z2 then (e1 v c3).getD 0 else lawV v bs c
    rw [lv_6 (q := p + (encB p (c1, c2, c3)).length) hs (by omega) (by rw [show p + c1.length + c2.length = p + (c1.length + c2.length) by omega]; exact h9) (by rw [show p + c1.length + c2.length = p + (c1.length + c2.length) by omega, h10, el])]
    by_cases q : z1 < z2
    · rw [if_pos q, if_pos q]
      obtain ⟨n', rfl⟩ : ∃ n', n = c3.length + (n' + 1) := ⟨n - c3.length - 1, by omega⟩
      rw [show p + c1.length + c2.length + 1 = p + (c1.length + c2.length + 1) by omega, lv_e hs k3 (by simp) h7 (by omega)]
      rcases e1 v c3 with _ | z3
      · rfl
      · show lvalC st op sz v (n' + 1) _ [z3] = z3
        rw [show p + (c1.length + c2.length + 1) + c3.length = p + (c1.length + c2.length + 1 + c3.length) by omega]
        exact lv_7 hs (by omega) h4
    · rw [if_neg q, if_neg q]
      exact ih n (by omega) (fun b hb => hk b (List.mem_cons_of_mem _ hb))
theorem dfl_v (k : Nat) (v : hF) (hk : k < 5) : lawV v (dflL k).1 (dflL k).2 = mPl k v := by
  rcases (show k = 0 ∨ k = 1 ∨ k = 2 ∨ k = 3 ∨ k = 4 by omega) with rfl | rfl | rfl | rfl | rfl <;> rfl

