section S74
variable (K V : Nat → Nat)
def exP (b s a : Nat) (c : hCd) : Prop := s < a ∧ cln K s a ∧ c.length ≤ a - s ∧ ∀ h, h + b ≤ 24 → wfC c h 24 (h + 1)
theorem exP_mono {b b' s a : Nat} {c : hCd} (hb : b ≤ b') (h : exP K b s a c) : exP K b' s a c := ⟨h.1, h.2.1, h.2.2.1, fun q hq => h.2.2.2 q (by omega)⟩
theorem exP_join {b s a a' : Nat} {c c' : hCd} {o : Int32} (hK : K a ≠ 25 ∧ K a ≠ 26 ∧ K a ≠ 27) (ho : o = 2 ∨ o = 3 ∨ o = 4 ∨ o = 5) (h : exP K (b + 1) s a c) (h' : exP K b (a + 1) a' c') : exP K (b + 1) s a' (c ++ c' ++ [(o, 0)]) := by
  obtain ⟨h1, h2, h3, h4⟩ := h
  obtain ⟨k1, k2, k3, k4⟩ := h'
  refine ⟨by omega, fun j j1 j2 => ?_, ?_, fun q hq => ?_⟩
  · by_cases c1 : j < a
    · exact h2 j j1 c1
    · by_cases c2 : j = a
      · rw [c2]; exact hK
      · exact k2 j (by omega) j2
  · rw [List.length_append, List.length_append, List.length_singleton]; omega
  · refine wfC_app _ _ q 24 (q + 2) (q + 1) (wfC_app _ _ q 24 (q + 1) (q + 2) (h4 q hq) (k4 (q + 1) (by omega))) ?_
    exact Or.inr ⟨ho, by omega, show q + 2 - 1 = q + 1 by omega⟩
theorem prodL_ok {U : Nat → hPR hCd} {b : Nat} (hU : ∀ at', at' ≤ 400 → okG K at' (exP K b at') (U at')) : ∀ k s at' c, at' ≤ 400 → 401 ≤ at' + k → exP K (b + 1) s at' c → okG K at' (fun a c' => exP K (b + 1) s a c' ∧ K a ≠ 31 ∧ K a ≠ 32) (prodL K U k at' c)
  | 0, s, at', c, h1, h2, _ => absurd h2 (by omega)
  | k + 1, s, at', c, h1, h2, h3 => by
    unfold prodL
    split
    · rename_i hop
      have hk : K at' ≠ 25 ∧ K at' ≠ 26 ∧ K at' ≠ 27 := by rcases hop with q | q <;> rw [q] <;> decide
      refine okG_bd K (okG_pass K h1 ⟨hk.1, hk.2.1⟩) (fun a _ _ a4 ea => ?_)
      subst ea
      refine okG_bd K (hU (at' + 1) a4) (fun a' c' l1 l2 q => ?_)
      exact prodL_ok hU k s a' _ l2 (by omega) (exP_join K hk (by split <;> decide) h3 q)
    · rename_i hop
      exact ⟨Nat.le_refl _, h1, fun j j1 j2 => absurd j2 (by omega), h3, fun q => hop (Or.inl q), fun q => hop (Or.inr q)⟩
theorem prodX_ok {U : Nat → hPR hCd} {b : Nat} (hU : ∀ at', at' ≤ 400 → okG K at' (exP K b at') (U at')) (at' : Nat) (h : at' ≤ 400) : okG K at' (fun a c' => exP K (b + 1) at' a c' ∧ K a ≠ 31 ∧ K a ≠ 32) (prodX K U at') :=
  okG_bd K (hU at' h) (fun a c l1 l2 q => prodL_ok K hU 401 at' a c l2 (by omega) (exP_mono K (Nat.le_succ b) q))
theorem sumL_ok {P : Nat → hPR hCd} {b : Nat} (hP : ∀ at', at' ≤ 400 → okG K at' (fun a c' => exP K b at' a c' ∧ K a ≠ 31 ∧ K a ≠ 32) (P at')) : ∀ k s at' c, at' ≤ 400 → 401 ≤ at' + k → exP K (b + 1) s at' c → K at' ≠ 31 ∧ K at' ≠ 32 → okG K at' (fun a c' => exP K (b + 1) s a c' ∧ (K a ≠ 31 ∧ K a ≠ 32) ∧ K a ≠ 29 ∧ K a ≠ 30) (sumL K P k at' c)
  | 0, s, at', c, h1, h2, _, _ => absurd h2 (by omega)
  | k + 1, s, at', c, h1, h2, h3, h4 => by
    unfold sumL
    split
    · rename_i hop
      have hk : K at' ≠ 25 ∧ K at' ≠ 26 ∧ K at' ≠ 27 := by rcases hop with q | q <;> rw [q] <;> decide
      refine okG_bd K (okG_pass K h1 ⟨hk.1, hk.2.1⟩) (fun a _ _ a4 ea => ?_)
      subst ea
      refine okG_bd K (hP (at' + 1) a4) (fun a' c' l1 l2 q => ?_)
      exact sumL_ok hP k s a' _ l2 (by omega) (exP_join K hk (by split <;> decide) h3 q.1) q.2
    · rename_i hop
      exact ⟨Nat.le_refl _, h1, fun j j1 j2 => absurd j2 (by omega), h3, h4, fun q => hop (Or.inl q), fun q => hop (Or.inr q)⟩
theorem sumX_ok {U : Nat → hPR hCd} {b : Nat} (hU : ∀ at', at' ≤ 400 → okG K at' (exP K b at') (U at')) (at' : Nat) (h : at' ≤ 400) : okG K at' (fun a c' => exP K (b + 2) at' a c' ∧ (K a ≠ 31 ∧ K a ≠ 32) ∧ K a ≠ 29 ∧ K a ≠ 30) (sumX K U at') :=
  okG_bd K (prodX_ok K hU at' h) (fun a c l1 l2 q => sumL_ok K (fun s hs => prodX_ok K hU s hs) 401 at' a c l2 (by omega) (exP_mono K (Nat.le_succ (b + 1)) q.1) q.2)
theorem cln_1 {s : Nat} (hK : K s ≠ 25 ∧ K s ≠ 26 ∧ K s ≠ 27) : cln K s (s + 1) := fun j j1 j2 => by rw [show j = s by omega]; exact hK
theorem uX_leaf {e s : Nat} {k o : Int32} (h : s ≤ 400) (hK : K s ≠ 25 ∧ K s ≠ 26 ∧ K s ≠ 27) (ho : k = 0 ∨ (k = 1 ∧ ∃ j, j < 9 ∧ o = nI j)) : okG K s (exP K (2 * e + 1) s) (bd (pass s) (fun a _ => .inr (a, [(k, o)]))) := by
  refine okG_bd K (okG_pass K h ⟨hK.1, hK.2.1⟩) (fun a _ _ a4 ea => ?_)
  subst ea
  refine ⟨Nat.le_refl _, a4, fun j j1 j2 => absurd j2 (by omega), by omega, cln_1 K hK, by simp, fun q hq => ?_⟩
  exact Or.inl ⟨ho, by omega, rfl⟩
theorem okG_f {α : Type} {P : Nat → α → Prop} {s x : Nat} (h : s ≤ 400) (hx : x = 1 ∨ x = 2) : okG K s P (.inl (x, s)) := ⟨Nat.le_refl _, h, hx, fun j j1 j2 => absurd j2 (by omega)⟩
theorem uX_ok : ∀ e at', at' ≤ 400 → okG K at' (exP K (2 * e + 1) at') (uX K V e at')
  | 0, s, h => by
    unfold uX
    split
    · rename_i c; exact uX_leaf K h (by rw [c]; decide) (Or.inl rfl)
    · split
      · rename_i c
        exact uX_leaf K h ⟨by omega, by omega, by omega⟩ (Or.inr ⟨rfl, K s - 14, by omega, rfl⟩)
      · split
        · exact okG_f K h (Or.inr rfl)
        · exact okG_f K h (Or.inl rfl)
  | e + 1, s, h => by
    unfold uX
    split
    · rename_i c; exact uX_leaf K h (by rw [c]; decide) (Or.inl rfl)
    · split
      · rename_i c
        exact uX_leaf K h ⟨by omega, by omega, by omega⟩ (Or.inr ⟨rfl, K s - 14, by omega, rfl⟩)
      · split
        · rename_i c
          refine okG_bd K (okG_pass K h (by rw [c]; decide)) (fun a _ _ a4 ea => ?_)
          subst ea
          refine okG_bd K (sumX_ok K (uX_ok e) (s + 1) a4) (fun a' c' l1 l2 q => ?_)
          refine okG_bd K (okG_tk K l2 (by decide)) (fun a'' _ l3 l4 q2 => ?_)
          obtain ⟨rfl, q3⟩ := q2
          obtain ⟨⟨q4, q5, q6, q7⟩, -⟩ := q
          refine ⟨Nat.le_refl _, l4, fun j j1 j2 => absurd j2 (by omega), by omega, fun j j1 j2 => ?_, by omega, fun z hz => q7 z (by omega)⟩
          by_cases c1 : j = s
          · rw [c1, c]; decide
          · by_cases c2 : j < a'
            · exact q5 j (by omega) c2
            · rw [show j = a' by omega, q3]; decide
        · exact okG_f K h (Or.inl rfl)
theorem eX_ok (at' : Nat) (h : at' ≤ 400) : okG K at' (fun a c => exP K 15 at' a c ∧ (K a ≠ 31 ∧ K a ≠ 32) ∧ K a ≠ 29 ∧ K a ≠ 30) (eX K V at') := sumX_ok K (uX_ok K V 6) at' h
end S74

