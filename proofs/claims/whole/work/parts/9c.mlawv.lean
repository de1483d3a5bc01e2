/-! the reference's tables of a LAW come to the LAW's value -/
theorem mT_e1 {cd ci v : hF} {c : hCd} {p : Nat} (h : okE c) (hc : cdAt cd ci p c) : mT cd ci v c.length p [] = some (e1 v c) := by
  have := mT_run cd ci v c 0 p [] 24 1 (by decide) hc (h 0 (by decide))
  rw [Nat.add_zero] at this
  rw [this, e1_run h []]
  cases e1 v c <;> rfl
def tN (f : hF) (b : Nat) : Nat := (f b).toNatClampNeg
theorem tN_e {f : hF} {b k : Nat} (h : f b = nI k) (hk : k < 2 ^ 31) : tN f b = k := by unfold tN; rw [h]; exact nI_clamp hk
theorem mW_e {σ : hS} {v : hF} {b p : Nat} {c : hCd} (h : okE c) (hp : p + c.length ≤ 840) (h1 : σ 91 b = nI p) (h2 : σ 92 b = nI (p + c.length)) (hc : cdAt (σ 93) (σ 94) p c) : mW (σ 93) (σ 94) v (tN (σ 91)) (tN (σ 92)) b = some ((e1 v c).getD 0) := by
  unfold mW
  rw [tN_e h1 (by omega), tN_e h2 (by omega), show p + c.length - p = c.length by omega, mT_e1 h hc]
  rfl
theorem lw_mL {σ : hS} {v : hF} {c : hCd} (hc : okE c) : ∀ (bs : List hBr) (b p : Nat), bsTab σ b p bs → eTab σ (b + bs.length) (p + brls bs) c → (∀ br, br ∈ bs → okE br.1 ∧ okE br.2.1 ∧ okE br.2.2) → p + brls bs + c.length ≤ 840 → mL (σ 93) (σ 94) v (σ 88) (tN (σ 89)) (tN (σ 90)) (tN (σ 91)) (tN (σ 92)) (bs.length + 1) b = some (lawV v bs c)
  | [], b, p, _, ⟨e1', e2, e3, e4⟩, _, hp => by
    have e1'' : σ 88 b = 0 := e1'
    show (if σ 88 b = 0 then _ else _) = _
    rw [if_pos e1'']
    exact mW_e hc hp e2 e3 e4
  | (c1, c2, c3) :: bs, b, p, ⟨⟨h1, h2, h3, h4, h5, h6, h7, h8⟩, hb⟩, he, hk, hp => by
    obtain ⟨k1, k2, k3⟩ := hk (c1, c2, c3) (List.mem_cons_self ..)
    dsimp only at h1 h2 h3 h4 h5 h6 h7 h8 k1 k2 k3
    have e0 : brls ((c1, c2, c3) :: bs) = c1.length + c2.length + c3.length + brls bs := rfl
    have eb : brl (c1, c2, c3) = c1.length + c2.length + c3.length := rfl
    rw [e0] at hp he
    rw [eb] at hb
    have ih := lw_mL (σ := σ) (v := v) hc bs (b + 1) (p + (c1.length + c2.length + c3.length)) hb (by rw [show b + 1 + bs.length = b + ((c1, c2, c3) :: bs).length by simp; omega, show p + (c1.length + c2.length + c3.length) + brls bs = p + (c1.length + c2.length + c3.length + brls bs) by omega]; exact he) (fun br hbr => hk br (List.mem_cons_of_mem _ hbr)) (by omega)
    show (if σ 88 b = 0 then mW (σ 93) (σ 94) v (tN (σ 91)) (tN (σ 92)) b else match mT (σ 93) (σ 94) v (tN (σ 90) b - tN (σ 89) b) (tN (σ 89) b) [], mT (σ 93) (σ 94) v (tN (σ 91) b - tN (σ 90) b) (tN (σ 90) b) [] with
      | some (some u), some (some w) => if u < w then mW (σ 93) (σ 94) v (tN (σ 91)) (tN (σ 92)) b else mL (σ 93) (σ 94) v (σ 88) (tN (σ 89)) (tN (σ 90)) (tN (σ 91)) (tN (σ 92)) (bs.length + 1) (b + 1)
      | some _, some _ => some 0
      | _, _ => none) = _
    rw [if_neg (by rw [h1]; decide), tN_e h2 (by omega), tN_e h3 (by omega), tN_e h4 (by omega), show p + c1.length - p = c1.length by omega, show p + c1.length + c2.length - (p + c1.length) = c2.length by omega, mT_e1 k1 h6, mT_e1 k2 h7, mW_e k3 (by omega) h4 h5 h8, ih]
    show _ = some (match e1 v c1, e1 v c2 with
      | some u, some w => if u < w then (e1 v c3).getD 0 else lawV v bs c
      | _, _ => 0)
    rcases e1 v c1 with _ | z1
    · rcases e1 v c2 with _ | z2 <;> rfl
    · rcases e1 v c2 with _ | z2
      · rfl
      · show (if z1 < z2 then _ else _) = some (if z1 < z2 then _ else _)
        by_cases q : z1 < z2
        · rw [if_pos q, if_pos q]
        · rw [if_neg q, if_neg q]
theorem lw_okM {σ : hS} {c : hCd} : ∀ (bs : List hBr) (b p : Nat), bsTab σ b p bs → eTab σ (b + bs.length) (p + brls bs) c → p + brls bs + c.length ≤ 840 → ∀ q, b ≤ q → q < b + bs.length + 1 → okM σ (tN (σ 89)) (tN (σ 90)) (tN (σ 91)) (tN (σ 92)) q
  | [], b, p, _, ⟨e1', e2, e3, e4⟩, hp, q, q1, q2 => by
    obtain rfl : q = b := by simp at q2; omega
    have e2' : σ 91 q = nI p := e2
    have e3' : σ 92 q = nI (p + c.length) := e3
    have hp' : p + c.length ≤ 840 := hp
    refine ⟨by rw [tN_e e2' (by omega)]; exact e2', by rw [tN_e e3' (by omega)]; exact e3', ?_, ?_, fun z => absurd e1' z⟩
    · rw [tN_e e2' (by omega), tN_e e3' (by omega)]; omega
    · rw [tN_e e3' (by omega)]; omega
  | (c1, c2, c3) :: bs, b, p, ⟨⟨h1, h2, h3, h4, h5, h6, h7, h8⟩, hb⟩, he, hp, q, q1, q2 => by
    dsimp only at h1 h2 h3 h4 h5 h6 h7 h8
    have e0 : brls ((c1, c2, c3) :: bs) = c1.length + c2.length + c3.length + brls bs := rfl
    have eb : brl (c1, c2, c3) = c1.length + c2.length + c3.length := rfl
    rw [e0] at hp he
    rw [eb] at hb
    by_cases e : q = b
    · subst e
      refine ⟨by rw [tN_e h4 (by omega)]; exact h4, by rw [tN_e h5 (by omega)]; exact h5, ?_, ?_, fun _ => ⟨by rw [tN_e h2 (by omega)]; exact h2, by rw [tN_e h3 (by omega)]; exact h3, ?_, ?_⟩⟩
      · rw [tN_e h4 (by omega), tN_e h5 (by omega)]; omega
      · rw [tN_e h5 (by omega)]; omega
      · rw [tN_e h2 (by omega), tN_e h3 (by omega)]; omega
      · rw [tN_e h3 (by omega), tN_e h4 (by omega)]; omega
    · exact lw_okM bs (b + 1) (p + (c1.length + c2.length + c3.length)) hb (by rw [show b + 1 + bs.length = b + ((c1, c2, c3) :: bs).length by simp; omega, show p + (c1.length + c2.length + c3.length) + brls bs = p + (c1.length + c2.length + c3.length + brls bs) by omega]; exact he) (by omega) q (by omega) (by rw [List.length_cons] at q2; omega)

