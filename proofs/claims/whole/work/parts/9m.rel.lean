/-! how class and reference stand to each other -/
theorem cdAt_lo {st op st' op' : hF} {lo : Nat} : ∀ (c : hCd) (p : Nat), lo ≤ p → cdAt st op p c → (∀ j, lo ≤ j → st' j = st j ∧ op' j = op j) → cdAt st' op' p c
  | [], p, _, _, _ => trivial
  | x :: c, p, hp, h, e => by
    obtain ⟨h1, h2, h3⟩ := h
    exact ⟨(e p hp).1.trans h1, (e p hp).2.trans h2, cdAt_lo c (p + 1) (by omega) h3 e⟩
theorem bsTab_lo {σ σ' : hS} {L : Nat} (ht : ∀ j, 130 * L ≤ j → σ 88 j = σ' 88 j ∧ σ 89 j = σ' 89 j ∧ σ 90 j = σ' 90 j ∧ σ 91 j = σ' 91 j ∧ σ 92 j = σ' 92 j) (hc : ∀ j, 420 * L ≤ j → σ 93 j = σ' 93 j ∧ σ 94 j = σ' 94 j) : ∀ (bs : List hBr) (b p : Nat), 130 * L ≤ b → 420 * L ≤ p → bsTab σ b p bs → bsTab σ' b p bs
  | [], b, p, _, _, _ => trivial
  | br :: bs, b, p, hb, hp, h => by
    obtain ⟨⟨t1, t2, t3, t4, t5, t6, t7, t8⟩, h2⟩ := h
    obtain ⟨e1, e2, e3, e4, e5⟩ := ht b hb
    have hc' : ∀ j, 420 * L ≤ j → σ' 93 j = σ 93 j ∧ σ' 94 j = σ 94 j := fun j hj => ⟨(hc j hj).1.symm, (hc j hj).2.symm⟩
    refine ⟨⟨e1.symm.trans t1, e2.symm.trans t2, e3.symm.trans t3, e4.symm.trans t4, e5.symm.trans t5, cdAt_lo _ _ hp t6 hc', cdAt_lo _ _ (by omega) t7 hc', cdAt_lo _ _ (by omega) t8 hc'⟩, bsTab_lo ht hc bs (b + 1) _ (by omega) (by omega) h2⟩
theorem lwTab_lo {σ σ' : hS} {L b p : Nat} {l : hLw} (hb : 130 * L ≤ b) (hp : 420 * L ≤ p) (h : lwTab σ b p l) (ht : ∀ j, 130 * L ≤ j → σ 88 j = σ' 88 j ∧ σ 89 j = σ' 89 j ∧ σ 90 j = σ' 90 j ∧ σ 91 j = σ' 91 j ∧ σ 92 j = σ' 92 j) (hc : ∀ j, 420 * L ≤ j → σ 93 j = σ' 93 j ∧ σ 94 j = σ' 94 j) : lwTab σ' b p l := by
  obtain ⟨h1, h2, h3, h4, h5⟩ := h
  obtain ⟨e1, e2, e3, e4, e5⟩ := ht (b + l.1.length) (by omega)
  exact ⟨bsTab_lo ht hc l.1 b p hb hp h1, e1.symm.trans h2, e4.symm.trans h3, e5.symm.trans h4, cdAt_lo _ _ (by omega) h5 (fun j hj => ⟨(hc j hj).1.symm, (hc j hj).2.symm⟩)⟩
theorem okLw_d {k : Nat} (hk : k < 5) : okLw (dflL k) := by
  refine ⟨fun b hb => absurd hb (by rcases (show k = 0 ∨ k = 1 ∨ k = 2 ∨ k = 3 ∨ k = 4 by omega) with rfl | rfl | rfl | rfl | rfl <;> exact List.not_mem_nil), ?_⟩
  rcases (show k = 0 ∨ k = 1 ∨ k = 2 ∨ k = 3 ∨ k = 4 by omega) with rfl | rfl | rfl | rfl | rfl
  · exact fun h hh => Or.inl ⟨Or.inl rfl, by omega, rfl⟩
  · exact fun h hh => Or.inl ⟨Or.inl rfl, by omega, rfl⟩
  · exact fun h hh => Or.inl ⟨Or.inl rfl, by omega, rfl⟩
  · exact fun h hh => Or.inl ⟨Or.inr ⟨rfl, 0, by decide, rfl⟩, by omega, rfl⟩
  · exact fun h hh => Or.inl ⟨Or.inl rfl, by omega, rfl⟩
/-- the reference's laws, and where they lie -/
def rLw (σ : hS) (L : Nat) (LF : Nat → hF → Int32) : Prop := hLx LF ∧ ∃ Ls : hLs, ∀ k, k < 5 → lwO L (130 * L + 100) (420 * L + 400) (5 * L + k) (Ls k) σ ∧ ∀ v, LF k v = lawV v (lawOf Ls k).1 (lawOf Ls k).2
theorem rLw_of {σ σ' : hS} {L : Nat} {LF : Nat → hF → Int32} (h : rLw σ L LF) (h6 : ∀ k, k < 5 → σ' 86 (5 * L + k) = σ 86 (5 * L + k) ∧ σ' 87 (5 * L + k) = σ 87 (5 * L + k)) (ht : ∀ j, 130 * L ≤ j → j < 130 * L + 100 → σ' 88 j = σ 88 j ∧ σ' 89 j = σ 89 j ∧ σ' 90 j = σ 90 j ∧ σ' 91 j = σ 91 j ∧ σ' 92 j = σ 92 j) (hc : ∀ j, 420 * L ≤ j → j < 420 * L + 400 → σ' 93 j = σ 93 j ∧ σ' 94 j = σ 94 j) : rLw σ' L LF := by
  obtain ⟨h1, Ls, h2⟩ := h
  refine ⟨h1, Ls, fun k hk => ⟨?_, (h2 k hk).2⟩⟩
  have q := (h2 k hk).1
  obtain ⟨e6, e7⟩ := h6 k hk
  rcases hl : Ls k with _ | l
  · rw [hl] at q
    exact ⟨e6.trans q.1, e7.trans q.2⟩
  · rw [hl] at q
    obtain ⟨b, p, q1, q2, q3, q4, q5, q6, q7, q8⟩ := q
    refine ⟨b, p, q1, q2, q3, q4, e6.trans q5, e7.trans q6, ?_, q8⟩
    have tr : ∀ σ'' : hS, (∀ c, c ∈ [88, 89, 90, 91, 92] → ∀ j, σ'' c j = if j < 130 * L then σ c j else σ' c j) → (∀ c, c ∈ [93, 94] → ∀ j, σ'' c j = if j < 420 * L then σ c j else σ' c j) → lwTab σ'' b p l := fun σ'' g1 g2 => by
      refine lwTab_ext q7 q2 q4 (fun j hj => ?_) (fun j hj => ?_)
      · rw [g1 88 (by decide), g1 89 (by decide), g1 90 (by decide), g1 91 (by decide), g1 92 (by decide)]
        by_cases c : j < 130 * L
        · rw [if_pos c, if_pos c, if_pos c, if_pos c, if_pos c]; exact ⟨rfl, rfl, rfl, rfl, rfl⟩
        · rw [if_neg c, if_neg c, if_neg c, if_neg c, if_neg c]; exact ht j (by omega) hj
      · rw [g2 93 (by decide), g2 94 (by decide)]
        by_cases c : j < 420 * L
        · rw [if_pos c, if_pos c]; exact ⟨rfl, rfl⟩
        · rw [if_neg c, if_neg c]; exact hc j (by omega) hj
    exact lwTab_lo (L := L) q1 q3 (tr (fun c j => if c = 93 ∨ c = 94 then (if j < 420 * L then σ c j else σ' c j) else (if j < 130 * L then σ c j else σ' c j)) (fun c hc j => if_neg (by revert c; decide)) (fun c hc j => if_pos (by revert c; decide))) (fun j hj => ⟨(if_neg (show ¬ ((88 : Nat) = 93 ∨ (88 : Nat) = 94) by decide)).trans (if_neg (by omega)), (if_neg (show ¬ ((89 : Nat) = 93 ∨ (89 : Nat) = 94) by decide)).trans (if_neg (by omega)), (if_neg (show ¬ ((90 : Nat) = 93 ∨ (90 : Nat) = 94) by decide)).trans (if_neg (by omega)), (if_neg (show ¬ ((91 : Nat) = 93 ∨ (91 : Nat) = 94) by decide)).trans (if_neg (by omega)), (if_neg (show ¬ ((92 : Nat) = 93 ∨ (92 : Nat) = 94) by decide)).trans (if_neg (by omega))⟩) (fun j hj => ⟨(if_pos (Or.inl rfl)).trans (if_neg (by omega)), (if_pos (Or.inr rfl)).trans (if_neg (by omega))⟩)
/-- told laws come to what the reference's tables come to -/
theorem rLw_okL {σ : hS} {L : Nat} {LF : Nat → hF → Int32} (hL : L < 2) (h : rLw σ L LF) : okL σ L LF := by
  obtain ⟨h1, Ls, h2⟩ := h
  refine ⟨h1, fun k hk => ?_⟩
  obtain ⟨hM, hv⟩ := h2 k hk
  rcases hl : Ls k with _ | l
  · have e : lawOf Ls k = dflL k := by unfold lawOf; rw [hl]; rfl
    rw [hl] at hM
    obtain ⟨m1, m2⟩ := hM
    rw [e] at hv
    refine ⟨0, 0, fun _ => 0, fun _ => 0, fun _ => 0, fun _ => 0, m1, m2, Nat.le_refl _, by decide, fun b h1 h2 => absurd h2 (by omega), fun v => ?_⟩
    rw [if_pos rfl, hv v, dfl_v k v hk]
  · have e : lawOf Ls k = l := by unfold lawOf; rw [hl]; rfl
    rw [hl] at hM
    obtain ⟨b, q, q1, q2, q3, q4, q5, q6, q7, q8⟩ := hM
    rw [e] at hv
    refine ⟨b, b + l.1.length + 1, tN (σ 89), tN (σ 90), tN (σ 91), tN (σ 92), q5, q6, by omega, by omega, fun c h1 h2 => lw_okM l.1 b q q7.1 q7.2 (by omega) c h1 h2, fun v => ?_⟩
    rw [if_neg (by omega), hv v, show b + l.1.length + 1 - b = l.1.length + 1 by omega]
    exact lw_mL q8.2 l.1 b q q7.1 q7.2 q8.1 (by omega)
/-- the laws of both come to the same -/
theorem rLw_read {σ : hS} {L sz : Nat} {Ls : hLs} {st op at' : hF} (hs : sz ≤ 410) (hC : ∀ k, k < 5 → ∃ p, at' k = nI p ∧ p + (encL p (lawOf Ls k)).length ≤ sz ∧ cdAt st op p (encL p (lawOf Ls k))) (hM : ∀ k, k < 5 → lwO L (130 * L + 100) (420 * L + 400) (5 * L + k) (Ls k) σ) : rLw σ L (fun k v => lvalC st op sz v sz (at' k) []) := by
  refine ⟨fun k v w q => lvalC_ext st op sz q sz (at' k) [], Ls, fun k hk => ⟨hM k hk, fun v => ?_⟩⟩
  obtain ⟨p, p1, p2, p3⟩ := hC k hk
  have hok : okLw (lawOf Ls k) := by
    have hM := hM k hk
    rcases hl : Ls k with _ | l
    · rw [show lawOf Ls k = dflL k by unfold lawOf; rw [hl]; rfl]; exact okLw_d hk
    · rw [hl] at hM
      obtain ⟨b, q, q1, q2, q3, q4, q5, q6, q7, q8⟩ := hM
      rw [show lawOf Ls k = l by unfold lawOf; rw [hl]; rfl]; exact q8
  show lvalC st op sz v sz (at' k) [] = _
  rw [p1]
  exact lv_law hs hok.2 _ p sz p3 p2 (Nat.le_trans (Nat.le_add_left _ p) p2) hok.1
/-- a row of the reference as it may be -/
def rwOK (h : Nat) (f : hF) (pr : Nat → Option Nat) : Prop := (∀ a, h ≤ a → a < 7 → f a = 0 ∧ f (7 + a) = 0 ∧ f (14 + a) = 0 ∧ f (21 + a) = 0) ∧ (∀ a, a < h → 0 ≤ f a ∧ f a ≤ 9999 ∧ 0 ≤ f (14 + a) ∧ f (14 + a) ≤ f a) ∧ (∀ a, a < h → 0 ≤ f (7 + a) ∧ f (7 + a) ≤ 9999) ∧ okNC h pr ∧ ∀ a, a < h → f (28 + a) = oM (pr a)
theorem rwOK_congr {h : Nat} {f g : hF} {pr : Nat → Option Nat} (h7 : h ≤ 7) (e : ∀ j, j < 37 → g j = f j) (hf : rwOK h f pr) : rwOK h g pr := by
  obtain ⟨h1, h2, h3, h4, h5⟩ := hf
  refine ⟨fun a a1 a2 => ?_, fun a ha => ?_, fun a ha => ?_, h4, fun a ha => ?_⟩
  · rw [e a (by omega), e (7 + a) (by omega), e (14 + a) (by omega), e (21 + a) (by omega)]; exact h1 a a1 a2
  · rw [e a (by omega), e (14 + a) (by omega)]; exact h2 a ha
  · rw [e (7 + a) (by omega)]; exact h3 a ha
  · rw [e (28 + a) (by omega)]; exact h5 a ha
/-- the class's state of now, and a row -/
def cEq (h : Nat) (σ : hS) (f : hF) (pr : Nat → Option Nat) : Prop := rwOK h f pr ∧ σ 11 5 = nI h ∧ σ 11 6 = f 36 ∧ σ 11 7 = f 35 ∧ ∀ a, a < h → σ 12 a = f a ∧ σ 13 a = f (7 + a) ∧ σ 14 a = f (14 + a) ∧ σ 15 a = f (21 + a) ∧ σ 16 a = oN (pr a)
/-- a row that the class keeps, and one that the reference keeps -/
def rwEq (h : Nat) (g : hF) (p : Nat) (f : hF) (q : Nat) : Prop := ∃ pr, rwOK h (fun j => f (q + j)) pr ∧ g (p + 35) = nI h ∧ g (p + 36) = f (q + 36) ∧ g (p + 37) = f (q + 35) ∧ ∀ a, a < h → g (p + a) = f (q + a) ∧ g (p + 7 + a) = f (q + (7 + a)) ∧ g (p + 14 + a) = f (q + (14 + a)) ∧ g (p + 21 + a) = f (q + (21 + a)) ∧ g (p + 28 + a) = oN (pr a)
theorem rw_put {h p q : Nat} {g f c : hF} {σ : hS} {pr : Nat → Option Nat} (h7 : h ≤ 7) (hp : pRow g p σ) (hc : cEq h σ c pr) (hf : ∀ j, j < 37 → f (q + j) = c j) : rwEq h g p f q := by
  obtain ⟨r1, r2, r3, r4⟩ := hp
  obtain ⟨c1, c2, c3, c4, c5⟩ := hc
  refine ⟨pr, rwOK_congr h7 hf c1, by rw [r2]; exact c2, by rw [r3, hf 36 (by decide)]; exact c3, by rw [r4, hf 35 (by decide)]; exact c4, fun a ha => ?_⟩
  obtain ⟨q1, q2, q3, q4, q5⟩ := r1 a (by omega)
  rw [q1, q2, q3, q4, q5, hf a (by omega), hf (7 + a) (by omega), hf (14 + a) (by omega), hf (21 + a) (by omega)]
  exact c5 a ha
theorem rw_get {h p q : Nat} {g f c : hF} {σ : hS} (h7 : h ≤ 7) (hp : pRow g p σ) (hc : rwEq h g p f q) (hf : ∀ j, j < 37 → c j = f (q + j)) : ∃ pr, cEq h σ c pr := by
  obtain ⟨r1, r2, r3, r4⟩ := hp
  obtain ⟨pr, c1, c2, c3, c4, c5⟩ := hc
  refine ⟨pr, rwOK_congr h7 hf c1, by rw [← r2]; exact c2, by rw [← r3, hf 36 (by decide)]; exact c3, by rw [← r4, hf 35 (by decide)]; exact c4, fun a ha => ?_⟩
  obtain ⟨q1, q2, q3, q4, q5⟩ := r1 a (by omega)
  rw [← q1, ← q2, ← q3, ← q4, ← q5, hf a (by omega), hf (7 + a) (by omega), hf (14 + a) (by omega), hf (21 + a) (by omega)]
  exact c5 a ha
theorem rwEq_of {h p q : Nat} {g g' f f' : hF} (h7 : h ≤ 7) (hc : rwEq h g p f q) (hg : ∀ j, j < 38 → g' (p + j) = g (p + j)) (hf : ∀ j, j < 37 → f' (q + j) = f (q + j)) : rwEq h g' p f' q := by
  obtain ⟨pr, c1, c2, c3, c4, c5⟩ := hc
  refine ⟨pr, rwOK_congr h7 hf c1, by rw [hg 35 (by decide)]; exact c2, by rw [hg 36 (by decide), hf 36 (by decide)]; exact c3, by rw [hg 37 (by decide), hf 35 (by decide)]; exact c4, fun a ha => ?_⟩
  rw [hg a (by omega), Nat.add_assoc p 7 a, hg (7 + a) (by omega), Nat.add_assoc p 14 a, hg (14 + a) (by omega), Nat.add_assoc p 21 a, hg (21 + a) (by omega), Nat.add_assoc p 28 a, hg (28 + a) (by omega), hf a (by omega), hf (7 + a) (by omega), hf (14 + a) (by omega), hf (21 + a) (by omega)]
  have := c5 a ha
  rw [Nat.add_assoc p 7 a, Nat.add_assoc p 14 a, Nat.add_assoc p 21 a, Nat.add_assoc p 28 a] at this
  exact this
/-- what is moved to another place -/
theorem rwEq_mv {h p q q' : Nat} {g f f' : hF} (h7 : h ≤ 7) (hc : rwEq h g p f q) (hf : ∀ j, j < 37 → f' (q' + j) = f (q + j)) : rwEq h g p f' q' := by
  obtain ⟨pr, c1, c2, c3, c4, c5⟩ := hc
  refine ⟨pr, rwOK_congr h7 hf c1, c2, by rw [hf 36 (by decide)]; exact c3, by rw [hf 35 (by decide)]; exact c4, fun a ha => ?_⟩
  rw [hf a (by omega), hf (7 + a) (by omega), hf (14 + a) (by omega), hf (21 + a) (by omega)]
  exact c5 a ha
theorem rLw_e {σ σ' : hS} {L : Nat} {LF : Nat → hF → Int32} (h : rLw σ L LF) (e : ∀ c, c ∈ [86, 87, 88, 89, 90, 91, 92, 93, 94] → σ' c = σ c) : rLw σ' L LF := by
  refine rLw_of h (fun k hk => ?_) (fun j _ _ => ?_) (fun j _ _ => ?_)
  · rw [e 86 (by decide), e 87 (by decide)]; exact ⟨rfl, rfl⟩
  · rw [e 88 (by decide), e 89 (by decide), e 90 (by decide), e 91 (by decide), e 92 (by decide)]; exact ⟨rfl, rfl, rfl, rfl, rfl⟩
  · rw [e 93 (by decide), e 94 (by decide)]; exact ⟨rfl, rfl⟩
section S9m
variable (σ σ1 : hS)
def rT1 (h sz L : Nat) (LF : Nat → hF → Int32) : Prop := okC σ h sz ∧ okT σ1 L h LF ∧ tEq (twC σ h sz) (twM σ1 L h LF) ∧ σ 38 8 = σ1 80 L ∧ σ 38 12 = σ1 85 L ∧ rLw σ1 L LF
def rMo (h L : Nat) : Prop := ∃ (mo : Nat) (sp : Nat → Nat), σ 38 9 = nI mo ∧ σ1 81 L = nI mo ∧ mo ≤ 5 ∧ ∀ i, i < mo → σ 44 i = nI (sp i) ∧ σ1 82 (5 * L + i) = nI (sp i) ∧ sp i < 2 ^ h
def rHd (h L : Nat) (hd fe u : Nat → Nat) : Prop := ∀ a, a < h → (σ 43 a = nI (hd a) ∧ σ1 79 (7 * L + a) = nI (hd a) ∧ hd a < 128) ∧ (σ 42 a = nI (fe a) ∧ σ1 78 (7 * L + a) = nI (fe a) ∧ fe a ≤ 9) ∧ (σ 41 a = nI (u a) ∧ σ1 77 (7 * L + a) = nI (u a) ∧ u a ≤ 9)
def rPa (h : Nat) : Prop := ∃ o nn, okK σ o nn ∧ σ1 64 57 = nI nn ∧ ∀ j, j < nn → rwEq h (σ 18) ((o + j) % 40 * 38) (σ1 103) (37 * j)
def rHl (h : Nat) : Prop := ∀ s, s < 3 → σ 20 s = σ1 107 s ∧ (¬ σ 20 s = 0 → rwEq h (σ 19) (s * 38) (σ1 108) (37 * s))
def rTo : Prop := ∃ (td : Nat) (th : Nat → Nat) (ta : hF), σ 35 2 = nI td ∧ σ1 64 61 = nI td ∧ td ≤ 20 ∧ fTold σ td th ta ∧ fToldM σ1 td th ta
def rTp : Prop := ∃ n, σ 1 1 = nI n ∧ σ1 64 2 = nI n ∧ n ≤ 2000 ∧ ∀ i, i < n → σ1 65 i = σ 2 i ∧ vp_nar .byte (σ 2 i) = σ 2 i
def rKy (τ : hT) : Prop := ∀ k, k < 23 → τ 71 k = lN (keyW k)
def R2 (τ : hT) (h sz L : Nat) (LF : Nat → hF → Int32) (pr : Nat → Option Nat) : Prop := rT1 σ σ1 h sz L LF ∧ rMo σ σ1 h L ∧ (∃ hd fe u, rHd σ σ1 h L hd fe u) ∧ cEq h σ (σ1 98) pr ∧ rPa σ σ1 h ∧ rHl σ σ1 h ∧ rTo σ σ1 ∧ rTp σ σ1 ∧ σ 0 11 = σ1 64 17 ∧ rKy τ
end S9m
def Rel (σ : hS) (τ : hT) : Prop := ∃ h sz L LF pr, R2 σ σ τ h sz L LF pr
abbrev dCc : List Nat := [0, 1, 2, 11, 12, 13, 14, 15, 16, 17, 18, 19, 20, 35, 36, 37, 38, 41, 42, 43, 44, 45, 46, 47, 48]
abbrev dCr : List Nat := [65, 74, 77, 78, 79, 80, 81, 82, 84, 85, 86, 87, 88, 89, 90, 91, 92, 93, 94, 98, 103, 105, 106, 107, 108]
section S9m2
variable {σ σ1 σ' : hS} {τ τ' : hT} {h sz L : Nat} {LF : Nat → hF → Int32} {pr : Nat → Option Nat}
theorem R2_c (hR : R2 σ σ1 τ h sz L LF pr) (e : ∀ c, c ∈ dCc → σ' c = σ c) : R2 σ' σ1 τ h sz L LF pr := by
  unfold R2 rT1 rMo rHd cEq rPa rHl rTo rTp okC twC okK fTold at *
  rw [e 0 (by decide), e 1 (by decide), e 2 (by decide), e 11 (by decide), e 12 (by decide), e 13 (by decide), e 14 (by decide), e 15 (by decide), e 16 (by decide), e 17 (by decide), e 18 (by decide), e 19 (by decide), e 20 (by decide), e 35 (by decide), e 36 (by decide), e 37 (by decide), e 38 (by decide), e 41 (by decide), e 42 (by decide), e 43 (by decide), e 44 (by decide), e 45 (by decide), e 46 (by decide), e 47 (by decide), e 48 (by decide)]
  exact hR
theorem okT_r {σ σ' : hS} {L h : Nat} {LF : Nat → hF → Int32} (hT : okT σ L h LF) (e : ∀ c, c ∈ dCr → σ' c = σ c) (k : σ' 64 18 = σ 64 18) : okT σ' L h LF := by
  unfold okT okL okM at *
  rw [k, e 74 (by decide), e 86 (by decide), e 87 (by decide), e 88 (by decide), e 89 (by decide), e 90 (by decide), e 91 (by decide), e 92 (by decide), e 93 (by decide), e 94 (by decide)]
  exact hT
theorem R2_r (hR : R2 σ σ1 τ h sz L LF pr) (e : ∀ c, c ∈ dCr → σ' c = σ1 c) (k : ∀ j, j ∈ [2, 17, 18, 57, 61] → σ' 64 j = σ1 64 j) (ht : τ' 71 = τ 71) : R2 σ σ' τ' h sz L LF pr := by
  obtain ⟨⟨a1, a2, a3, a4, a5, a6⟩, r2, r3, r4, r5, r6, r7, r8, r9, r10⟩ := hR
  refine ⟨⟨a1, okT_r a2 e (k 18 (by decide)), ?_, ?_, ?_, rLw_e a6 (fun c hc => e c (by revert c; decide))⟩, ?_, ?_, ?_, ?_, ?_, ?_, ?_, ?_, ?_⟩
  · unfold twM at *; rw [e 77 (by decide), e 78 (by decide), e 79 (by decide), e 84 (by decide)]; exact a3
  · rw [e 80 (by decide)]; exact a4
  · rw [e 85 (by decide)]; exact a5
  · unfold rMo at *; rw [e 81 (by decide), e 82 (by decide)]; exact r2
  · unfold rHd at *; rw [e 77 (by decide), e 78 (by decide), e 79 (by decide)]; exact r3
  · rw [e 98 (by decide)]; exact r4
  · unfold rPa at *; rw [k 57 (by decide), e 103 (by decide)]; exact r5
  · unfold rHl at *; rw [e 107 (by decide), e 108 (by decide)]; exact r6
  · unfold rTo fToldM at *; rw [k 61 (by decide), e 105 (by decide), e 106 (by decide)]; exact r7
  · unfold rTp at *; rw [k 2 (by decide), e 65 (by decide)]; exact r8
  · rw [k 17 (by decide)]; exact r9
  · unfold rKy at *; rw [ht]; exact r10
end S9m2

