section S9i
variable (K V : Nat → Nat)
theorem ifX_len (a : Nat) (h : a ≤ 400) (hk : K a = 11) : okG K a (fun a' b => a + 7 ≤ a' ∧ brl b + a ≤ a') (ifX K V a) := by
  unfold ifX
  refine okG_bd K (okG_pass K h (by rw [hk]; decide)) (fun a1 _ _ l1 e1 => ?_)
  subst e1
  refine okG_bd K (eX_ok2 K V _ l1) (fun a2 c1 _ l2 q2 => ?_)
  refine okG_bd K (tk_ok2 K l2 (by decide)) (fun a3 _ _ l3 q3 => ?_)
  refine okG_bd K (eX_ok2 K V _ l3) (fun a4 c2 _ l4 q4 => ?_)
  refine okG_bd K (tk_ok2 K l4 (by decide)) (fun a5 _ _ l5 q5 => ?_)
  refine okG_bd K (eX_ok2 K V _ l5) (fun a6 c3 _ l6 q6 => ?_)
  refine okG_bd K (tk_ok2 K l6 (by decide)) (fun a7 _ _ l7 q7 => ⟨Nat.le_refl _, l7, fun j j1 j2 => absurd j2 (by omega), ?_⟩)
  have h1 := q2.2.1; have h2 := q3.1; have h3 := q4.2.1; have h4 := q5.1; have h5 := q6.2.1; have h6 := q7.1
  have g1 := q2.2.2.2; have g2 := q4.2.2.2; have g3 := q6.2.2.2
  refine ⟨by omega, ?_⟩
  show c1.length + c2.length + c3.length + a ≤ a7
  omega
theorem ifsX_len : ∀ k s bs, s ≤ 400 → okG K s (fun a bs' => 4 * bs'.length + s ≤ a + 4 * bs.length ∧ brls bs' + s ≤ a + brls bs) (ifsX K V k s bs)
  | 0, s, bs, h => by
    unfold ifsX
    split
    · exact okG_f K h (Or.inr rfl)
    · exact ⟨Nat.le_refl _, h, fun j j1 j2 => absurd j2 (by omega), by omega, by omega⟩
  | k + 1, s, bs, h => by
    unfold ifsX
    split
    · rename_i c
      refine okG_bd K (ifX_len K V s h c) (fun a b _ l1 q1 => ?_)
      refine okG_mono K (ifsX_len k a (bs ++ [b]) l1) (fun a' bs' _ _ q => ?_)
      have := brls_app bs b
      have e : (bs ++ [b]).length = bs.length + 1 := by simp
      rw [this, e] at q
      omega
    · exact ⟨Nat.le_refl _, h, fun j j1 j2 => absurd j2 (by omega), by omega, by omega⟩
theorem lawX_len (a : Nat) (h : a ≤ 400) : okG K a (fun a' l => 4 * (l.1.length + 1) + a ≤ a' + 1 ∧ brls l.1 + l.2.length + a ≤ a') (lawX K V a) := by
  unfold lawX
  refine okG_bd K (tk_ok2 K h (by decide)) (fun a1 _ _ l1 q1 => ?_)
  refine okG_bd K (ifsX_len K V 4 a1 [] l1) (fun a2 bs _ l2 q2 => ?_)
  refine okG_bd K (eX_ok2 K V a2 l2) (fun a3 c _ l3 q3 => ?_)
  refine okG_bd K (okG_tk K l3 (by decide)) (fun a4 _ _ l4 q4 => ⟨Nat.le_refl _, l4, fun j j1 j2 => absurd j2 (by omega), ?_⟩)
  have h1 := q1.1; have h2 := q2.1; have h22 := q2.2; have h3 := q3.2.1; have h4 := q4.1; have h5 := q3.2.2.2
  have e0 : brls [] = 0 := rfl
  have e1 : ([] : List hBr).length = 0 := rfl
  rw [e0] at h22
  rw [e1] at h2
  refine ⟨?_, ?_⟩
  · show 4 * (bs.length + 1) + a ≤ a4 + 1
    omega
  · show brls bs + c.length + a ≤ a4
    omega
end S9i
/-- rows of a side: cell and width -/
abbrev rowW : List (Nat × Nat) := [(74, 1), (80, 1), (81, 1), (83, 1), (84, 1), (85, 1), (75, 7), (76, 7), (77, 7), (78, 7), (79, 7), (82, 5), (86, 5), (87, 5), (88, 130), (89, 130), (90, 130), (91, 130), (92, 130), (93, 420), (94, 420)]
/-- the other side is kept -/
def hlf (L : Nat) (σ σ' : hS) : Prop := ∀ c w, (c, w) ∈ rowW → ∀ j, j < w * L ∨ w * L + w ≤ j → σ' c j = σ c j
theorem hlf_rf {L : Nat} {σ : hS} : hlf L σ σ := fun _ _ _ _ _ => rfl
theorem hlf_tr {L : Nat} {σ σ1 σ2 : hS} (h1 : hlf L σ σ1) (h2 : hlf L σ1 σ2) : hlf L σ σ2 := fun c w hm j hj => (h2 c w hm j hj).trans (h1 c w hm j hj)
theorem hlf_off {X : List Nat} {L : Nat} {σ σ' : hS} (h : ∀ k, k ∉ X → σ' k = σ k) (hX : rowW.all (fun q => !X.contains q.1) = true) : hlf L σ σ' := by
  intro c w hm j _
  have := List.all_eq_true.mp hX (c, w) hm
  rw [h c (by simpa using this)]
theorem hlf_64 {L : Nat} {σ σ' : hS} (h : ∀ k, k ∉ [64] → σ' k = σ k) : hlf L σ σ' := hlf_off h (by decide)
/-- what the tables of a side say -/
def mTab (L : Nat) (S : hSm) (σ : hS) : Prop := (∀ i, i < sH S → σ 75 (7 * L + i) = nI (sFi S i) ∧ σ 76 (7 * L + i) = nI (sCo S i) ∧ σ 77 (7 * L + i) = nI (sHu S i) ∧ σ 78 (7 * L + i) = nI (sFe S i) ∧ σ 79 (7 * L + i) = nI (sHe S i)) ∧ (∀ i, sH S ≤ i → i < 7 → σ 79 (7 * L + i) = 0) ∧ (∀ j, j < sM S → σ 82 (5 * L + j) = nI (sSu S j)) ∧ σ 83 L = nI (sSa S) ∧ σ 84 L = nI (sOd S) ∧ σ 85 L = nI (sSe S)
theorem mTab_of {X : List Nat} {L : Nat} {S : hSm} {σ σ' : hS} (h : mTab L S σ) (hσ : ∀ k, k ∉ X → σ' k = σ k) (hX : hdj X [75, 76, 77, 78, 79, 82, 83, 84, 85] = true) : mTab L S σ' := by
  have e := hdj_at hσ hX
  unfold mTab
  rw [e 75 (by simp), e 76 (by simp), e 77 (by simp), e 78 (by simp), e 79 (by simp), e 82 (by simp), e 83 (by simp), e 84 (by simp), e 85 (by simp)]
  exact h
def lwO (L b0 p0 j : Nat) : Option hLw → hS → Prop
  | none, σ => σ 86 j = 0 ∧ σ 87 j = 0
  | some l, σ => ∃ b p, 130 * L ≤ b ∧ b + l.1.length + 1 ≤ b0 ∧ 420 * L ≤ p ∧ p + brls l.1 + l.2.length ≤ p0 ∧ σ 86 j = nI b ∧ σ 87 j = nI (b + l.1.length + 1) ∧ lwTab σ b p l ∧ okLw l
/-- the laws told so far -/
def lwI (L a : Nat) (Ls : hLs) (σ : hS) : Prop := ∃ b0 p0, σ 64 37 = nI (130 * L + b0) ∧ σ 64 43 = nI (420 * L + p0) ∧ σ 64 12 = 0 ∧ 4 * b0 ≤ a ∧ p0 ≤ a ∧ ∀ k, k < 5 → lwO L (130 * L + b0) (420 * L + p0) (5 * L + k) (Ls k) σ
theorem lwTab_ext {σ σ' : hS} {b p m q : Nat} {l : hLw} (h : lwTab σ b p l) (hb : b + l.1.length + 1 ≤ m) (hp : p + brls l.1 + l.2.length ≤ q) (ht : ∀ j, j < m → σ' 88 j = σ 88 j ∧ σ' 89 j = σ 89 j ∧ σ' 90 j = σ 90 j ∧ σ' 91 j = σ 91 j ∧ σ' 92 j = σ 92 j) (hc : ∀ j, j < q → σ' 93 j = σ 93 j ∧ σ' 94 j = σ 94 j) : lwTab σ' b p l := by
  obtain ⟨h1, h2, h3, h4, h5⟩ := h
  obtain ⟨t1, -, -, t4, t5⟩ := ht (b + l.1.length) (by omega)
  exact ⟨bsTab_ext h1 (by omega) (by omega) ht hc, t1.trans h2, t4.trans h3, t5.trans h4, cdAt_ext _ _ q hp (fun i hi => (hc i hi).1) (fun i hi => (hc i hi).2) h5⟩
theorem lwO_ext {L b0 p0 b1 p1 j : Nat} {o : Option hLw} {σ σ' : hS} (h : lwO L b0 p0 j o σ) (hb : b0 ≤ b1) (hp : p0 ≤ p1) (h6 : σ' 86 j = σ 86 j) (h7 : σ' 87 j = σ 87 j) (ht : ∀ j, j < b0 → σ' 88 j = σ 88 j ∧ σ' 89 j = σ 89 j ∧ σ' 90 j = σ 90 j ∧ σ' 91 j = σ 91 j ∧ σ' 92 j = σ 92 j) (hc : ∀ j, j < p0 → σ' 93 j = σ 93 j ∧ σ' 94 j = σ 94 j) : lwO L b1 p1 j o σ' := by
  rcases o with _ | l
  · exact ⟨h6.trans h.1, h7.trans h.2⟩
  · obtain ⟨b, p, q1, q2, q3, q4, q5, q6, q7, q8⟩ := h
    exact ⟨b, p, q1, by omega, q3, by omega, h6.trans q5, h7.trans q6, lwTab_ext q7 q2 q4 ht hc, q8⟩
theorem hdj_n {X Y : List Nat} (h : hdj X Y = true) {c : Nat} (hc : c ∈ Y) : c ∉ X := by
  have := List.all_eq_true.mp h c hc
  simpa using this
theorem lwI_of {X Y : List Nat} {L a a' : Nat} {Ls : hLs} {σ σ' : hS} (h : lwI L a Ls σ) (ha : a ≤ a') (hσ : ∀ k, k ∉ X → σ' k = σ k) (hX : hdj X [86, 87, 88, 89, 90, 91, 92, 93, 94] = true) (hk : kM Y σ σ') (hY : hdj Y [12, 37, 43] = true) : lwI L a' Ls σ' := by
  have e := hdj_at hσ hX
  have e2 := fun j hj => hk j (hdj_n hY hj)
  obtain ⟨b0, p0, h1, h2, h3, h4, h5, h6⟩ := h
  refine ⟨b0, p0, by rw [e2 37 (by simp)]; exact h1, by rw [e2 43 (by simp)]; exact h2, by rw [e2 12 (by simp)]; exact h3, by omega, by omega, fun k hk => ?_⟩
  refine lwO_ext (h6 k hk) (Nat.le_refl _) (Nat.le_refl _) (by rw [e 86 (by simp)]) (by rw [e 87 (by simp)]) (fun j _ => ?_) (fun j _ => ?_)
  · rw [e 88 (by simp), e 89 (by simp), e 90 (by simp), e 91 (by simp), e 92 (by simp)]; exact ⟨rfl, rfl, rfl, rfl, rfl⟩
  · rw [e 93 (by simp), e 94 (by simp)]; exact ⟨rfl, rfl⟩
theorem lwI_law {f : hF} {n L a a' k b0 p0 : Nat} {Ls : hLs} {l : hLw} {σ σ' : hS} (h37 : σ 64 37 = nI (130 * L + b0)) (h4 : 4 * b0 ≤ a) (h5 : p0 ≤ a) (h6 : ∀ k, k < 5 → lwO L (130 * L + b0) (420 * L + p0) (5 * L + k) (Ls k) σ) (hok : okLw l) (hl1 : 4 * (l.1.length + 1) + a ≤ a') (hl2 : brls l.1 + l.2.length + a ≤ a') (hp : pLwM f n k L (130 * L + b0) (420 * L + p0) (130 * L + 130) (420 * L + 420) (.inr (a', l)) σ σ') : lwI L a' (setL Ls (some (k, l))) σ' := by
  obtain ⟨-, c1, t1, -, e86, e87, e37, e43, e12, tb⟩ := hp
  refine ⟨b0 + l.1.length + 1, p0 + brls l.1 + l.2.length, by rw [e37]; exact congrArg nI (by omega), by rw [e43]; exact congrArg nI (by omega), e12, by omega, by omega, fun j hj => ?_⟩
  by_cases e : j = k
  · subst e
    rw [show setL Ls (some (j, l)) j = some l from if_pos rfl]
    exact ⟨130 * L + b0, 420 * L + p0, by omega, by omega, by omega, by omega, by rw [e86, pk_us], by rw [e87, pk_us], tb, hok⟩
  · rw [show setL Ls (some (k, l)) j = Ls j from if_neg e]
    exact lwO_ext (h6 j hj) (by omega) (by omega) (by rw [e86, pk_un (by omega)]) (by rw [e87, pk_un (by omega)]) (fun j hj => t1 j (Or.inl hj)) (fun j hj => c1 j (Or.inl hj))
/-- what the text has come to mean, behind a TELL -/
def stX (K V D : Nat → Nat) (X : Sum (Nat × Nat) hSm) (s e : Nat) : Sum (Nat × Nat) hSm := match X with
  | .inl x => .inl x
  | .inr S => smTell K V D S s e
def smI (f : hF) (n L h r m a : Nat) (dT : Nat → Nat) (ix : Nat → Option Nat) : Sum (Nat × Nat) hSm → hS → Prop
  | .inl e, σ => wSt f n (some e) σ ∧ e.2 < a
  | .inr S, σ => wSt f n none σ ∧ nmS (dg f n) h m dT ix S ∧ sR S = r ∧ okS S ∧ mTab L S σ
/-- how the reference stands between two TELLs -/
def rdI (f : hF) (n L h r m a : Nat) (X : Sum (Nat × Nat) hSm) (Ls : hLs) (σ : hS) (τ : hT) : Prop := (σ 64 19 = nI L ∧ σ 74 L = nI h ∧ σ 80 L = nI r ∧ σ 81 L = nI m ∧ r ≤ 16) ∧ (∃ dT ix, nmM h m dT ix σ τ ∧ smI f n L h r m a dT ix X σ) ∧ lwI L a Ls σ
theorem smI_w {f : hF} {n L h r m a : Nat} {dT : Nat → Nat} {ix : Nat → Option Nat} {X : Sum (Nat × Nat) hSm} {σ : hS} (hI : smI f n L h r m a dT ix X σ) : wSt f n (lft X) σ := by
  rcases X with e | S
  · exact hI.1
  · exact hI.1
theorem smI_b {f : hF} {n L h r m a b : Nat} {u : Unit} {dT : Nat → Nat} {ix : Nat → Option Nat} {X : Sum (Nat × Nat) hSm} {σ : hS} (hI : smI f n L h r m a dT ix X σ) (hb : a ≤ b) : bef (.inr (b, u)) (lft X) := by
  intro k t q a' u' q2
  cases q2
  rcases X with e | S
  · cases q; have := hI.2; dsimp only at this; omega
  · cases q
theorem smI_in {f : hF} {n L h r m s e : Nat} {dT : Nat → Nat} {ix : Nat → Option Nat} {l : Option (Nat × hLw)} {X : Sum (Nat × Nat) hSm} {σ σ' : hS} {h' r' m' : Nat} {dT' : Nat → Nat} {ix' : Nat → Option Nat} (hI : smI f n L h r m s dT ix X σ) (hp : tlP (kd f n) s e l) (hw : wSt f n (lft (stX (kd f n) (vl f n) (dg f n) X s e)) σ') (hS : ∀ S S', X = .inr S → smTell (kd f n) (vl f n) (dg f n) S s e = .inr S' → nmS (dg f n) h' m' dT' ix' S' ∧ sR S' = r' ∧ okS S' ∧ mTab L S' σ') : smI f n L h' r' m' e dT' ix' (stX (kd f n) (vl f n) (dg f n) X s e) σ' := by
  rcases X with x | S
  · refine ⟨hw, ?_⟩
    have := hI.2
    have := hp.1
    omega
  · rcases hsm : smTell (kd f n) (vl f n) (dg f n) S s e with ⟨q, t⟩ | S'
    · have hst : stX (kd f n) (vl f n) (dg f n) (.inr S) s e = .inl (q, t) := hsm
      rw [hst] at hw ⊢
      exact ⟨hw, (smTell_tok hp hsm).2.1⟩
    · have hst : stX (kd f n) (vl f n) (dg f n) (.inr S) s e = .inr S' := hsm
      rw [hst] at hw ⊢
      exact ⟨hw, hS S S' rfl hsm⟩

