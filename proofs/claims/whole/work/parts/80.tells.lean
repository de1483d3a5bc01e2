section S80
variable (K V : Nat → Nat)
/-- from s to a nothing ends -/
def clP (s a : Nat) : Prop := s ≤ a ∧ cln K s a
theorem clP_rf (s : Nat) : clP K s s := ⟨Nat.le_refl _, fun j j1 j2 => absurd j2 (by omega)⟩
theorem clP_tr {s a b : Nat} (h : clP K s a) (h2 : clP K a b) : clP K s b := ⟨Nat.le_trans h.1 h2.1, fun j j1 j2 => if c : j < a then h.2 j j1 c else h2.2 j (by omega) j2⟩
theorem clP_1 {s : Nat} (hK : K s ≠ 25 ∧ K s ≠ 26 ∧ K s ≠ 27) : clP K s (s + 1) := ⟨by omega, cln_1 K hK⟩
theorem eX_ok2 (a : Nat) (h : a ≤ 400) : okG K a (fun a' c => clP K a a' ∧ a < a' ∧ okE c ∧ c.length ≤ a' - a) (eX K V a) :=
  okG_mono K (eX_ok K V a h) (fun a' c h1 _ q => ⟨⟨h1, q.1.2.1⟩, q.1.1, fun z hz => q.1.2.2.2 z hz, q.1.2.2.1⟩)
theorem tk_ok2 {k a : Nat} (h : a ≤ 400) (hk : k ≠ 25 ∧ k ≠ 26 ∧ k ≠ 27) : okG K a (fun a' _ => a' = a + 1 ∧ K a = k ∧ clP K a a') (tk K k a) :=
  okG_mono K (okG_tk K h ⟨hk.1, hk.2.1⟩) (fun a' c _ _ q => ⟨q.1, q.2, by rw [q.1]; exact clP_1 K (by rw [q.2]; exact hk)⟩)
def okBr (b : hBr) : Prop := okE b.1 ∧ okE b.2.1 ∧ okE b.2.2
def okLw (l : hLw) : Prop := (∀ b, b ∈ l.1 → okBr b) ∧ okE l.2
theorem ifX_ok (a : Nat) (h : a ≤ 400) (hk : K a = 11) : okG K a (fun a' b => clP K a a' ∧ a < a' ∧ okBr b) (ifX K V a) := by
  unfold ifX
  refine okG_bd K (okG_pass K h (by rw [hk]; decide)) (fun a1 _ _ l1 e1 => ?_)
  subst e1
  refine okG_bd K (eX_ok2 K V _ l1) (fun a2 c1 _ l2 q2 => ?_)
  refine okG_bd K (tk_ok2 K l2 (by decide)) (fun a3 _ _ l3 q3 => ?_)
  refine okG_bd K (eX_ok2 K V _ l3) (fun a4 c2 _ l4 q4 => ?_)
  refine okG_bd K (tk_ok2 K l4 (by decide)) (fun a5 _ _ l5 q5 => ?_)
  refine okG_bd K (eX_ok2 K V _ l5) (fun a6 c3 _ l6 q6 => ?_)
  refine okG_mono K (okG_bd K (Q := fun a' (b : hBr) => clP K a6 a' ∧ b = (c1, c2, c3)) (tk_ok2 K l6 (by decide)) (fun a7 _ _ l7 q7 => ⟨Nat.le_refl _, l7, fun j j1 j2 => absurd j2 (by omega), q7.2.2, rfl⟩)) (fun a' b _ _ q => ?_)
  obtain ⟨q8, rfl⟩ := q
  exact ⟨clP_tr K (clP_1 K (by rw [hk]; decide)) (clP_tr K q2.1 (clP_tr K q3.2.2 (clP_tr K q4.1 (clP_tr K q5.2.2 (clP_tr K q6.1 q8))))), by have h1 := q2.2.1; have h2 := q3.2.2.1; have h3 := q4.1.1; have h4 := q5.2.2.1; have h5 := q6.1.1; have h6 := q8.1; omega, q2.2.2.1, q4.2.2.1, q6.2.2.1⟩
theorem ifsX_ok : ∀ k s bs, s ≤ 400 → (∀ b, b ∈ bs → okBr b) → okG K s (fun a bs' => clP K s a ∧ ∀ b, b ∈ bs' → okBr b) (ifsX K V k s bs)
  | 0, s, bs, h, hb => by
    unfold ifsX
    split
    · exact okG_f K h (Or.inr rfl)
    · exact ⟨Nat.le_refl _, h, fun j j1 j2 => absurd j2 (by omega), clP_rf K s, hb⟩
  | k + 1, s, bs, h, hb => by
    unfold ifsX
    split
    · rename_i c
      refine okG_bd K (ifX_ok K V s h c) (fun a b _ l1 q1 => ?_)
      refine okG_mono K (ifsX_ok k a (bs ++ [b]) l1 (fun d hd => ?_)) (fun a' bs' _ _ q => ⟨clP_tr K q1.1 q.1, q.2⟩)
      rcases List.mem_append.mp hd with hd | hd
      · exact hb d hd
      · rw [List.mem_singleton.mp hd]; exact q1.2.2
    · exact ⟨Nat.le_refl _, h, fun j j1 j2 => absurd j2 (by omega), clP_rf K s, hb⟩
/-- up to a ; -/
def upT (s a : Nat) : Prop := s < a ∧ K (a - 1) = 27 ∧ cln K s (a - 1)
theorem upT_of {s b a : Nat} (h : clP K s b) (h2 : a = b + 1 ∧ K b = 27) : upT K s a := by
  obtain ⟨rfl, h3⟩ := h2
  exact ⟨by have := h.1; omega, by rw [Nat.add_sub_cancel]; exact h3, by rw [Nat.add_sub_cancel]; exact h.2⟩
theorem lawX_ok (a : Nat) (h : a ≤ 400) : okG K a (fun a' l => upT K a a' ∧ okLw l) (lawX K V a) := by
  unfold lawX
  refine okG_bd K (tk_ok2 K h (by decide)) (fun a1 _ _ l1 q1 => ?_)
  refine okG_bd K (ifsX_ok K V 4 a1 [] l1 (fun b hb => absurd hb (by simp))) (fun a2 bs _ l2 q2 => ?_)
  refine okG_bd K (eX_ok2 K V a2 l2) (fun a3 c _ l3 q3 => ?_)
  refine okG_mono K (okG_bd K (Q := fun a' (b : hLw) => (a' = a3 + 1 ∧ K a3 = 27) ∧ b = (bs, c)) (okG_tk K l3 (by decide)) (fun a4 _ _ l4 q4 => ⟨Nat.le_refl _, l4, fun j j1 j2 => absurd j2 (by omega), q4, rfl⟩)) (fun a' b _ _ q => ?_)
  obtain ⟨q4, rfl⟩ := q
  exact ⟨upT_of K (clP_tr K q1.2.2 (clP_tr K q2.1 q3.1)) q4, q2.2, q3.2.2.1⟩
theorem nmsX_ok : ∀ k s, s ≤ 400 → 401 ≤ s + k → okG K s (fun a _ => clP K s a ∧ (∀ j, s ≤ j → j < a → K j = 23) ∧ K a ≠ 23) (nmsX K k s)
  | 0, s, h, hk => absurd hk (by omega)
  | k + 1, s, h, hk => by
    unfold nmsX
    split
    · rename_i c
      refine okG_bd K (okG_pass K h (by rw [c]; decide)) (fun a _ _ l1 e => ?_)
      subst e
      refine okG_mono K (nmsX_ok k (s + 1) l1 (by omega)) (fun a' u _ _ q => ⟨clP_tr K (clP_1 K (by rw [c]; decide)) q.1, fun j j1 j2 => if e : j = s then by rw [e]; exact c else q.2.1 j (by omega) j2, q.2.2⟩)
    · rename_i c
      exact ⟨Nat.le_refl _, h, fun j j1 j2 => absurd j2 (by omega), clP_rf K s, fun j j1 j2 => absurd j2 (by omega), c⟩
/-- how a TELL looks, from its word at s to behind its ; -/
def tlP (s a : Nat) (l : Option (Nat × hLw)) : Prop := s + 2 ≤ a ∧ upT K s a ∧ (K s = 0 → a = s + 7 ∧ K (s + 1) = 23 ∧ K (s + 2) = 24 ∧ K (s + 3) = 24 ∧ K (s + 4) = 24 ∧ K (s + 5) = 24) ∧ (K s = 1 → a = s + 4 ∧ K (s + 1) = 23 ∧ K (s + 2) = 23) ∧ (K s = 2 → s + 3 ≤ a ∧ K (s + 1) = 23 ∧ ∀ j, s + 2 ≤ j → j < a - 1 → K j = 23) ∧ (8 ≤ K s ∧ K s ≤ 10 → a = s + 3 ∧ K (s + 1) = 24) ∧ (∀ k l', l = some (k, l') → 3 ≤ K s ∧ K s ≤ 7 ∧ k = K s - 3 ∧ okLw l') ∧ (l = none → ¬ (3 ≤ K s ∧ K s ≤ 7)) ∧ K s ≤ 10
theorem okG_unit {α : Type} {s a : Nat} {P Q : Nat → α → Prop} {c : α} {r : hPR Unit} (h : okG K s (fun a _ => P a c) r) (hpq : ∀ a, s ≤ a → P a c → Q a c) : okG K s Q (bd r (fun a _ => .inr (a, c))) :=
  okG_bd K h (fun a' _ h1 h2 q => ⟨Nat.le_refl _, h2, fun j j1 j2 => absurd j2 (by omega), hpq a' h1 q⟩)
theorem tellX_ok (h r m s : Nat) (hs : s ≤ 400) : okG K s (tlP K s) (tellX K V h r m s) := by
  unfold tellX
  split
  · rename_i k0
    split
    · exact okG_f K hs (Or.inr rfl)
    · refine okG_bd K (okG_pass K hs (by rw [k0]; decide)) (fun a _ _ l0 e0 => ?_)
      subst e0
      refine okG_bd K (tk_ok2 K l0 (by decide)) (fun a1 _ _ l1 q1 => ?_)
      obtain ⟨rfl, q12, q13⟩ := q1
      unfold intsX
      rw [bd_assoc]
      refine okG_bd K (tk_ok2 K l1 (by decide)) (fun a2 _ _ l2 q2 => ?_)
      obtain ⟨rfl, q22, q23⟩ := q2
      unfold intsX
      rw [bd_assoc]
      refine okG_bd K (tk_ok2 K l2 (by decide)) (fun a3 _ _ l3 q3 => ?_)
      obtain ⟨rfl, q32, q33⟩ := q3
      unfold intsX
      rw [bd_assoc]
      refine okG_bd K (tk_ok2 K l3 (by decide)) (fun a4 _ _ l4 q4 => ?_)
      obtain ⟨rfl, q42, q43⟩ := q4
      unfold intsX
      rw [bd_assoc]
      refine okG_bd K (tk_ok2 K l4 (by decide)) (fun a5 _ _ l5 q5 => ?_)
      obtain ⟨rfl, q52, q53⟩ := q5
      unfold intsX
      rw [bd_inr]
      refine okG_bd K (okG_tk K l5 (by decide)) (fun a6 _ _ l6 q6 => ⟨Nat.le_refl _, l6, fun j j1 j2 => absurd j2 (by omega), ?_⟩)
      refine ⟨by omega, upT_of K (clP_tr K (clP_1 K (by rw [k0]; decide)) (clP_tr K q13 (clP_tr K q23 (clP_tr K q33 (clP_tr K q43 q53))))) q6, fun _ => ⟨by omega, q12, q22, q32, q42, q52⟩, fun q => absurd (k0.symm.trans q) (by decide), fun q => absurd (k0.symm.trans q) (by decide), fun q => absurd q.1 (by omega), fun k l' q => (nomatch q), fun _ q => by omega, by omega⟩
  · rename_i k0
    split
    · rename_i k1
      split
      · exact okG_f K hs (Or.inr rfl)
      · refine okG_bd K (okG_pass K hs (by rw [k1]; decide)) (fun a _ _ l0 e0 => ?_)
        subst e0
        refine okG_bd K (tk_ok2 K l0 (by decide)) (fun a1 _ _ l1 q1 => ?_)
        obtain ⟨rfl, q12, q13⟩ := q1
        refine okG_bd K (tk_ok2 K l1 (by decide)) (fun a2 _ _ l2 q2 => ?_)
        obtain ⟨rfl, q22, q23⟩ := q2
        refine okG_bd K (okG_tk K l2 (by decide)) (fun a6 _ _ l6 q6 => ⟨Nat.le_refl _, l6, fun j j1 j2 => absurd j2 (by omega), ?_⟩)
        refine ⟨by omega, upT_of K (clP_tr K (clP_1 K (by rw [k1]; decide)) (clP_tr K q13 q23)) q6, fun q => absurd q k0, fun _ => ⟨by omega, q12, q22⟩, fun q => absurd (k1.symm.trans q) (by decide), fun q => absurd q.1 (by omega), fun k l' q => (nomatch q), fun _ q => by omega, by omega⟩
    · rename_i k1
      split
      · rename_i k2
        split
        · exact okG_f K hs (Or.inr rfl)
        · refine okG_bd K (okG_pass K hs (by rw [k2]; decide)) (fun a _ _ l0 e0 => ?_)
          subst e0
          refine okG_bd K (tk_ok2 K l0 (by decide)) (fun a1 _ _ l1 q1 => ?_)
          obtain ⟨rfl, q12, q13⟩ := q1
          refine okG_bd K (nmsX_ok K 401 _ l1 (by omega)) (fun a2 _ _ l2 q2 => ?_)
          refine okG_bd K (okG_tk K l2 (by decide)) (fun a6 _ _ l6 q6 => ⟨Nat.le_refl _, l6, fun j j1 j2 => absurd j2 (by omega), ?_⟩)
          refine ⟨by have := q2.1.1; omega, upT_of K (clP_tr K (clP_1 K (by rw [k2]; decide)) (clP_tr K q13 q2.1)) q6, fun q => absurd q k0, fun q => absurd q k1, fun _ => ⟨by have := q2.1.1; omega, q12, fun j j1 j2 => q2.2.1 j (by omega) (by omega)⟩, fun q => absurd q.1 (by omega), fun k l' q => (nomatch q), fun _ q => by omega, by omega⟩
      · rename_i k2
        split
        · rename_i k3
          refine okG_bd K (okG_pass K hs ⟨by omega, by omega⟩) (fun a _ _ l0 e0 => ?_)
          subst e0
          refine okG_bd K (lawX_ok K V _ l0) (fun a1 l _ l1 q1 => ⟨Nat.le_refl _, l1, fun j j1 j2 => absurd j2 (by omega), ?_⟩)
          obtain ⟨⟨u1, u2, u3⟩, q2⟩ := q1
          exact ⟨by omega, ⟨by omega, u2, fun j j1 j2 => if e : j = s then by rw [e]; omega else u3 j (by omega) j2⟩, fun q => absurd q k0, fun q => absurd q k1, fun q => absurd q k2, fun q => absurd q.1 (by omega), fun k l' q => by cases q; exact ⟨k3.1, k3.2, rfl, q2⟩, fun q => (nomatch q), by omega⟩
        · rename_i k3
          split
          · rename_i k4
            refine okG_bd K (okG_pass K hs ⟨by omega, by omega⟩) (fun a _ _ l0 e0 => ?_)
            subst e0
            refine okG_bd K (tk_ok2 K l0 (by decide)) (fun a1 _ _ l1 q1 => ?_)
            obtain ⟨rfl, q12, q13⟩ := q1
            refine okG_bd K (okG_tk K l1 (by decide)) (fun a6 _ _ l6 q6 => ⟨Nat.le_refl _, l6, fun j j1 j2 => absurd j2 (by omega), ?_⟩)
            exact ⟨by omega, upT_of K (clP_tr K (clP_1 K (by omega)) q13) q6, fun q => absurd q k0, fun q => absurd q k1, fun q => absurd q k2, fun _ => ⟨by omega, q12⟩, fun k l' q => (nomatch q), fun _ => k3, by omega⟩
          · exact okG_f K hs (Or.inl rfl)
end S80

