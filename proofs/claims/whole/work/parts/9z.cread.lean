/-! read, of both -/
/-- the second half of a call -/
def sOK (md : hPo → hMe) (as : List Value) (G : hGl) (x y : Option Nat) (σ1 : hS) (τ1 : hT) (A : Int32) : Prop := ∃ PD : hPo, hCal G (md PD) (.ref (hgA G 64) :: as) shp (rr 38 51 x y) σ1 τ1 ∧ ∀ v' r2 σ2 τ2, PD v' r2 σ2 τ2 → v' = some (.int A) ∧ r2 = rr 38 51 x y ∧ Rel σ2 τ2
theorem hlf_l {l : Nat} {σ σ' : hS} (hl : l < 2) (h : hlf (1 - l) σ σ') {c w : Nat} (hm : (c, w) ∈ rowW) {j : Nat} (h1 : w * l ≤ j) (h2 : j < w * l + w) : σ' c j = σ c j := by
  refine h c w hm j ?_
  rcases (show l = 0 ∨ l = 1 by omega) with rfl | rfl
  · left; simp at h2 ⊢; exact h2
  · right; simp at h1 ⊢; exact h1
section S9z
variable {σ σ1 σ2 : hS} {τ τ2 : hT} {h sz l : Nat} {LF : Nat → hF → Int32} {pr : Nat → Option Nat}
/-- the side that lives is kept -/
theorem rd_keep (hR : R2 σ σ τ h sz l LF pr) (hl : l < 2) (eC : ∀ c, c ∈ [11, 12, 13, 14, 15, 16, 17, 18, 19, 20, 35, 36, 37, 38, 41, 42, 43, 44, 45, 46, 47, 48] → σ2 c = σ c) (eR : ∀ c, c ∈ [98, 103, 105, 106, 107, 108] → σ2 c = σ c) (hh : hlf (1 - l) σ σ2) (k : ∀ j, j ∈ [18, 57, 61] → σ2 64 j = σ 64 j) (ht : τ2 71 = τ 71) (hp : rTp σ2 σ2) (h0 : σ2 0 11 = σ2 64 17) : Rel σ2 τ2 := by
  obtain ⟨⟨a1, a2, a3, a4, a5, a6⟩, r2, r3, r4, r5, r6, r7, r8, r9, r10⟩ := hR
  have f1 : ∀ c, c ∈ [74, 80, 81, 84, 85] → σ2 c l = σ c l := fun c hc => hlf_l hl hh (w := 1) (by revert c; decide) (by omega) (by omega)
  have f7 : ∀ c, c ∈ [77, 78, 79] → ∀ a, a < 7 → σ2 c (7 * l + a) = σ c (7 * l + a) := fun c hc a ha => hlf_l hl hh (w := 7) (by revert c; decide) (by omega) (by omega)
  have h7 := a1.2.1
  have a6' : rLw σ2 l LF := by
    refine rLw_of a6 (fun k hk => ⟨?_, ?_⟩) (fun j j1 j2 => ⟨?_, ?_, ?_, ?_, ?_⟩) (fun j j1 j2 => ⟨?_, ?_⟩)
    · exact hlf_l hl hh (w := 5) (by decide) (by omega) (by omega)
    · exact hlf_l hl hh (w := 5) (by decide) (by omega) (by omega)
    · exact hlf_l hl hh (w := 130) (by decide) (by omega) (by omega)
    · exact hlf_l hl hh (w := 130) (by decide) (by omega) (by omega)
    · exact hlf_l hl hh (w := 130) (by decide) (by omega) (by omega)
    · exact hlf_l hl hh (w := 130) (by decide) (by omega) (by omega)
    · exact hlf_l hl hh (w := 130) (by decide) (by omega) (by omega)
    · exact hlf_l hl hh (w := 420) (by decide) (by omega) (by omega)
    · exact hlf_l hl hh (w := 420) (by decide) (by omega) (by omega)
  refine ⟨h, sz, l, LF, pr, ⟨?_, ⟨?_, hl, ?_, h7, rLw_okL hl a6'⟩, ?_, ?_, ?_, a6'⟩, ?_, ?_, ?_, ?_, ?_, ?_, hp, h0, ?_⟩
  · unfold okC at *; rw [eC 38 (by decide), eC 45 (by decide)]; exact a1
  · rw [k 18 (by decide)]; exact a2.1
  · rw [f1 74 (by decide)]; exact a2.2.2.1
  · obtain ⟨t1, t2, t3, t4, t5⟩ := a3
    refine ⟨t1, fun a ha => ?_, ?_, fun k v hk => ?_, fun k v w q => lvalC_ext _ _ _ q _ _ _⟩
    · have ha7 : a < 7 := by have : a < h := ha; omega
      obtain ⟨q1, q2, q3⟩ := t2 a ha
      refine ⟨?_, ?_, ?_⟩
      · show σ2 41 a = σ2 77 (7 * l + a)
        rw [eC 41 (by decide), f7 77 (by decide) a ha7]; exact q1
      · show σ2 42 a = σ2 78 (7 * l + a)
        rw [eC 42 (by decide), f7 78 (by decide) a ha7]; exact q2
      · show σ2 43 a = σ2 79 (7 * l + a)
        rw [eC 43 (by decide), f7 79 (by decide) a ha7]; exact q3
    · show σ2 38 11 = σ2 84 l
      rw [eC 38 (by decide), f1 84 (by decide)]; exact t3
    · show lvalC (σ2 46) (σ2 47) sz v sz (σ2 48 k) [] = LF k v
      rw [eC 46 (by decide), eC 47 (by decide), eC 48 (by decide)]; exact t4 k v hk
  · rw [eC 38 (by decide), f1 80 (by decide)]; exact a4
  · rw [eC 38 (by decide), f1 85 (by decide)]; exact a5
  · obtain ⟨mo, sp, m1, m2, m3, m4⟩ := r2
    refine ⟨mo, sp, by rw [eC 38 (by decide)]; exact m1, by rw [f1 81 (by decide)]; exact m2, m3, fun i hi => ?_⟩
    rw [eC 44 (by decide), hlf_l (σ' := σ2) hl hh (c := 82) (w := 5) (by decide) (by omega) (by omega)]
    exact m4 i hi
  · obtain ⟨hd, fe, u, hh'⟩ := r3
    refine ⟨hd, fe, u, fun a ha => ?_⟩
    rw [eC 41 (by decide), eC 42 (by decide), eC 43 (by decide), f7 77 (by decide) a (by omega), f7 78 (by decide) a (by omega), f7 79 (by decide) a (by omega)]
    exact hh' a ha
  · unfold cEq at *; rw [eC 11 (by decide), eC 12 (by decide), eC 13 (by decide), eC 14 (by decide), eC 15 (by decide), eC 16 (by decide), eR 98 (by decide)]; exact r4
  · unfold rPa okK at *; rw [eC 17 (by decide), eC 18 (by decide), k 57 (by decide), eR 103 (by decide)]; exact r5
  · exact rHl_of r6 (eC 19 (by decide)) (eC 20 (by decide)) (eR 107 (by decide)) (eR 108 (by decide))
  · exact rTo_of r7 (eC 35 (by decide)) (eC 36 (by decide)) (eC 37 (by decide)) (k 61 (by decide)) (eR 105 (by decide)) (eR 106 (by decide))
  · unfold rKy at *; rw [ht]; exact r10
end S9z
theorem q_read (G : hGl) (x y : Option Nat) (σ : hS) (τ : hT) (hRel : Rel σ τ) : ∃ PC : hPo, hCal G (m_X11_read PC) [.ref (hgA G 0)] shp (rr 38 51 x y) σ τ ∧ ∀ v r1 σ1 τ1, PC v r1 σ1 τ1 → ∃ A, v = some (.int A) ∧ ((∃ x1 y1, r1 = rr 38 51 x1 y1 ∧ sOK m_X12_read [] G x1 y1 σ1 τ1 A) ∨ ∃ x1 y1, r1 = rr 51 38 x1 y1 ∧ sOK m_X12_read [] (gP G) (x1.map pi) (y1.map pi) (pS σ1) (pS τ1) A) := by
  obtain ⟨h, sz, l, LF, pr, hR⟩ := hRel
  obtain ⟨n, t1, t2, t3, t4⟩ := hR.2.2.2.2.2.2.2.1
  obtain ⟨l1, l2, -⟩ := hR.1.2.1
  have hKy := hR.2.2.2.2.2.2.2.2.2
  refine ⟨_, c_read (f := σ 2) (n := n) rfl t1 t3, ?_⟩
  rintro v r1 σ1 τ1 ⟨rfl, rfl, o1, ⟨x1, y1, hr⟩, p1, p2⟩
  rcases hX : rdX (σ 2) n with ⟨z, t⟩ | ⟨Ls, S⟩
  · rw [hX] at hr p2
    obtain ⟨p3, p4⟩ := p2
    refine ⟨nI z, rfl, Or.inl ⟨x1, y1, hr, _, d_read (f := σ 2) (n := n) (l := l) (fun i hi => by rw [o1 65 (by decide), (t4 i hi).1]; exact (t4 i hi).2) (by rw [o1 64 (by decide)]; exact t2) t3 hKy (by rw [o1 64 (by decide)]; exact l1) l2 rfl, ?_⟩⟩
    rintro v' r2 σ2 τ2 ⟨rfl, rfl, o2, s1, s2, s3, s4⟩
    unfold pRm at s4
    rw [hX] at s4 ⊢
    obtain ⟨u1, u2, u3, u4, u5⟩ := s4
    have eC : ∀ c, c ∈ [11, 12, 13, 14, 15, 16, 17, 18, 19, 20, 35, 36, 37, 38, 41, 42, 43, 44, 45, 46, 47, 48] → σ2 c = σ c := fun c hc => (o2 c (by revert c; decide)).trans (by
      by_cases q : c ∈ [11, 12, 13, 14, 15, 16, 17, 20, 35]
      · exact p3 c q
      · exact o1 c (by revert c; decide))
    refine ⟨rfl, rfl, rd_keep hR l2 eC (fun c hc => ?_) ?_ (fun j hj => ?_) (s1 71 (by decide)) ⟨0, ?_, s3, by omega, fun i hi => absurd hi (Nat.not_lt_zero _)⟩ ?_⟩
    · rcases (show c = 98 ∨ c = 107 ∨ c ∈ [103, 105, 106, 108] by revert c; decide) with rfl | rfl | q
      · rw [u3]; exact o1 98 (by decide)
      · rw [u5]; exact o1 107 (by decide)
      · exact (o2 c (by revert c; decide)).trans (o1 c (by revert c; decide))
    · exact hlf_tr (hlf_off o1 (by decide)) s2
    · rw [u2 j (by revert j; decide), o1 64 (by decide)]
    · rw [o2 1 (by decide), p1, pk_us]; rfl
    · rw [o2 0 (by decide), p4, pk_us, u1]
  · rw [hX] at hr p2
    obtain ⟨p3, p4, p5, ⟨sz', p6, p7⟩, p8, p9, p10, p11, p12, p13, p14, p15⟩ := p2
    obtain ⟨⟨n1, n2, n3, n4, -, -⟩, c2, c3, c4, c5, c6, c7, c8⟩ := p4
    have hl' : 1 - l < 2 := by omega
    refine ⟨0, rfl, Or.inr ⟨x1, y1, hr, _, d_read (G := gP G) (σ := pS σ1) (f := σ 2) (n := n) (l := l) (fun i hi => by show vp_nar .byte (σ1 65 i) = σ 2 i; rw [o1 65 (by decide), (t4 i hi).1]; exact (t4 i hi).2) (by show σ1 64 2 = nI n; rw [o1 64 (by decide)]; exact t2) t3 hKy (by show σ1 64 18 = nI l; rw [o1 64 (by decide)]; exact l1) l2 rfl, ?_⟩⟩
    rintro v' r2 σ2 τ2 ⟨rfl, rfl, o2, s1, s2, s3, s4⟩
    unfold pRm at s4
    rw [hX] at s4 ⊢
    obtain ⟨u1, u2, u3, u4, u5, u6, ⟨w1, w2, w3⟩, w4, w5, w6, w7, w8, w9⟩ := s4
    have eC : ∀ c, c ∈ [0, 1, 11, 12, 13, 14, 15, 16, 17, 18, 19, 20, 35] → σ2 c = σ1 c := fun c hc => (o2 c (by revert c; decide)).trans (show σ1 (pi c) = σ1 c by rw [pi_lo (by revert c; decide)])
    have eT : ∀ c, c ∈ [38, 41, 42, 43, 44, 45, 46, 47, 48] → σ2 c = σ1 (c + 13) := fun c hc => (o2 c (by revert c; decide)).trans (show σ1 (pi c) = σ1 (c + 13) by rw [show pi c = c + 13 from if_pos (by revert c; decide)])
    have h7 := w4.1
    have hp7 : 2 ^ sH S ≤ 2 ^ 7 := Nat.pow_le_pow_right (by decide) h7
    obtain ⟨m1, m2, m3, m4, m5, m6⟩ := w5
    have e38 : σ2 38 = σ1 51 := eT 38 (by decide)
    have a6 : rLw σ2 (1 - l) (fun k v => lvalC (σ1 59) (σ1 60) sz' v sz' (σ1 61 k) []) := rLw_read p7 p6.2 w6
    refine ⟨rfl, rfl, sH S, sz', 1 - l, fun k v => lvalC (σ1 59) (σ1 60) sz' v sz' (σ1 61 k) [], fun _ => none, ⟨⟨?_, h7, ?_, p7⟩, ⟨u3, hl', w1, h7, rLw_okL hl' a6⟩, ⟨rfl, ?_, ?_, ?_, fun k v w q => lvalC_ext _ _ _ q _ _ _⟩, ?_, ?_, a6⟩, ?_, ?_, ?_, ?_, ?_, ?_, ?_, ?_, ?_⟩
    · rw [e38]; exact n1
    · rw [eT 45 (by decide)]; exact p6.1
    · intro a ha
      have ha' : a < sH S := ha
      obtain ⟨q1, q2, q3, q4, q5⟩ := c4 a ha'
      obtain ⟨g1, g2, g3, g4, g5⟩ := m1 a ha'
      refine ⟨?_, ?_, ?_⟩
      · show σ2 41 a = σ2 77 (7 * (1 - l) + a)
        rw [eT 41 (by decide), g3]; exact q3
      · show σ2 42 a = σ2 78 (7 * (1 - l) + a)
        rw [eT 42 (by decide), g4]; exact q4
      · show σ2 43 a = σ2 79 (7 * (1 - l) + a)
        rw [eT 43 (by decide), g5]; exact q5
    · show σ2 38 11 = σ2 84 (1 - l)
      rw [e38, m5]; exact c7
    · intro k v hk
      show lvalC (σ2 46) (σ2 47) sz' v sz' (σ2 48 k) [] = _
      rw [eT 46 (by decide), eT 47 (by decide), eT 48 (by decide)]
      rfl
    · rw [e38, w2]; exact c2
    · rw [e38, m6]; exact c8
    · refine ⟨sM S, sSu S, by rw [e38]; exact n3, w3, w4.2.2.1, fun i hi => ⟨?_, m3 i hi, w4.2.2.2.2.1 i hi⟩⟩
      rw [eT 44 (by decide)]; exact c5 i hi
    · refine ⟨sHe S, sFe S, sHu S, fun a ha => ?_⟩
      obtain ⟨q1, q2, q3, q4, q5⟩ := c4 a ha
      obtain ⟨g1, g2, g3, g4, g5⟩ := m1 a ha
      obtain ⟨b1, b2, b3, b4, b5⟩ := w4.2.2.2.1 a ha
      rw [eT 41 (by decide), eT 42 (by decide), eT 43 (by decide)]
      exact ⟨⟨q5, g5, by omega⟩, ⟨q4, g4, b4⟩, ⟨q3, g3, b3⟩⟩
    · have row : ∀ j, j < 37 → j ≠ 35 → σ2 98 j = bgR σ2 (1 - l) (sH S) 7 j := fun j hj hne => by rw [w8 j hj, w7 j hj, if_neg hne]
      have r0 : ∀ j, ¬ j < sH S → ¬ (7 ≤ j ∧ j < 7 + sH S) → ¬ (28 ≤ j ∧ j < 28 + 7) → bgR σ2 (1 - l) (sH S) 7 j = 0 := fun j h1 h2 h3 => by unfold bgR; rw [if_neg h1, if_neg h2, if_neg h3]
      have rf : ∀ a, a < sH S → σ2 98 a = nI (sFi S a) := fun a ha => by
        rw [row a (by omega) (by omega)]; unfold bgR; rw [if_pos ha]; exact (m1 a ha).1
      have rc : ∀ a, a < sH S → σ2 98 (7 + a) = nI (sCo S a) := fun a ha => by
        rw [row (7 + a) (by omega) (by omega)]; unfold bgR; rw [if_neg (by omega), if_pos (by omega), show 7 + a - 7 = a by omega]; exact (m1 a ha).2.1
      have rz : ∀ j, j < 37 → j ≠ 35 → ¬ j < sH S → ¬ (7 ≤ j ∧ j < 7 + sH S) → ¬ (28 ≤ j ∧ j < 28 + 7) → σ2 98 j = 0 := fun j hj hn h1 h2 h3 => by rw [row j hj hn]; exact r0 j h1 h2 h3
      have rp : ∀ a, a < 7 → σ2 98 (28 + a) = -2 := fun a ha => by
        rw [row (28 + a) (by omega) (by omega)]; unfold bgR; rw [if_neg (by omega), if_neg (by omega), if_pos (by omega)]
      refine ⟨⟨fun a a1 a2 => ⟨rz a (by omega) (by omega) (by omega) (by omega) (by omega), rz (7 + a) (by omega) (by omega) (by omega) (by omega) (by omega), rz (14 + a) (by omega) (by omega) (by omega) (by omega) (by omega), rz (21 + a) (by omega) (by omega) (by omega) (by omega) (by omega)⟩, fun a ha => ?_, fun a ha => ?_, fun a j ha q => (nomatch q), fun a ha => rp a (by omega)⟩, ?_, ?_, ?_, fun a ha => ?_⟩
      · obtain ⟨b1, b2, b3, b4, b5⟩ := w4.2.2.2.1 a ha
        rw [rf a ha, rz (14 + a) (by omega) (by omega) (by omega) (by omega) (by omega)]
        exact ⟨nI_pos' (by omega), (nI_leI (b := 9999) (by omega) (by decide)).mpr (by omega), Int32.le_refl _, nI_pos' (by omega)⟩
      · obtain ⟨b1, b2, b3, b4, b5⟩ := w4.2.2.2.1 a ha
        rw [rc a ha]
        exact ⟨nI_pos' (by omega), (nI_leI (b := 9999) (by omega) (by decide)).mpr (by omega)⟩
      · rw [eC 11 (by decide)]; exact p11
      · rw [eC 11 (by decide), p12, rz 36 (by omega) (by omega) (by omega) (by omega) (by omega)]
      · rw [eC 11 (by decide), p13, w8 35 (by omega), w7 35 (by omega), if_pos rfl, m4]
      · obtain ⟨b1, b2, b3⟩ := p15 a (by omega)
        rw [eC 12 (by decide), eC 13 (by decide), eC 14 (by decide), eC 15 (by decide), eC 16 (by decide), rf a ha, rc a ha, rz (14 + a) (by omega) (by omega) (by omega) (by omega) (by omega), rz (21 + a) (by omega) (by omega) (by omega) (by omega) (by omega)]
        exact ⟨(p14 a ha).1, (p14 a ha).2, b1, b2, b3⟩
    · obtain ⟨o, nn, ⟨q1, q2, q3, q4⟩, -⟩ := hR.2.2.2.2.1
      refine ⟨o, 0, ⟨?_, q2, ?_, by omega⟩, u5, fun j hj => absurd hj (Nat.not_lt_zero _)⟩
      · rw [eC 17 (by decide), p8, pk_un (by decide)]; exact q1
      · rw [eC 17 (by decide), p8, pk_us]; rfl
    · intro s hs
      rw [eC 20 (by decide), p9 s hs, w9 s hs]
      exact ⟨rfl, fun q => absurd rfl q⟩
    · exact ⟨0, fun _ => 0, fun _ => 0, by rw [eC 35 (by decide), p10, pk_us]; rfl, u6, by omega, fun i hi => absurd hi (Nat.not_lt_zero _), fun i hi => absurd hi (Nat.not_lt_zero _)⟩
    · exact ⟨0, by rw [eC 1 (by decide), p1, pk_us]; rfl, s3, by omega, fun i hi => absurd hi (Nat.not_lt_zero _)⟩
    · rw [eC 0 (by decide), p3, pk_us, u1]
    · intro k hk
      rw [s1 71 (by decide)]
      exact hKy k hk

