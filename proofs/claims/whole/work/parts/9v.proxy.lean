theorem fHasP_iff {f : hF} {a : Int32} : ∀ n, fHasP f a n = true ↔ ∃ o, o < n ∧ f o = a
  | 0 => ⟨fun q => (nomatch q), fun ⟨o, h, _⟩ => absurd h (by omega)⟩
  | n + 1 => by
    rw [fHasP, Bool.or_eq_true, fHasP_iff n, decide_eq_true_iff]
    constructor
    · rintro (⟨o, h1, h2⟩ | h)
      · exact ⟨o, by omega, h2⟩
      · exact ⟨n, by omega, h⟩
    · rintro ⟨o, h1, h2⟩
      by_cases e : o = n
      · subst e; exact Or.inr h2
      · exact Or.inl ⟨o, by omega, h2⟩
theorem oN_inj {p q : Option Nat} (hp : ∀ j, p = some j → j < 7) (hq : ∀ j, q = some j → j < 7) : oN p = oN q ↔ p = q := by
  refine ⟨fun e => ?_, fun e => by rw [e]⟩
  rcases q with _ | k
  · exact (oN_lt hp).mp e
  · rcases p with _ | j
    · exact ((oN_lt hq).mp e.symm).symm
    · have h1 := hp j rfl; have h2 := hq k rfl
      rw [nI_inj7 (i := j) (j := k) (by omega) (by omega) e]
theorem oM_inj {p q : Option Nat} (hp : ∀ j, p = some j → j < 7) (hq : ∀ j, q = some j → j < 7) : oM p = oM q ↔ p = q := by
  refine ⟨fun e => ?_, fun e => by rw [e]⟩
  rcases q with _ | k
  · exact (oM_lt hp).mp (by rw [e]; decide)
  · exact (oM_eq hp (hq k rfl)).mp e
theorem q_proxy (a b : Int32) : cOK m_X11_proxy m_X12_proxy [.int a, .int b] := by
  intro G x y σ τ ⟨h, sz, L, LF, pr, hR⟩
  have h7 := r_7 hR
  obtain ⟨o, nn, k1, k2, k3⟩ := hR.2.2.2.2.1
  obtain ⟨c1, c2, c3, c4, c5⟩ := hR.2.2.2.1
  obtain ⟨z1, z2, z3, z4, z5⟩ := c1
  have hpr : ∀ q, q < h → ∀ j, pr q = some j → j < 7 := fun q hq j e => by have := (z4 q j hq e).1; omega
  -- who is asked for
  have hB : (b = -1 ∨ isH h b = true) → ∃ β : Option Nat, b = oN β ∧ (if b = -1 then -2 else b) = oM β ∧ (∀ j, β = some j → j < h ∧ b = nI j) ∧ (b = -1 ↔ β = none) := by
    rintro (rfl | hb)
    · exact ⟨none, rfl, rfl, fun j q => (nomatch q), ⟨fun _ => rfl, fun _ => rfl⟩⟩
    · obtain ⟨k, hk, rfl⟩ := isH_ix h7 hb
      have hn : ¬ nI k = -1 := fun q => by cases (oN_lt (p := some k) (fun j e => by cases e; omega)).mp q
      exact ⟨some k, rfl, by rw [if_neg hn]; rfl, fun j q => by cases q; exact ⟨hk, rfl⟩, ⟨fun q => absurd q hn, fun q => (nomatch q)⟩⟩
  have hHc : ∀ i, i < h → (fHasP (σ 16) (nI i) h = true ↔ ∃ o, o < h ∧ pr o = some i) := fun i hi => by
    rw [fHasP_iff]
    constructor
    · rintro ⟨o, h1, h2⟩
      rw [(c5 o h1).2.2.2.2] at h2
      exact ⟨o, h1, (oN_inj (hpr o h1) (q := some i) (fun j e => by cases e; omega)).mp h2⟩
    · rintro ⟨o, h1, h2⟩
      exact ⟨o, h1, by rw [(c5 o h1).2.2.2.2, h2]; rfl⟩
  have hHm : ∀ i, i < h → (fHasP (fun o => σ 98 (28 + o)) (nI i) h = true ↔ ∃ o, o < h ∧ pr o = some i) := fun i hi => by
    rw [fHasP_iff]
    constructor
    · rintro ⟨o, h1, h2⟩
      rw [z5 o h1] at h2
      exact ⟨o, h1, (oM_eq (hpr o h1) (by omega)).mp h2⟩
    · rintro ⟨o, h1, h2⟩
      exact ⟨o, h1, by rw [z5 o h1, h2]; rfl⟩
  -- when it may not be, for both
  have zero : ∀ i, i < h → (b = -1 ∨ isH h b = true) → ((nI i = b ∨ σ 16 i = b ∨ (¬ b = -1 ∧ (fHasP (σ 16) (nI i) h = true ∨ ¬ σ 16 b.toNatClampNeg = -1))) ↔ (nI i = b ∨ σ 98 (28 + i) = (if b = -1 then -2 else b) ∨ fHasP (fun o => σ 98 (28 + o)) (nI i) h = true ∨ (¬ b = -1 ∧ ¬ σ 98 (28 + b.toNatClampNeg) < 0))) := by
    intro i hi hb
    obtain ⟨β, b1, b2, b3, b4⟩ := hB hb
    rw [hHc i hi, hHm i hi, b2, z5 i hi, (c5 i hi).2.2.2.2]
    have hβ7 : ∀ j, β = some j → j < 7 := fun j q => by have := (b3 j q).1; omega
    have ei : oN (pr i) = b ↔ pr i = β := by rw [b1]; exact oN_inj (hpr i hi) hβ7
    rw [ei, oM_inj (hpr i hi) hβ7]
    have ek : ¬ b = -1 → (σ 16 b.toNatClampNeg = -1 ↔ σ 98 (28 + b.toNatClampNeg) < 0) := by
      intro nb
      rcases hq : β with _ | k
      · exact absurd (b4.mpr hq) nb
      · obtain ⟨hk, e⟩ := b3 k hq
        rw [e, nI_clamp (by omega), (c5 k hk).2.2.2.2, z5 k hk, oN_lt (hpr k hk), oM_lt (hpr k hk)]
    have hch : (∃ o, o < h ∧ pr o = some i) → pr i = none := fun ⟨o, h1, h2⟩ => (z4 o i h1 h2).2
    constructor
    · rintro (q | q | ⟨q, q2 | q2⟩)
      · exact Or.inl q
      · exact Or.inr (Or.inl q)
      · exact Or.inr (Or.inr (Or.inl q2))
      · exact Or.inr (Or.inr (Or.inr ⟨q, fun z => q2 ((ek q).mpr z)⟩))
    · rintro (q | q | q | ⟨q, q2⟩)
      · exact Or.inl q
      · exact Or.inr (Or.inl q)
      · by_cases nb : b = -1
        · exact Or.inr (Or.inl ((hch q).trans (b4.mp nb).symm))
        · exact Or.inr (Or.inr ⟨nb, Or.inl q⟩)
      · exact Or.inr (Or.inr ⟨q, Or.inr (fun z => q2 ((ek q).mp z))⟩)
  have m1 : ∀ i, i < h → ¬ nI i = -1 := fun i hi q => by cases (oN_lt (p := some i) (fun j e => by cases e; omega)).mp q
  refine ⟨_, c_proxy (r_c hR).1 h7 c2 k1, ?_⟩
  rintro v r1 σ1 τ1 ⟨rfl, rfl, H⟩
  rcases H with ⟨bad, rfl, rfl⟩ | ⟨i, hi, rfl, hb, ⟨cz, rfl, rfl⟩ | ⟨cz, rfl, o1, e16, kp⟩⟩
  · refine ⟨0, rfl, rfl, _, d_proxy (r_R hR) k2 k1.2.2.2, ?_⟩
    rintro v' r2 σ2 τ2 ⟨rfl, rfl, H2⟩
    rcases H2 with ⟨-, rfl, rfl⟩ | ⟨i, hi, rfl, hb, -⟩
    · exact ⟨rfl, rfl, h, sz, L, LF, pr, hR⟩
    · exact absurd ⟨isH_nI hi h7, hb.elim Or.inl (fun q => Or.inr q.1)⟩ bad
  · refine ⟨0, rfl, rfl, _, d_proxy (r_R hR) k2 k1.2.2.2, ?_⟩
    rintro v' r2 σ2 τ2 ⟨rfl, rfl, H2⟩
    rcases H2 with ⟨-, rfl, rfl⟩ | ⟨i', hi', e, hb', ⟨-, rfl, rfl⟩ | ⟨cz', -⟩⟩
    · exact ⟨rfl, rfl, h, sz, L, LF, pr, hR⟩
    · exact ⟨rfl, rfl, h, sz, L, LF, pr, hR⟩
    · obtain rfl := nI_inj7 (by omega) (by omega) e
      rcases (zero i hi hb).mp cz with q | q
      · rcases hb' with q' | q'
        · exact absurd (q.trans q') (m1 i hi)
        · exact absurd q q'.2
      · exact absurd q cz'
  · have hR1 := R2_1 hR o1 (by decide)
    have e98 : σ1 98 = σ 98 := o1 98 (by decide)
    have cz2 := fun q => cz ((zero i hi hb).mpr q)
    refine ⟨1, rfl, rfl, _, d_proxy (r_R hR1) (by rw [o1 64 (by decide)]; exact k2) k1.2.2.2, ?_⟩
    rintro v' r2 σ2 τ2 ⟨rfl, rfl, H2⟩
    rcases H2 with ⟨bad, -⟩ | ⟨i', hi', e, hb', ⟨cz', -⟩ | ⟨-, rfl, s1, d⟩⟩
    · refine absurd ⟨isH_nI hi h7, hb.elim Or.inl (fun q => Or.inr ⟨q, fun q2 => cz (Or.inl q2)⟩)⟩ bad
    · obtain rfl := nI_inj7 (by omega) (by omega) e
      rw [e98] at cz'
      exact absurd (Or.inr cz') cz2
    · obtain rfl := nI_inj7 (by omega) (by omega) e
      rw [e98] at s1
      obtain ⟨β, b1, b2, b3, b4⟩ := hB hb
      rw [b2] at s1
      refine ⟨rfl, rfl, R2_deed hR k1 k3 o1 (by decide) kp d (pr' := fun q => if q = i then β else pr q) ?_⟩
      have sn : ∀ j, j < 37 → j ≠ 28 + i → σ2 98 j = σ 98 j := fun j h1 h2 => by rw [s1 j h1, pk_un h2]
      have hnc := not_or.mp cz
      have hnc2 := not_or.mp hnc.2
      have nHP : ¬ β = none → ¬ ∃ o, o < h ∧ pr o = some i := fun nb q => hnc2.2 ⟨fun q2 => nb (b4.mp q2), Or.inl ((hHc i hi).mpr q)⟩
      refine ⟨⟨fun a a1 a2 => ?_, fun a ha => ?_, fun a ha => ?_, ?_, fun a ha => ?_⟩, ?_, ?_, ?_, fun a ha => ?_⟩
      · rw [sn a (by omega) (by omega), sn (7 + a) (by omega) (by omega), sn (14 + a) (by omega) (by omega), sn (21 + a) (by omega) (by omega)]
        exact z1 a a1 a2
      · rw [sn a (by omega) (by omega), sn (14 + a) (by omega) (by omega)]; exact z2 a ha
      · rw [sn (7 + a) (by omega) (by omega)]; exact z3 a ha
      · intro a j ha e
        dsimp only at e ⊢
        by_cases q : a = i
        · rw [if_pos q] at e
          obtain ⟨hj, ej⟩ := b3 j e
          refine ⟨hj, ?_⟩
          rw [if_neg (fun q2 => hnc.1 (by rw [ej, q2]))]
          refine Classical.byContradiction (fun q3 => hnc2.2 ⟨fun q4 => (by rw [b4.mp q4] at e; cases e), Or.inr ?_⟩)
          rw [ej, nI_clamp (by omega), (c5 j hj).2.2.2.2, oN_lt (hpr j hj)]
          exact q3
        · rw [if_neg q] at e
          obtain ⟨hj, ej⟩ := z4 a j ha e
          refine ⟨hj, ?_⟩
          by_cases q2 : j = i
          · rw [if_pos q2]
            refine Classical.byContradiction (fun q3 => nHP q3 ⟨a, ha, by rw [e, q2]⟩)
          · rw [if_neg q2]; exact ej
      · dsimp only
        by_cases q : a = i
        · subst q
          rw [if_pos rfl, s1 _ (by omega), pk_us]
        · rw [if_neg q, sn (28 + a) (by omega) (by omega)]; exact z5 a ha
      · rw [o1 11 (by decide)]; exact c2
      · rw [o1 11 (by decide), sn 36 (by omega) (by omega)]; exact c3
      · rw [o1 11 (by decide), sn 35 (by omega) (by omega)]; exact c4
      · obtain ⟨p1, p2, p3, p4, p5⟩ := c5 a ha
        rw [e16, o1 12 (by decide), o1 13 (by decide), o1 14 (by decide), o1 15 (by decide), sn a (by omega) (by omega), sn (7 + a) (by omega) (by omega), sn (14 + a) (by omega) (by omega), sn (21 + a) (by omega) (by omega)]
        refine ⟨p1, p2, p3, p4, ?_⟩
        dsimp only
        by_cases q : a = i
        · subst q; rw [pk_us, if_pos rfl]; exact b1
        · rw [pk_un q, if_neg q]; exact p5

