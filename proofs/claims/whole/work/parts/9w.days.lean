theorem in_60 {i : Nat} (hi : i ≤ 60) : inI 0 60 (nI i) = true := decide_eq_true ⟨nI_pos' (by omega), (nI_leI (b := 60) (by omega) (by decide)).mpr hi⟩
theorem q_days (n : Int32) : cOK m_X11_days m_X12_days [.int n] := by
  intro G x y σ τ ⟨h, sz, L, LF, pr, hR⟩
  have h7 := r_7 hR
  obtain ⟨o, nn, k1, k2, k3⟩ := hR.2.2.2.2.1
  obtain ⟨c1, c2, c3, c4, c5⟩ := hR.2.2.2.1
  obtain ⟨z1, z2, z3, z4, z5⟩ := c1
  refine ⟨_, c_days (r_c hR) c2 k1, ?_⟩
  rintro v r1 σ1 τ1 ⟨rfl, rfl, H⟩
  rcases H with ⟨bad, rfl, rfl⟩ | ⟨rfl, rfl, rfl⟩ | ⟨i, hi, hi1, rfl, rfl, o1, d1, d2, kp⟩
  · refine ⟨-1, rfl, rfl, _, d_days (r_R hR) k2 k1.2.2.2, ?_⟩
    rintro v' r2 σ2 τ2 ⟨rfl, rfl, H2⟩
    rcases H2 with ⟨-, rfl, rfl⟩ | ⟨rfl, -⟩ | ⟨i, hi, hi1, rfl, -⟩
    · exact ⟨rfl, rfl, h, sz, L, LF, pr, hR⟩
    · exact absurd (in_60 (i := 0) (by decide)) bad
    · exact absurd (in_60 hi) bad
  · refine ⟨σ 11 6, rfl, rfl, _, d_days (r_R hR) k2 k1.2.2.2, ?_⟩
    rintro v' r2 σ2 τ2 ⟨rfl, rfl, H2⟩
    rcases H2 with ⟨bad, -⟩ | ⟨-, rfl, rfl⟩ | ⟨i, hi, hi1, e, -⟩
    · exact absurd (in_60 (i := 0) (by decide)) bad
    · exact ⟨by rw [c3], rfl, h, sz, L, LF, pr, hR⟩
    · have := (nI_eq (a := 0) (b := i) (by decide) (by omega)).mp e
      omega
  · have hR1 := R2_1 hR o1 (by decide)
    have e98 : σ1 98 = σ 98 := o1 98 (by decide)
    refine ⟨σ1 11 6, rfl, rfl, _, d_days (r_R hR1) (by rw [o1 64 (by decide)]; exact k2) k1.2.2.2, ?_⟩
    rintro v' r2 σ2 τ2 ⟨rfl, rfl, H2⟩
    rcases H2 with ⟨bad, -⟩ | ⟨e, -⟩ | ⟨j, hj, hj1, e, rfl, s1, s2, s3, s4, d⟩
    · exact absurd (in_60 hi) bad
    · have := (nI_eq (a := i) (b := 0) (by omega) (by decide)).mp e
      omega
    · obtain rfl := (nI_eq (by omega) (by omega)).mp e
      have de : dEq h (dyC σ1 11) (dyM σ2 98) := (d1.trans (r_dy hR1 i)).trans s1.symm
      obtain ⟨g1, g2, g3⟩ := de
      have g2' : σ1 11 6 = σ2 98 36 := g2
      have g3' : σ1 11 7 = σ2 98 35 := g3
      refine ⟨by rw [g2'], rfl, R2_deed hR k1 k3 o1 (by decide) kp d (pr' := pr) ?_⟩
      have ec : ∀ a, a < h → σ2 98 (7 + a) = σ 98 (7 + a) := fun a ha => by
        have e1 : σ1 13 a = σ2 98 (7 + a) := (g1 a ha).2.1
        rw [← e1, o1 13 (by decide)]; exact (c5 a ha).2.1
      refine ⟨⟨s2, s3, fun a ha => ?_, z4, fun a ha => ?_⟩, d2, g2', g3', fun a ha => ?_⟩
      · rw [ec a ha]; exact z3 a ha
      · rw [s4 (28 + a) (by omega) (by omega), e98]; exact z5 a ha
      · obtain ⟨a1, a2, a3, a4, a5⟩ := g1 a ha
        exact ⟨a1, a2, a3, a4, by rw [o1 16 (by decide)]; exact (c5 a ha).2.2.2.2⟩
/-- a new state of now, and past -/
theorem R2_back {σ σ2 : hS} {τ : hT} {h sz L : Nat} {LF : Nat → hF → Int32} {pr : Nat → Option Nat} (hR : R2 σ σ τ h sz L LF pr) (o : ∀ k, k ∉ [11, 12, 13, 14, 15, 16, 17, 64, 98] → σ2 k = σ k) (k : ∀ j, j ∈ [2, 17, 18, 61] → σ2 64 j = σ 64 j) (hc : ∃ pr', cEq h σ2 (σ2 98) pr') (hp : rPa σ2 σ2 h) : Rel σ2 τ := by
  obtain ⟨pr', hc⟩ := hc
  have hS2 := Rst_c (Rst_r (R2_st hR) (fun c hc => o c (by revert c; decide)) (fun j hj => k j (by revert j; decide)) rfl) (fun c hc => o c (by revert c; decide))
  exact ⟨h, sz, L, LF, pr', R2_mk hS2 hc hp (rHl_of hR.2.2.2.2.2.1 (o 19 (by decide)) (o 20 (by decide)) (o 107 (by decide)) (o 108 (by decide))) (rTo_of hR.2.2.2.2.2.2.1 (o 35 (by decide)) (o 36 (by decide)) (o 37 (by decide)) (k 61 (by decide)) (o 105 (by decide)) (o 106 (by decide)))⟩
theorem q_undo : cOK m_X11_undo m_X12_undo [] := by
  intro G x y σ τ ⟨h, sz, L, LF, pr, hR⟩
  have h7 := r_7 hR
  obtain ⟨o, nn, k1, k2, k3⟩ := hR.2.2.2.2.1
  obtain ⟨q1, q2, q3, q4⟩ := k1
  rcases nn with _ | n
  · refine ⟨_, c_undo0 q3, ?_⟩
    rintro v r1 σ1 τ1 ⟨rfl, rfl, rfl, rfl⟩
    refine ⟨0, rfl, rfl, _, d_undo0 k2, ?_⟩
    rintro v r1 σ1 τ1 ⟨rfl, rfl, rfl, rfl⟩
    exact ⟨rfl, rfl, h, sz, L, LF, pr, hR⟩
  · refine ⟨_, c_undo q1 q2 q3 (by omega), ?_⟩
    rintro v r1 σ1 τ1 ⟨rfl, rfl, rfl, o1, p1, p2, p3⟩
    refine ⟨1, rfl, rfl, _, d_undo (n := n) (by rw [o1 64 (by decide)]; exact k2) (by omega), ?_⟩
    rintro v' r2 σ2 τ2 ⟨rfl, rfl, rfl, o2, s1, s2⟩
    have o3 := off_tr o1 o2 (Z := [11, 12, 13, 14, 15, 16, 17, 64, 98]) (by decide) (by decide)
    refine ⟨rfl, rfl, R2_back hR o3 (fun j hj => ?_) ?_ ?_⟩
    · rw [s1, pk_un (by rintro rfl; revert hj; decide), o1 64 (by decide)]
    · obtain ⟨pr', hc⟩ := rw_get (c := σ2 98) h7 p1 (k3 n (by omega)) (fun j hj => by rw [s2 j hj, o1 103 (by decide)])
      refine ⟨pr', ?_⟩
      unfold cEq at *
      rw [o2 11 (by decide), o2 12 (by decide), o2 13 (by decide), o2 14 (by decide), o2 15 (by decide), o2 16 (by decide)]
      exact hc
    · refine ⟨o, n, ⟨by rw [o2 17 (by decide)]; exact p2, q2, by rw [o2 17 (by decide)]; exact p3, by omega⟩, by rw [s1, pk_us], fun j hj => ?_⟩
      rw [o3 18 (by decide), o3 103 (by decide)]
      exact k3 j (by omega)
theorem sl_cases (s : Int32) : (s < 0 ∨ 3 ≤ s) ∨ ∃ i, i < 3 ∧ s = nI i := by
  by_cases c : s < 0
  · exact Or.inl (Or.inl c)
  · by_cases d : 3 ≤ s
    · exact Or.inl (Or.inr d)
    · obtain ⟨j, hj, rfl⟩ := nI_of c
      exact Or.inr ⟨j, Nat.not_le.mp (fun q => d ((nI_leI (a := 3) (by decide) hj).mpr q)), rfl⟩
theorem q_hold (s : Int32) : cOK m_X11_hold m_X12_hold [.int s] := by
  intro G x y σ τ ⟨h, sz, L, LF, pr, hR⟩
  have h7 := r_7 hR
  rcases sl_cases s with hs | ⟨i, hi, rfl⟩
  · refine ⟨_, c_hold0 hs, ?_⟩
    rintro v r1 σ1 τ1 ⟨rfl, rfl, rfl, rfl⟩
    refine ⟨0, rfl, rfl, _, d_hold0 hs, ?_⟩
    rintro v r1 σ1 τ1 ⟨rfl, rfl, rfl, rfl⟩
    exact ⟨rfl, rfl, h, sz, L, LF, pr, hR⟩
  · refine ⟨_, c_hold hi, ?_⟩
    rintro v r1 σ1 τ1 ⟨rfl, rfl, rfl, o1, p1, p2, p3⟩
    refine ⟨1, rfl, rfl, _, d_hold hi, ?_⟩
    rintro v' r2 σ2 τ2 ⟨rfl, rfl, rfl, o2, s1, s2, s3⟩
    have o3 := off_tr o1 o2 (Z := [19, 20, 107, 108]) (by decide) (by decide)
    have hS2 := Rst_c (Rst_r (R2_st hR) (fun c hc => o3 c (by revert c; decide)) (fun j hj => by rw [o3 64 (by decide)]) rfl) (fun c hc => o3 c (by revert c; decide))
    refine ⟨rfl, rfl, h, sz, L, LF, pr, R2_mk hS2 ?_ ?_ ?_ ?_⟩
    · have := hR.2.2.2.1
      unfold cEq at *
      rw [o3 11 (by decide), o3 12 (by decide), o3 13 (by decide), o3 14 (by decide), o3 15 (by decide), o3 16 (by decide), o3 98 (by decide)]
      exact this
    · have := hR.2.2.2.2.1
      unfold rPa okK at *
      rw [o3 17 (by decide), o3 18 (by decide), o3 64 (by decide), o3 103 (by decide)]
      exact this
    · intro s hs
      have hl := hR.2.2.2.2.2.1 s hs
      rw [o2 20 (by decide), p3, s1, o1 107 (by decide), o2 19 (by decide)]
      by_cases e : s = i
      · subst e
        rw [pk_us, pk_us]
        refine ⟨rfl, fun _ => rw_put h7 p1 hR.2.2.2.1 (fun j hj => by rw [s2 j hj, o1 98 (by decide)])⟩
      · rw [pk_un e, pk_un e]
        refine ⟨hl.1, fun q => rwEq_of h7 (hl.2 q) (fun j hj => p2 _ (by omega)) (fun j hj => ?_)⟩
        rw [s3 _ (by omega), o1 108 (by decide)]
    · exact rTo_of hR.2.2.2.2.2.2.1 (o3 35 (by decide)) (o3 36 (by decide)) (o3 37 (by decide)) (by rw [o3 64 (by decide)]) (o3 105 (by decide)) (o3 106 (by decide))
theorem q_restore (s : Int32) : cOK m_X11_restore m_X12_restore [.int s] := by
  intro G x y σ τ ⟨h, sz, L, LF, pr, hR⟩
  have h7 := r_7 hR
  rcases sl_cases s with hs | ⟨i, hi, rfl⟩
  · refine ⟨_, c_restore0 hs, ?_⟩
    rintro v r1 σ1 τ1 ⟨rfl, rfl, rfl, rfl⟩
    refine ⟨0, rfl, rfl, _, d_restore0 hs, ?_⟩
    rintro v r1 σ1 τ1 ⟨rfl, rfl, rfl, rfl⟩
    exact ⟨rfl, rfl, h, sz, L, LF, pr, hR⟩
  · obtain ⟨l1, l2⟩ := hR.2.2.2.2.2.1 i hi
    by_cases c : σ 20 i = 0
    · refine ⟨_, c_restore1 hi c, ?_⟩
      rintro v r1 σ1 τ1 ⟨rfl, rfl, rfl, rfl⟩
      refine ⟨0, rfl, rfl, _, d_restore1 hi (by rw [← l1]; exact c), ?_⟩
      rintro v r1 σ1 τ1 ⟨rfl, rfl, rfl, rfl⟩
      exact ⟨rfl, rfl, h, sz, L, LF, pr, hR⟩
    · refine ⟨_, c_restore hi c, ?_⟩
      rintro v r1 σ1 τ1 ⟨rfl, rfl, rfl, o1, p1, p2, p3⟩
      refine ⟨1, rfl, rfl, _, d_restore hi (by rw [o1 107 (by decide), ← l1]; exact c), ?_⟩
      rintro v' r2 σ2 τ2 ⟨rfl, rfl, rfl, o2, s1, s2⟩
      have o3 := off_tr o1 o2 (Z := [11, 12, 13, 14, 15, 16, 17, 64, 98]) (by decide) (by decide)
      obtain ⟨o, nn, ⟨q1, q2, q3, q4⟩, k2, k3⟩ := hR.2.2.2.2.1
      refine ⟨rfl, rfl, R2_back hR o3 (fun j hj => ?_) ?_ ?_⟩
      · rw [s1, pk_un (by rintro rfl; revert hj; decide), o1 64 (by decide)]
      · obtain ⟨pr', hc⟩ := rw_get (c := σ2 98) h7 p1 (l2 c) (fun j hj => by rw [s2 j hj, o1 108 (by decide)])
        refine ⟨pr', ?_⟩
        unfold cEq at *
        rw [o2 11 (by decide), o2 12 (by decide), o2 13 (by decide), o2 14 (by decide), o2 15 (by decide), o2 16 (by decide)]
        exact hc
      · exact ⟨o, 0, ⟨by rw [o2 17 (by decide), p2]; exact q1, q2, by rw [o2 17 (by decide), p3]; rfl, by omega⟩, by rw [s1, pk_us]; rfl, fun j hj => absurd hj (Nat.not_lt_zero _)⟩

