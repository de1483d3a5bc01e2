/-! what is done -/
section S9r
variable {σ σ1 σ' σ2 : hS} {τ τ' : hT} {h sz L : Nat} {LF : Nat → hF → Int32} {pr pr' : Nat → Option Nat}
/-- what a thing done leaves as it is -/
def Rst (σ σ1 : hS) (τ : hT) (h sz L : Nat) (LF : Nat → hF → Int32) : Prop := rT1 σ σ1 h sz L LF ∧ rMo σ σ1 h L ∧ (∃ hd fe u, rHd σ σ1 h L hd fe u) ∧ rTp σ σ1 ∧ σ 0 11 = σ1 64 17 ∧ rKy τ
theorem R2_st (hR : R2 σ σ1 τ h sz L LF pr) : Rst σ σ1 τ h sz L LF := ⟨hR.1, hR.2.1, hR.2.2.1, hR.2.2.2.2.2.2.2.1, hR.2.2.2.2.2.2.2.2.1, hR.2.2.2.2.2.2.2.2.2⟩
theorem R2_mk (hS : Rst σ σ1 τ h sz L LF) (hc : cEq h σ (σ1 98) pr) (hp : rPa σ σ1 h) (hh : rHl σ σ1 h) (ht : rTo σ σ1) : R2 σ σ1 τ h sz L LF pr := ⟨hS.1, hS.2.1, hS.2.2.1, hc, hp, hh, ht, hS.2.2.2⟩
theorem Rst_c (hR : Rst σ σ1 τ h sz L LF) (e : ∀ c, c ∈ [0, 1, 2, 38, 41, 42, 43, 44, 45, 46, 47, 48] → σ' c = σ c) : Rst σ' σ1 τ h sz L LF := by
  unfold Rst rT1 rMo rHd rTp okC twC at *
  rw [e 0 (by decide), e 1 (by decide), e 2 (by decide), e 38 (by decide), e 41 (by decide), e 42 (by decide), e 43 (by decide), e 44 (by decide), e 45 (by decide), e 46 (by decide), e 47 (by decide), e 48 (by decide)]
  exact hR
theorem Rst_r (hR : Rst σ σ1 τ h sz L LF) (e : ∀ c, c ∈ [65, 74, 77, 78, 79, 80, 81, 82, 84, 85, 86, 87, 88, 89, 90, 91, 92, 93, 94] → σ' c = σ1 c) (k : ∀ j, j ∈ [2, 17, 18] → σ' 64 j = σ1 64 j) (ht : τ' 71 = τ 71) : Rst σ σ' τ' h sz L LF := by
  obtain ⟨⟨a1, a2, a3, a4, a5, a6⟩, r2, r3, r8, r9, r10⟩ := hR
  refine ⟨⟨a1, ?_, ?_, ?_, ?_, rLw_e a6 (fun c hc => e c (by revert c; decide))⟩, ?_, ?_, ?_, ?_, ?_⟩
  · unfold okT okL okM at *
    rw [k 18 (by decide), e 74 (by decide), e 86 (by decide), e 87 (by decide), e 88 (by decide), e 89 (by decide), e 90 (by decide), e 91 (by decide), e 92 (by decide), e 93 (by decide), e 94 (by decide)]
    exact a2
  · unfold twM at *; rw [e 77 (by decide), e 78 (by decide), e 79 (by decide), e 84 (by decide)]; exact a3
  · rw [e 80 (by decide)]; exact a4
  · rw [e 85 (by decide)]; exact a5
  · unfold rMo at *; rw [e 81 (by decide), e 82 (by decide)]; exact r2
  · unfold rHd at *; rw [e 77 (by decide), e 78 (by decide), e 79 (by decide)]; exact r3
  · unfold rTp at *; rw [k 2 (by decide), e 65 (by decide)]; exact r8
  · rw [k 17 (by decide)]; exact r9
  · unfold rKy at *; rw [ht]; exact r10
theorem rHl_of (hl : rHl σ σ1 h) (e1 : σ' 19 = σ 19) (e2 : σ' 20 = σ 20) (e3 : σ2 107 = σ1 107) (e4 : σ2 108 = σ1 108) : rHl σ' σ2 h := by
  unfold rHl at *; rw [e1, e2, e3, e4]; exact hl
theorem rTo_of (ht : rTo σ σ1) (e1 : σ' 35 = σ 35) (e2 : σ' 36 = σ 36) (e3 : σ' 37 = σ 37) (e4 : σ2 64 61 = σ1 64 61) (e5 : σ2 105 = σ1 105) (e6 : σ2 106 = σ1 106) : rTo σ' σ2 := by
  unfold rTo fTold fToldM at *; rw [e1, e2, e3, e4, e5, e6]; exact ht
theorem mod40_ne {o i j : Nat} (hi : i < 40) (hj : j < 40) (hne : i ≠ j) : (o + i) % 40 ≠ (o + j) % 40 := by omega
/-- one row more that can be undone -/
theorem rPa_deed {o nn : Nat} (h7 : h ≤ 7) (hk : okK σ o nn) (hp : ∀ j, j < nn → rwEq h (σ 18) ((o + j) % 40 * 38) (σ 103) (37 * j)) (kp : pKp σ o nn σ1) (hd : pRec nn σ1 σ2) (e98 : σ1 98 = σ 98) (e103 : σ1 103 = σ 103) (hc : cEq h σ (σ 98) pr) (e17 : σ2 17 = σ1 17) (e18 : σ2 18 = σ1 18) : rPa σ2 σ2 h := by
  obtain ⟨k1, k2, k3, k4⟩ := hk
  obtain ⟨p1, p2, p3, p4⟩ := kp
  obtain ⟨d1, d2, d3⟩ := hd
  rw [e98] at d3
  rw [e103] at d2
  by_cases c : nn < 40
  · obtain ⟨q1, q2⟩ := p3 c
    rw [show min (nn + 1) 40 = nn + 1 by omega] at d1
    rw [show min nn 39 = nn by omega] at d2 d3
    refine ⟨o, nn + 1, ⟨by rw [e17]; exact q1, k2, by rw [e17]; exact q2, by omega⟩, d1, fun j hj => ?_⟩
    rw [e18]
    by_cases e : j = nn
    · subst e
      exact rw_put h7 p1 hc (fun i hi => d3 i hi)
    · have hne := mod40_ne (o := o) (i := j) (j := nn) (by omega) (by omega) e
      refine rwEq_of h7 (hp j (by omega)) (fun i hi => p2 _ (by omega)) (fun i hi => ?_)
      rw [d2 j i (by omega) hi, Nat.sub_self]
      rfl
  · obtain rfl : nn = 40 := by omega
    obtain ⟨q1, q2⟩ := p4 rfl
    rw [show min (40 + 1) 40 = 40 by omega] at d1
    rw [show min 40 39 = 39 by omega] at d2 d3
    refine ⟨(o + 1) % 40, 40, ⟨by rw [e17]; exact q1, by omega, by rw [e17]; exact q2, by omega⟩, d1, fun j hj => ?_⟩
    rw [e18]
    by_cases e : j = 39
    · subst e
      rw [show ((o + 1) % 40 + 39) % 40 = (o + 40) % 40 by omega]
      exact rw_put h7 p1 hc (fun i hi => d3 i hi)
    · rw [show ((o + 1) % 40 + j) % 40 = (o + (j + 1)) % 40 by omega]
      have hne := mod40_ne (o := o) (i := j + 1) (j := 0) (by omega) (by omega) (by omega)
      refine rwEq_mv h7 (q := 37 * (j + 1)) (f := σ 103) ?_ (fun i hi => by rw [d2 j i (by omega) hi])
      exact rwEq_of h7 (hp (j + 1) (by omega)) (fun i hi => p2 _ (by omega)) (fun _ _ => rfl)
/-- behind a deed -/
theorem R2_deed {o nn : Nat} {Y : List Nat} (hR : R2 σ σ τ h sz L LF pr) (hk : okK σ o nn) (hp : ∀ j, j < nn → rwEq h (σ 18) ((o + j) % 40 * 38) (σ 103) (37 * j)) (o1 : ∀ k, k ∉ Y → σ1 k = σ k) (hY : hdj Y (0 :: 1 :: 2 :: 19 :: 20 :: 35 :: 36 :: 37 :: 38 :: 41 :: 42 :: 43 :: 44 :: 45 :: 46 :: 47 :: 48 :: 64 :: dCr) = true) (kp : pKp σ o nn σ1) (d : pDo nn σ1 σ2) (hc : cEq h σ1 (σ2 98) pr') : Rel σ2 τ := by
  have e1 := hdj_at o1 hY
  obtain ⟨d1, d2, d3⟩ := d
  have hS := R2_st hR
  have eR : ∀ c, c ∈ [65, 74, 77, 78, 79, 80, 81, 82, 84, 85, 86, 87, 88, 89, 90, 91, 92, 93, 94, 105, 106, 107, 108] → σ2 c = σ c := fun c hc => (d1 c (by revert c; decide)).trans (e1 c (by revert c; decide))
  have eC : ∀ c, c ∈ [0, 1, 2, 19, 20, 35, 36, 37, 38, 41, 42, 43, 44, 45, 46, 47, 48] → σ2 c = σ c := fun c hc => (d1 c (by revert c; decide)).trans (e1 c (by revert c; decide))
  have k : ∀ j, j ∈ [2, 17, 18, 61] → σ2 64 j = σ 64 j := fun j hj => (d2 j (by rintro rfl; revert hj; decide) (by rintro rfl; revert hj; decide) (by rintro rfl; revert hj; decide)).trans (by rw [e1 64 (by decide)])
  have hS2 := Rst_c (Rst_r hS (fun c hc => eR c (by revert c; decide)) (fun j hj => k j (by revert j; decide)) rfl) (fun c hc => eC c (by revert c; decide))
  refine ⟨h, sz, L, LF, pr', R2_mk hS2 ?_ ?_ ?_ ?_⟩
  · unfold cEq at *
    rw [d1 11 (by decide), d1 12 (by decide), d1 13 (by decide), d1 14 (by decide), d1 15 (by decide), d1 16 (by decide)]
    exact hc
  · exact rPa_deed (r_7 hR) hk hp kp d3 (e1 98 (by decide)) (e1 103 (by decide)) hR.2.2.2.1 (d1 17 (by decide)) (d1 18 (by decide))
  · exact rHl_of hR.2.2.2.2.2.1 (eC 19 (by decide)) (eC 20 (by decide)) (eR 107 (by decide)) (eR 108 (by decide))
  · exact rTo_of hR.2.2.2.2.2.2.1 (eC 35 (by decide)) (eC 36 (by decide)) (eC 37 (by decide)) (k 61 (by decide)) (eR 105 (by decide)) (eR 106 (by decide))
end S9r

