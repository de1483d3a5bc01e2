theorem sMove_12 {σ : hS} {a b : Nat} {n : Int32} (hab : b ≠ a) : sMove a b n σ 12 = upd (upd (σ 12) a (σ 12 a - n)) b (σ 12 b + n) := by
  unfold sMove
  rw [hva_ne (by decide), hup_eq, pk_un hab]
theorem sMove_14 {σ : hS} {a b : Nat} {n : Int32} (hab : b ≠ a) : sMove a b n σ 14 = upd (upd (σ 14) a (σ 14 a - hmax 0 (n - (σ 12 a - σ 14 a)))) b (σ 14 b + hmax 0 (n - (σ 12 a - σ 14 a))) := by
  unfold sMove
  rw [hup_eq, pk_un hab]
set_option maxRecDepth 4000 in
theorem q_buy (a b n : Int32) : cOK m_X11_buy m_X12_buy [.int a, .int b, .int n] := by
  intro G x y σ τ ⟨h, sz, L, LF, pr, hR⟩
  have h7 := r_7 hR
  obtain ⟨o, nn, k1, k2, k3⟩ := hR.2.2.2.2.1
  obtain ⟨c1, c2, c3, c4, c5⟩ := hR.2.2.2.1
  refine ⟨_, c_buy (r_c hR) (r_5 hR) k1 rfl, ?_⟩
  rintro v r1 σ1 τ1 ⟨rfl, rfl, H⟩
  rcases H with ⟨bad, rfl, rfl⟩ | ⟨i, j, hi, hj, rfl, rfl, hij, hn, hl, rfl, o1⟩ | ⟨i, j, hi, hj, rfl, rfl, hij, hn, hl, rfl, o1, e12, e14, e13, kp⟩
  · refine ⟨-1, rfl, rfl, _, d_buy (r_R hR) k2 k1.2.2.2 rfl, ?_⟩
    rintro v' r2 σ2 τ2 ⟨rfl, rfl, H2⟩
    rcases H2 with ⟨-, rfl, rfl⟩ | ⟨i, j, hi, hj, rfl, rfl, hij, hn, -⟩ | ⟨i, j, hi, hj, rfl, rfl, hij, hn, -⟩
    · exact ⟨rfl, rfl, h, sz, L, LF, pr, hR⟩
    · exact absurd ⟨isH_nI hi h7, isH_nI hj h7, fun q => hij (nI_inj7 (by omega) (by omega) q), hn⟩ bad
    · exact absurd ⟨isH_nI hi h7, isH_nI hj h7, fun q => hij (nI_inj7 (by omega) (by omega) q), hn⟩ bad
  · have hR1 := R2_1 hR o1 (by decide)
    have e98 : σ1 98 = σ 98 := o1 98 (by decide)
    refine ⟨-2, rfl, rfl, _, d_buy (r_R hR1) (by rw [o1 64 (by decide)]; exact k2) k1.2.2.2 rfl, ?_⟩
    rintro v' r2 σ2 τ2 ⟨rfl, rfl, H2⟩
    rcases H2 with ⟨bad, -⟩ | ⟨i', j', hi', hj', e1, e2, -, -, -, rfl, o2, k64'⟩ | ⟨i', j', hi', hj', e1, e2, -, -, hl', -⟩
    · exact absurd ⟨isH_nI hi h7, isH_nI hj h7, fun q => hij (nI_inj7 (by omega) (by omega) q), hn⟩ bad
    · refine ⟨rfl, rfl, h, sz, L, LF, pr, ?_⟩
      have hR2 := R2_r hR1 (fun c hc => o2 c (by revert c; decide)) (k64_5 k64') rfl
      exact R2_c hR2 (fun c hc => (o2 c (by revert c; decide)).trans (o1 c (by revert c; decide)))
    · obtain rfl := nI_inj7 (by omega) (by omega) e1
      obtain rfl := nI_inj7 (by omega) (by omega) e2
      rw [e98, ← (c5 j hj).1, ← (c5 i hi).1, ← (c5 i hi).2.1, ← (c5 j hj).2.1, ← r_pr hR1] at hl'
      exact absurd hl hl'
  · have hR1 := R2_1 hR o1 (by decide)
    have e98 : σ1 98 = σ 98 := o1 98 (by decide)
    refine ⟨n * fPrice (twC σ h sz) (dyC σ 11), rfl, rfl, _, d_buy (r_R hR1) (by rw [o1 64 (by decide)]; exact k2) k1.2.2.2 rfl, ?_⟩
    rintro v' r2 σ2 τ2 ⟨rfl, rfl, H2⟩
    rcases H2 with ⟨bad, -⟩ | ⟨i', j', hi', hj', e1, e2, -, -, hl', -⟩ | ⟨i', j', hi', hj', e1, e2, -, -, -, rfl, s1, d⟩
    · exact absurd ⟨isH_nI hi h7, isH_nI hj h7, fun q => hij (nI_inj7 (by omega) (by omega) q), hn⟩ bad
    · obtain rfl := nI_inj7 (by omega) (by omega) e1
      obtain rfl := nI_inj7 (by omega) (by omega) e2
      rw [e98, ← (c5 j hj).1, ← (c5 i hi).1, ← (c5 i hi).2.1, ← (c5 j hj).2.1, ← r_pr hR1] at hl'
      exact absurd hl' hl
    · obtain rfl := nI_inj7 (by omega) (by omega) e1
      obtain rfl := nI_inj7 (by omega) (by omega) e2
      rw [e98, ← r_pr hR1] at s1
      refine ⟨by rw [r_pr hR1], rfl, R2_deed hR k1 k3 o1 (by decide) kp d (pr' := pr) ?_⟩
      rw [sMove_12 hij] at e12
      rw [sMove_14 hij] at e14
      obtain ⟨P, P1, P2, eP⟩ := hcl_1 (v := tL (twC σ h sz) 0 (upd (vAll (hsum (dF (dyC σ 11)) (tH (twC σ h sz))) (dD (dyC σ 11))) 7 (hsum (dA (dyC σ 11)) (tH (twC σ h sz)))))
      have eP' : fPrice (twC σ h sz) (dyC σ 11) = nI P := eP
      obtain ⟨z1, z2, z3, z4, z5⟩ := c1
      obtain ⟨N, n1, n2, rfl⟩ := in_199 hn
      have hl1 := not_or.mp hl
      have hl2 := not_or.mp hl1.2
      have hl3 := not_or.mp hl2.2
      obtain ⟨qi1, qi2, qi3, qi4, qi5⟩ := c5 i hi
      obtain ⟨qj1, qj2, qj3, qj4, qj5⟩ := c5 j hj
      obtain ⟨ni3, ni4, ni5, ni6⟩ := z2 i hi
      obtain ⟨nj3, nj4, nj5, nj6⟩ := z2 j hj
      obtain ⟨Fi, fi1, efi⟩ := rg (B := 9999) ni3 ni4 (by decide)
      obtain ⟨Si, fi2, esi⟩ := rg (B := Fi) ni5 (by rw [← efi]; exact ni6) (by omega)
      obtain ⟨Fj, fj1, efj⟩ := rg (B := 9999) nj3 nj4 (by decide)
      obtain ⟨Sj, fj2, esj⟩ := rg (B := Fj) nj5 (by rw [← efj]; exact nj6) (by omega)
      obtain ⟨Ci, ci1, eci⟩ := rg (B := 9999) (z3 i hi).1 (z3 i hi).2 (by decide)
      obtain ⟨Cj, cj1, ecj⟩ := rg (B := 9999) (z3 j hj).1 (z3 j hj).2 (by decide)
      have hNP : N * P ≤ 99 * 99 := Nat.mul_le_mul n2 P2
      rw [eP', pk_mul] at s1 hl2 hl3 e13
      have hNF : N ≤ Fj := by
        refine Nat.not_lt.mp (fun q => hl1.1 ?_)
        rw [qj1, efj]; exact nI_lt q (by omega)
      have hFN : Fi + N ≤ 9999 := by
        refine Nat.not_lt.mp (fun q => hl3.1 ?_)
        rw [qi1, efi, nI_add]; exact nI_lt (a := 9999) q (by omega)
      have hCi : N * P ≤ Ci := by
        refine Nat.not_lt.mp (fun q => hl2.1 ?_)
        rw [qi2, eci]; exact nI_lt q (by omega)
      have hCj : Cj + N * P ≤ 9999 := by
        refine Nat.not_lt.mp (fun q => hl3.2 ?_)
        rw [qj2, ecj, nI_add]; exact nI_lt (a := 9999) q (by omega)
      generalize hM : N * P = M at *
      have hmx : hmax 0 (nI N - (nI Fj - nI Sj)) = nI (N - (Fj - Sj)) := hmax_rg fj2 fj1 n2
      have hT : N - (Fj - Sj) ≤ Sj ∧ N - (Fj - Sj) ≤ N := by omega
      have hT2 : Sj - (N - (Fj - Sj)) ≤ Fj - N := by omega
      rw [efj, esj, hmx] at s1
      rw [qj1, qj3, efj, esj, hmx] at e14
      generalize hTT : N - (Fj - Sj) = T at *
      have sB : ∀ q, q < 37 → σ2 98 q = fBuy (σ 98) i j (nI N) (nI T) (nI M) q := s1
      have u1 : σ2 98 j = nI (Fj - N) := by
        rw [sB _ (by omega)]; unfold fBuy
        rw [pk_un (by omega), pk_un (by omega), pk_un (by omega), pk_un (by omega), pk_un (by omega), pk_us, efj, nI_subN hNF]
      have u2 : σ2 98 i = nI (Fi + N) := by
        rw [sB _ (by omega)]; unfold fBuy
        rw [pk_un (by omega), pk_un (by omega), pk_un (by omega), pk_us, efi, nI_add]
      have u3 : σ2 98 (14 + j) = nI (Sj - T) := by
        rw [sB _ (by omega)]; unfold fBuy
        rw [pk_un (by omega), pk_un (by omega), pk_un (by omega), pk_un (by omega), pk_us, esj, nI_subN hT.1]
      have u4 : σ2 98 (14 + i) = nI (Si + T) := by
        rw [sB _ (by omega)]; unfold fBuy
        rw [pk_un (by omega), pk_un (by omega), pk_us, esi, nI_add]
      have u5 : σ2 98 (7 + i) = nI (Ci - M) := by
        rw [sB _ (by omega)]; unfold fBuy
        rw [pk_un (by omega), pk_us, eci, nI_subN hCi]
      have u6 : σ2 98 (7 + j) = nI (Cj + M) := by
        rw [sB _ (by omega)]; unfold fBuy
        rw [pk_us, ecj, nI_add]
      have sn : ∀ q, q < 37 → q ≠ i → q ≠ j → q ≠ 7 + i → q ≠ 7 + j → q ≠ 14 + i → q ≠ 14 + j → σ2 98 q = σ 98 q := by
        intro q h1 h2 h3 h4 h5 h6 h8
        rw [sB q h1]; unfold fBuy
        rw [pk_un h5, pk_un h4, pk_un h6, pk_un h2, pk_un h8, pk_un h3]
      refine ⟨⟨fun a a1 a2 => ?_, fun a ha => ?_, fun a ha => ?_, z4, fun a ha => ?_⟩, ?_, ?_, ?_, fun a ha => ?_⟩
      · rw [sn a (by omega) (by omega) (by omega) (by omega) (by omega) (by omega) (by omega), sn (7 + a) (by omega) (by omega) (by omega) (by omega) (by omega) (by omega) (by omega), sn (14 + a) (by omega) (by omega) (by omega) (by omega) (by omega) (by omega) (by omega), sn (21 + a) (by omega) (by omega) (by omega) (by omega) (by omega) (by omega) (by omega)]
        exact z1 a a1 a2
      · by_cases e : a = i
        · subst e
          rw [u2, u4]
          exact ⟨nI_pos' (by omega), (nI_leI (b := 9999) (by omega) (by decide)).mpr (by omega), nI_pos' (by omega), (nI_leI (by omega) (by omega)).mpr (by omega)⟩
        · by_cases e' : a = j
          · subst e'
            rw [u1, u3]
            exact ⟨nI_pos' (by omega), (nI_leI (b := 9999) (by omega) (by decide)).mpr (by omega), nI_pos' (by omega), (nI_leI (by omega) (by omega)).mpr (by omega)⟩
          · rw [sn a (by omega) (by omega) (by omega) (by omega) (by omega) (by omega) (by omega), sn (14 + a) (by omega) (by omega) (by omega) (by omega) (by omega) (by omega) (by omega)]
            exact z2 a ha
      · by_cases e : a = i
        · subst e
          rw [u5]
          exact ⟨nI_pos' (by omega), (nI_leI (b := 9999) (by omega) (by decide)).mpr (by omega)⟩
        · by_cases e' : a = j
          · subst e'
            rw [u6]
            exact ⟨nI_pos' (by omega), (nI_leI (b := 9999) (by omega) (by decide)).mpr (by omega)⟩
          · rw [sn (7 + a) (by omega) (by omega) (by omega) (by omega) (by omega) (by omega) (by omega)]
            exact z3 a ha
      · rw [sn (28 + a) (by omega) (by omega) (by omega) (by omega) (by omega) (by omega) (by omega)]; exact z5 a ha
      · rw [o1 11 (by decide)]; exact c2
      · rw [o1 11 (by decide), sn 36 (by omega) (by omega) (by omega) (by omega) (by omega) (by omega) (by omega)]; exact c3
      · rw [o1 11 (by decide), sn 35 (by omega) (by omega) (by omega) (by omega) (by omega) (by omega) (by omega)]; exact c4
      · obtain ⟨p1, p2, p3, p4, p5⟩ := c5 a ha
        rw [e12, e13, e14, o1 15 (by decide), o1 16 (by decide), sn (21 + a) (by omega) (by omega) (by omega) (by omega) (by omega) (by omega) (by omega)]
        by_cases e : a = i
        · subst e
          rw [pk_us, pk_us, pk_un hij, pk_us, u2, u4, u5, qi1, qi2, qi3, efi, eci, esi, nI_add, nI_add, nI_subN hCi]
          exact ⟨rfl, rfl, rfl, p4, p5⟩
        · by_cases e' : a = j
          · subst e'
            rw [pk_un e, pk_un e, pk_us, pk_us, pk_us, u1, u3, u6, qj1, qj2, efj, ecj, nI_subN hNF, nI_subN hT.1, nI_add]
            exact ⟨rfl, rfl, rfl, p4, p5⟩
          · rw [pk_un e, pk_un e, pk_un e', pk_un e', pk_un e', pk_un e, sn a (by omega) (by omega) (by omega) (by omega) (by omega) (by omega) (by omega), sn (7 + a) (by omega) (by omega) (by omega) (by omega) (by omega) (by omega) (by omega), sn (14 + a) (by omega) (by omega) (by omega) (by omega) (by omega) (by omega) (by omega)]
            exact ⟨p1, p2, p3, p4, p5⟩

