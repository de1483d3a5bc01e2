theorem q_salts (a n : Int32) : cOK m_X11_salts m_X12_salts [.int a, .int n] := by
  intro G x y σ τ ⟨h, sz, L, LF, pr, hR⟩
  have h7 := r_7 hR
  obtain ⟨o, nn, k1, k2, k3⟩ := hR.2.2.2.2.1
  obtain ⟨c1, c2, c3, c4, c5⟩ := hR.2.2.2.1
  refine ⟨_, c_salts (r_c hR).1 h7 k1, ?_⟩
  rintro v r1 σ1 τ1 ⟨rfl, rfl, H⟩
  rcases H with ⟨b, rfl, rfl⟩ | ⟨i, hi, rfl, hn, hl, rfl, rfl⟩ | ⟨i, hi, rfl, hn, hl, rfl, o1, e14, e11, kp⟩
  · refine ⟨-1, rfl, rfl, _, d_salts (r_R hR) k2 k1.2.2.2, ?_⟩
    rintro v' r2 σ2 τ2 ⟨rfl, rfl, H2⟩
    rcases H2 with ⟨-, rfl, rfl⟩ | ⟨i, hi, rfl, hn, -⟩ | ⟨i, hi, rfl, hn, -⟩
    · exact ⟨rfl, rfl, h, sz, L, LF, pr, hR⟩
    · exact absurd ⟨isH_nI hi h7, hn⟩ b
    · exact absurd ⟨isH_nI hi h7, hn⟩ b
  · refine ⟨-2, rfl, rfl, _, d_salts (r_R hR) k2 k1.2.2.2, ?_⟩
    rintro v' r2 σ2 τ2 ⟨rfl, rfl, H2⟩
    rcases H2 with ⟨b, -⟩ | ⟨j, hj, e, hn', hl', rfl, rfl⟩ | ⟨j, hj, e, hn', hl', -⟩
    · exact absurd ⟨isH_nI hi h7, hn⟩ b
    · exact ⟨rfl, rfl, h, sz, L, LF, pr, hR⟩
    · obtain rfl := nI_inj7 (by omega) (by omega) e
      rw [← (c5 i hi).1, ← (c5 i hi).2.2.1, ← c4] at hl'
      exact absurd hl hl'
  · have hR1 := R2_1 hR o1 (by decide)
    have e98 : σ1 98 = σ 98 := o1 98 (by decide)
    refine ⟨σ 11 7 - n, rfl, rfl, _, d_salts (r_R hR1) (by rw [o1 64 (by decide)]; exact k2) k1.2.2.2, ?_⟩
    rintro v' r2 σ2 τ2 ⟨rfl, rfl, H2⟩
    rcases H2 with ⟨b, -⟩ | ⟨j, hj, e, hn', hl', -⟩ | ⟨j, hj, e, hn', hl', rfl, s1, d⟩
    · exact absurd ⟨isH_nI hi h7, hn⟩ b
    · obtain rfl := nI_inj7 (by omega) (by omega) e
      rw [e98, ← (c5 i hi).1, ← (c5 i hi).2.2.1, ← c4] at hl'
      exact absurd hl' hl
    · obtain rfl := nI_inj7 (by omega) (by omega) e
      rw [e98] at s1 ⊢
      obtain ⟨q1, q2, q3, q4, q5⟩ := c5 i hi
      refine ⟨by rw [c4], rfl, R2_deed hR k1 k3 o1 (by decide) kp d (pr' := pr) ?_⟩
      obtain ⟨z1, z2, z3, z4, z5⟩ := c1
      obtain ⟨N, n1, n2, rfl⟩ := in_199 hn
      obtain ⟨n3, n4, n5, n6⟩ := z2 i hi
      obtain ⟨F, f1, ef⟩ := rg (B := 9999) n3 n4 (by decide)
      obtain ⟨S, f2, es⟩ := rg (B := F) n5 (by rw [← ef]; exact n6) (by omega)
      have hNF : S + N ≤ F := by
        refine Nat.not_lt.mp (fun q => hl (Or.inl ?_))
        rw [q1, q3, ef, es, nI_subN f2]; exact nI_lt (by omega) (by omega)
      have sn : ∀ j, j < 37 → j ≠ 14 + i → j ≠ 35 → σ2 98 j = σ 98 j := fun j h1 h2 h3 => by rw [s1 j h1, pk_un h3, pk_un h2]
      have s14 : σ2 98 (14 + i) = nI (S + N) := by rw [s1 _ (by omega), pk_un (by omega), pk_us, es, nI_add]
      refine ⟨⟨fun a a1 a2 => ?_, fun a ha => ?_, fun a ha => ?_, z4, fun a ha => ?_⟩, ?_, ?_, ?_, fun a ha => ?_⟩
      · rw [sn a (by omega) (by omega) (by omega), sn (7 + a) (by omega) (by omega) (by omega), sn (14 + a) (by omega) (by omega) (by omega), sn (21 + a) (by omega) (by omega) (by omega)]
        exact z1 a a1 a2
      · by_cases e : a = i
        · subst e
          rw [s14, sn a (by omega) (by omega) (by omega), ef]
          exact ⟨nI_pos' (by omega), (nI_leI (b := 9999) (by omega) (by decide)).mpr (by omega), nI_pos' (by omega), (nI_leI (by omega) (by omega)).mpr (by omega)⟩
        · rw [sn a (by omega) (by omega) (by omega), sn (14 + a) (by omega) (by omega) (by omega)]
          exact z2 a ha
      · rw [sn (7 + a) (by omega) (by omega) (by omega)]; exact z3 a ha
      · rw [sn (28 + a) (by omega) (by omega) (by omega)]; exact z5 a ha
      · rw [e11, pk_un (by decide)]; exact c2
      · rw [e11, pk_un (by decide), sn 36 (by omega) (by omega) (by omega)]; exact c3
      · rw [e11, pk_us, s1 35 (by omega), pk_us, c4]
      · obtain ⟨p1, p2, p3, p4, p5⟩ := c5 a ha
        rw [e14, o1 12 (by decide), o1 13 (by decide), o1 15 (by decide), o1 16 (by decide), sn a (by omega) (by omega) (by omega), sn (7 + a) (by omega) (by omega) (by omega), sn (21 + a) (by omega) (by omega) (by omega)]
        by_cases e : a = i
        · subst e
          rw [pk_us, s14, q3, es, nI_add]
          exact ⟨p1, p2, rfl, p4, p5⟩
        · rw [pk_un e, sn (14 + a) (by omega) (by omega) (by omega)]
          exact ⟨p1, p2, p3, p4, p5⟩
theorem hmax_rg {F S N : Nat} (hS : S ≤ F) (hF : F ≤ 9999) (hN : N ≤ 99) : hmax 0 (nI N - (nI F - nI S)) = nI (N - (F - S)) := by
  rw [nI_subN hS]
  unfold hmax
  by_cases c : F - S ≤ N
  · rw [nI_subN c]
    by_cases e : N - (F - S) = 0
    · rw [e]; rfl
    · first
      | rw [if_neg (fun q => nI_pos (n := N - (F - S)) (by omega) q)]
      | rw [if_pos (by exact nI_lt (a := 0) (by omega) (by omega))]
      | (split
         · rename_i q; first | rfl | exact absurd q (nI_pos (by omega))
         · rename_i q; first | rfl | exact absurd (nI_lt (a := 0) (b := N - (F - S)) (by omega) (by omega)) q)
  · have e : N - (F - S) = 0 := by omega
    rw [e]
    have hlt : nI N - nI (F - S) < 0 := by
      refine Int32.not_le.mp (fun q => ?_)
      have := Int32.le_iff_toInt_le.mp q
      rw [pk_sub_toInt (by omega) (by omega), show (0 : Int32).toInt = 0 from rfl] at this
      omega
    have hn : ¬ nI N - nI (F - S) > 0 := fun q => Int32.lt_irrefl (Int32.lt_trans hlt q)
    first
    | rw [if_pos hlt]; rfl
    | rw [if_neg hn]; rfl
    | (split
       · rename_i q; first | rfl | exact absurd q hn | exact absurd hlt q
       · rename_i q; first | rfl | exact absurd hlt q)

