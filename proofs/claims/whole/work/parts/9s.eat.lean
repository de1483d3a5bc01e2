theorem rg {z : Int32} {B : Nat} (h1 : 0 ≤ z) (h2 : z ≤ nI B) (hB : B < 2 ^ 31) : ∃ Z, Z ≤ B ∧ z = nI Z := ⟨_, clamp_le h1 h2 hB, clamp_nI h1⟩
theorem in_199 {n : Int32} (q : inI 1 99 n = true) : ∃ N, 1 ≤ N ∧ N ≤ 99 ∧ n = nI N := by
  have q' := of_decide_eq_true q
  obtain ⟨N, h1, rfl⟩ := rg (B := 99) (Int32.le_trans (by decide) q'.1) q'.2 (by decide)
  exact ⟨N, (nI_leI (a := 1) (by decide) (by omega)).mp q'.1, h1, rfl⟩
theorem nI_inj7 {i j : Nat} (hi : i < 8) (hj : j < 8) (e : nI i = nI j) : i = j := (nI_eq (by omega) (by omega)).mp e
section S9s
variable {σ σ1 : hS} {τ : hT} {h sz L : Nat} {LF : Nat → hF → Int32} {pr : Nat → Option Nat}
theorem R2_1 {Y : List Nat} (hR : R2 σ σ τ h sz L LF pr) (o1 : ∀ k, k ∉ Y → σ1 k = σ k) (hY : hdj Y (64 :: dCr) = true) : R2 σ σ1 τ h sz L LF pr := by
  have e := hdj_at o1 hY
  exact R2_r hR (fun c hc => e c (List.mem_cons_of_mem _ hc)) (fun j _ => by rw [e 64 (by decide)]) rfl
theorem hmin_rg {S F : Nat} (hS : S < 2 ^ 31) (hF : F < 2 ^ 31) : hmin (nI S) (nI F) = nI (min S F) := by
  unfold hmin
  by_cases c : nI S > nI F
  · have := (nI_ltI hF hS).mp c
    rw [if_pos c, Nat.min_eq_right (by omega)]
  · have : ¬ F < S := fun q => c ((nI_ltI hF hS).mpr q)
    rw [if_neg c, Nat.min_eq_left (by omega)]
end S9s
theorem q_eat (a n : Int32) : cOK m_X11_eat m_X12_eat [.int a, .int n] := by
  intro G x y σ τ ⟨h, sz, L, LF, pr, hR⟩
  have h7 := r_7 hR
  obtain ⟨o, nn, k1, k2, k3⟩ := hR.2.2.2.2.1
  obtain ⟨c1, c2, c3, c4, c5⟩ := hR.2.2.2.1
  refine ⟨_, c_eat (r_c hR).1 h7 k1, ?_⟩
  rintro v r1 σ1 τ1 ⟨rfl, rfl, H⟩
  rcases H with ⟨b, rfl, rfl⟩ | ⟨i, hi, rfl, hn, hl, rfl, rfl⟩ | ⟨i, hi, rfl, hn, hl, rfl, o1, e12, e14, e15, kp⟩
  · refine ⟨-1, rfl, rfl, _, d_eat (r_R hR) k2 k1.2.2.2, ?_⟩
    rintro v' r2 σ2 τ2 ⟨rfl, rfl, H2⟩
    rcases H2 with ⟨-, rfl, rfl⟩ | ⟨i, hi, rfl, hn, -⟩ | ⟨i, hi, rfl, hn, -⟩
    · exact ⟨rfl, rfl, h, sz, L, LF, pr, hR⟩
    · exact absurd ⟨isH_nI hi h7, hn⟩ b
    · exact absurd ⟨isH_nI hi h7, hn⟩ b
  · refine ⟨-2, rfl, rfl, _, d_eat (r_R hR) k2 k1.2.2.2, ?_⟩
    rintro v' r2 σ2 τ2 ⟨rfl, rfl, H2⟩
    rcases H2 with ⟨b, -⟩ | ⟨j, hj, e, hn', hl', rfl, rfl⟩ | ⟨j, hj, e, hn', hl', -⟩
    · exact absurd ⟨isH_nI hi h7, hn⟩ b
    · exact ⟨rfl, rfl, h, sz, L, LF, pr, hR⟩
    · obtain rfl := nI_inj7 (by omega) (by omega) e
      rw [← (c5 i hi).1] at hl'
      exact absurd hl hl'
  · have hR1 := R2_1 hR o1 (by decide)
    have e98 : σ1 98 = σ 98 := o1 98 (by decide)
    refine ⟨σ 12 i - n, rfl, rfl, _, d_eat (r_R hR1) (by rw [o1 64 (by decide)]; exact k2) k1.2.2.2, ?_⟩
    rintro v' r2 σ2 τ2 ⟨rfl, rfl, H2⟩
    rcases H2 with ⟨b, -⟩ | ⟨j, hj, e, hn', hl', -⟩ | ⟨j, hj, e, hn', hl', rfl, s1, s2, s3, s4, d⟩
    · exact absurd ⟨isH_nI hi h7, hn⟩ b
    · obtain rfl := nI_inj7 (by omega) (by omega) e
      rw [e98, ← (c5 i hi).1] at hl'
      exact absurd hl' hl
    · obtain rfl := nI_inj7 (by omega) (by omega) e
      rw [e98] at s1 s2 s3 s4 ⊢
      obtain ⟨q1, q2, q3, q4, q5⟩ := c5 i hi
      refine ⟨by rw [q1], rfl, R2_deed hR k1 k3 o1 (by decide) kp d (pr' := pr) ?_⟩
      obtain ⟨z1, z2, z3, z4, z5⟩ := c1
      obtain ⟨N, n1, n2, rfl⟩ := in_199 hn
      obtain ⟨n3, n4, n5, n6⟩ := z2 i hi
      obtain ⟨F, f1, ef⟩ := rg (B := 9999) n3 n4 (by decide)
      obtain ⟨S, f2, es⟩ := rg (B := F) n5 (by rw [← ef]; exact n6) (by omega)
      have hNF : N ≤ F := by
        refine Nat.not_lt.mp (fun q => hl ?_)
        rw [q1, ef]; exact nI_lt q (by omega)
      rw [ef, nI_subN hNF] at s1 s3
      rw [es, hmin_rg (by omega) (by omega)] at s3
      refine ⟨⟨fun a a1 a2 => ?_, fun a ha => ?_, fun a ha => ?_, z4, fun a ha => ?_⟩, ?_, ?_, ?_, fun a ha => ?_⟩
      · rw [s4 a (by omega) (by omega) (by omega) (by omega), s4 (7 + a) (by omega) (by omega) (by omega) (by omega), s4 (14 + a) (by omega) (by omega) (by omega) (by omega), s4 (21 + a) (by omega) (by omega) (by omega) (by omega)]
        exact z1 a a1 a2
      · by_cases e : a = i
        · subst e
          rw [s1, s3]
          exact ⟨nI_pos' (by omega), (nI_leI (b := 9999) (by omega) (by decide)).mpr (by omega), nI_pos' (by omega), (nI_leI (by omega) (by omega)).mpr (by omega)⟩
        · rw [s4 a (by omega) (by omega) (by omega) (by omega), s4 (14 + a) (by omega) (by omega) (by omega) (by omega)]
          exact z2 a ha
      · rw [s4 (7 + a) (by omega) (by omega) (by omega) (by omega)]; exact z3 a ha
      · rw [s4 (28 + a) (by omega) (by omega) (by omega) (by omega)]; exact z5 a ha
      · rw [o1 11 (by decide)]; exact c2
      · rw [o1 11 (by decide), s4 36 (by omega) (by omega) (by omega) (by omega)]; exact c3
      · rw [o1 11 (by decide), s4 35 (by omega) (by omega) (by omega) (by omega)]; exact c4
      · obtain ⟨p1, p2, p3, p4, p5⟩ := c5 a ha
        rw [e12, e14, e15, o1 13 (by decide), o1 16 (by decide), s4 (7 + a) (by omega) (by omega) (by omega) (by omega)]
        by_cases e : a = i
        · subst e
          rw [pk_us, pk_us, pk_us, s1, s2, s3, q1, q3, q4, ef, es, nI_subN hNF, hmin_rg (by omega) (by omega)]
          exact ⟨rfl, p2, rfl, rfl, p5⟩
        · rw [pk_un e, pk_un e, pk_un e, s4 a (by omega) (by omega) (by omega) (by omega), s4 (14 + a) (by omega) (by omega) (by omega) (by omega), s4 (21 + a) (by omega) (by omega) (by omega) (by omega)]
          exact ⟨p1, p2, p3, p4, p5⟩

