/-! the questions -/
section S9o
variable {σ σ1 : hS} {τ : hT} {h sz L : Nat} {LF : Nat → hF → Int32} {pr : Nat → Option Nat}
theorem hcl_nI {b : Nat} {v : Int32} (hb : b < 2 ^ 31) : ∃ z, z ≤ b ∧ hcl 0 (nI b) v = nI z := by
  have h := hcl_rng (f := nI b) (v := v) (nI_pos' hb)
  exact ⟨_, clamp_le h.1 h.2 hb, clamp_nI h.1⟩
theorem hcl_1 {v : Int32} : ∃ z, 1 ≤ z ∧ z ≤ 99 ∧ hcl 1 99 v = nI z := by
  rw [← hldM_eq (show (1 : Int32) ≤ 99 by decide)]
  unfold hldM
  by_cases c1 : 1 ≤ v
  · rw [if_pos c1]
    by_cases c2 : v ≤ 99
    · rw [if_pos c2]
      have h0 : 0 ≤ v := Int32.le_trans (by decide) c1
      refine ⟨v.toNatClampNeg, ?_, clamp_le h0 c2 (by decide), clamp_nI h0⟩
      have e := clamp_nI h0
      rw [e] at c1
      exact (nI_leI (a := 1) (by decide) (by have := clamp_le (n := 99) h0 c2 (by decide); omega)).mp c1
    · rw [if_neg c2]; exact ⟨99, by decide, by decide, rfl⟩
  · rw [if_neg c1]; exact ⟨1, by decide, by decide, rfl⟩
theorem fDl1_congr {D E : Nat → Nat → Bool} {g : Nat} {s : Nat × Int32} : ∀ n, (∀ t, t < n → D g t = E g t) → fDl1 D g s n = fDl1 E g s n
  | 0, _ => rfl
  | n + 1, q => by rw [fDl1, fDl1, fDl1_congr n (fun t ht => q t (by omega)), q n (by omega)]
theorem fDl_congr {D E : Nat → Nat → Bool} {h : Nat} : ∀ n, (∀ g t, g < n → t < h → D g t = E g t) → fDl D h n = fDl E h n
  | 0, _ => rfl
  | n + 1, q => by rw [fDl, fDl, fDl_congr n (fun g t hg ht => q g t (by omega) ht), fDl1_congr h (fun t ht => q n t (by omega) ht)]
theorem amax_congr {f g : hF} : ∀ n, (∀ a, a < n → f a = g a) → amax f n = amax g n
  | 0, _ => rfl
  | n + 1, q => by
    rw [amax, amax, amax_congr n (fun a ha => q a (by omega)), q n (by omega)]
    by_cases c : n = 0
    · rw [if_pos c, if_pos c]
    · rw [if_neg c, if_neg c, q (amax g n) (by have := amax_le g n; omega)]
theorem fHld_congr {f g : hF} : ∀ n, (∀ a, a < n → f a = g a) → fHld f n = fHld g n
  | 0, _ => rfl
  | n + 1, q => by rw [fHld, fHld, fHld_congr n (fun a ha => q a (by omega)), q n (by omega)]
theorem fLst_congr {P Q : Nat → Bool} (q : ∀ i, P i = Q i) : ∀ n i, fLst P n i = fLst Q n i
  | 0, _ => rfl
  | n + 1, i => by rw [fLst, fLst, q i, fLst_congr q n (i + 1)]
theorem in_124 {n : Int32} : inI 1 24 n = true ↔ inI 0 24 n = true ∧ ¬ n = 0 := by
  have key : ∀ i, i < 25 → (inI 1 24 (nI i) = true ↔ ¬ nI i = 0) := by decide
  constructor
  · intro q
    have q' := of_decide_eq_true q
    have q0 : inI 0 24 n = true := decide_eq_true ⟨Int32.le_trans (by decide) q'.1, q'.2⟩
    obtain ⟨i, hi, rfl⟩ := inI_ix (n := 24) (by decide) q0
    exact ⟨q0, (key i (by omega)).mp q⟩
  · rintro ⟨q0, q1⟩
    obtain ⟨i, hi, rfl⟩ := inI_ix (n := 24) (by decide) q0
    exact (key i (by omega)).mpr q1
/-- votes are small -/
theorem v_rng {t : hTw} {d : hDy} {all : Int32} (i : Nat) : ∃ z, z ≤ 999 ∧ fVotes t d all i = nI z := hcl_nI (b := 999) (by decide)
theorem had_rng {V : hF} {pr : Nat → Option Nat} (hV : ∀ i, ∃ z, z ≤ 999 ∧ V i = nI z) : ∀ n a, ∃ z, z ≤ n * 999 ∧ fHad V pr n a = nI z
  | 0, a => ⟨0, by omega, rfl⟩
  | n + 1, a => by
    obtain ⟨z1, h1, e1⟩ := had_rng (pr := pr) hV n a
    obtain ⟨z3, h3, e3⟩ := had_rng (pr := pr) hV n ((pr n).getD n)
    obtain ⟨z2, h2, e2⟩ := hV n
    rw [fHad]
    by_cases c : a = (pr n).getD n
    · rw [c, pk_us, e3, e2, nI_add]; exact ⟨_, by rw [Nat.succ_mul]; exact Nat.add_le_add h3 h2, rfl⟩
    · rw [pk_un c]; exact ⟨z1, Nat.le_trans h1 (Nat.mul_le_mul_right _ (Nat.le_succ n)), e1⟩
theorem fSm_rng {f : hF} {B m : Nat} (hf : ∀ a, ∃ z, z ≤ B ∧ f a = nI z) : ∀ n, ∃ z, z ≤ n * B ∧ fSm f m n = nI z
  | 0 => ⟨0, by omega, rfl⟩
  | n + 1 => by
    obtain ⟨z1, h1, e1⟩ := fSm_rng (m := m) hf n
    obtain ⟨z2, h2, e2⟩ := hf n
    rw [fSm, e1]
    by_cases c : m.testBit n = true
    · rw [if_pos c, e2, nI_add]; exact ⟨_, by rw [Nat.succ_mul]; omega, rfl⟩
    · rw [if_neg c]; exact ⟨z1, by rw [Nat.succ_mul]; omega, by rw [show (0 : Int32) = nI 0 from rfl, nI_add]; rfl⟩
theorem hsum_rng {f : hF} {B : Nat} (hf : ∀ a, ∃ z, z ≤ B ∧ f a = nI z) : ∀ n, ∃ z, z ≤ n * B ∧ hsum f n = nI z
  | 0 => ⟨0, by omega, rfl⟩
  | n + 1 => by
    obtain ⟨z1, h1, e1⟩ := hsum_rng hf n
    obtain ⟨z2, h2, e2⟩ := hf n
    rw [hsum, e1, e2, nI_add]
    exact ⟨_, by rw [Nat.succ_mul]; omega, rfl⟩
theorem half_iff {c t : Nat} (hc : c < 2 ^ 29) (ht : t < 2 ^ 29) : nI c ≤ nI t - nI c ↔ 2 * nI c ≤ nI t := by
  rw [i32_le, pk_sub_toInt (by omega) (by omega), show (2 : Int32) = nI 2 from rfl, pk_mul, nI_leI (by omega) (by omega)]
  rw [show (nI c).toInt = (c : Int) from nI_toInt (by omega)]
  omega
end S9o

