/-! what the TOKENS of a text are -/
def bN (f : hF) (i : Nat) : Nat := (f i).toBitVec.toNat % 256
theorem bN_lt (f : hF) (i : Nat) : bN f i < 256 := Nat.mod_lt _ (by decide)
theorem bN_eq (f : hF) (i : Nat) : f i &&& 255 = nI (bN f i) := pk_and (f i) 8 (by decide)
def isBl (b : Nat) : Bool := decide (b = 9 ∨ b = 10 ∨ b = 13 ∨ b = 32)
def isLt (b : Nat) : Bool := decide (97 ≤ b ∧ b ≤ 122)
def isDg (b : Nat) : Bool := decide (48 ≤ b ∧ b ≤ 57)
/-- behind the blanks -/
def nb (f : hF) (n : Nat) : Nat → Nat → Nat
  | 0, p => p
  | k + 1, p => if p < n ∧ isBl (bN f p) = true then nb f n k (p + 1) else p
/-- how many of a sort stand in a row -/
def rn (S : Nat → Bool) (f : hF) (n : Nat) : Nat → Nat → Nat
  | 0, _ => 0
  | k + 1, p => if p < n ∧ S (bN f p) = true then rn S f n k (p + 1) + 1 else 0
theorem nb_le (f : hF) {n : Nat} : ∀ k p, p ≤ n → p ≤ nb f n k p ∧ nb f n k p ≤ n
  | 0, p, h => ⟨Nat.le_refl _, h⟩
  | k + 1, p, h => by
    unfold nb
    split
    · rename_i c
      have := nb_le f (n := n) k (p + 1) (by omega)
      omega
    · exact ⟨Nat.le_refl _, h⟩
theorem nb_end (f : hF) {n : Nat} : ∀ k, nb f n k n = n
  | 0 => rfl
  | k + 1 => by rw [nb, if_neg (fun q => absurd q.1 (Nat.lt_irrefl _))]
/-- the fuel does not matter -/
theorem nb_fuel (f : hF) {n : Nat} : ∀ k j p, n ≤ p + k → n ≤ p + j → nb f n k p = nb f n j p
  | 0, j, p, h, _ => by
    cases j with
    | zero => rfl
    | succ j => rw [nb, nb, if_neg (fun q => by omega)]
  | k + 1, 0, p, _, h => by rw [nb, nb, if_neg (fun q => by omega)]
  | k + 1, j + 1, p, h1, h2 => by rw [nb, nb, nb_fuel f k j (p + 1) (by omega) (by omega)]
theorem nb_stop (f : hF) {n : Nat} : ∀ k p, n ≤ p + k → ¬ (nb f n k p < n ∧ isBl (bN f (nb f n k p)) = true)
  | 0, p, h => fun q => by rw [nb] at q; omega
  | k + 1, p, h => by
    unfold nb
    split
    · exact nb_stop f k (p + 1) (by omega)
    · rename_i c; exact c
theorem rn_le (S : Nat → Bool) (f : hF) {n : Nat} : ∀ k p, rn S f n k p ≤ n - p ∧ rn S f n k p ≤ k
  | 0, p => ⟨Nat.zero_le _, Nat.le_refl _⟩
  | k + 1, p => by
    unfold rn
    split
    · rename_i c
      have := rn_le S f (n := n) k (p + 1)
      omega
    · omega
theorem rn_fuel (S : Nat → Bool) (f : hF) {n : Nat} : ∀ k j p, n ≤ p + k → n ≤ p + j → rn S f n k p = rn S f n j p
  | 0, j, p, h, _ => by
    cases j with
    | zero => rfl
    | succ j => rw [rn, rn, if_neg (fun q => by omega)]
  | k + 1, 0, p, _, h => by rw [rn, rn, if_neg (fun q => by omega)]
  | k + 1, j + 1, p, h1, h2 => by rw [rn, rn, rn_fuel S f k j (p + 1) (by omega) (by omega)]
theorem rn_all (S : Nat → Bool) (f : hF) {n : Nat} : ∀ k p i, i < rn S f n k p → p + i < n ∧ S (bN f (p + i)) = true
  | 0, p, i, h => absurd h (by simp [rn])
  | k + 1, p, i, h => by
    unfold rn at h
    split at h
    · rename_i c
      cases i with
      | zero => exact c
      | succ i =>
        have := rn_all S f (n := n) k (p + 1) i (by omega)
        rw [show p + 1 + i = p + (i + 1) by omega] at this
        exact this
    · exact absurd h (by omega)
theorem rn_stop (S : Nat → Bool) (f : hF) {n : Nat} : ∀ k p, n ≤ p + k → ¬ (p + rn S f n k p < n ∧ S (bN f (p + rn S f n k p)) = true)
  | 0, p, h => fun q => by rw [rn] at q; omega
  | k + 1, p, h => by
    unfold rn
    split
    · have := rn_stop S f (n := n) k (p + 1) (by omega)
      rw [show p + (rn S f n k (p + 1) + 1) = p + 1 + rn S f n k (p + 1) by omega]
      exact this
    · rename_i c; exact c
/-- one more of the row is seen -/
theorem rn_at (S : Nat → Bool) (f : hF) {n k p i : Nat} (hk : n ≤ p + k) : (i ≤ rn S f n k p) → ((p + i < n ∧ S (bN f (p + i)) = true) ↔ i < rn S f n k p) := by
  intro h
  constructor
  · intro q
    rcases Nat.lt_or_eq_of_le h with e | e
    · exact e
    · rw [e] at q; exact absurd q (rn_stop S f k p hk)
  · exact rn_all S f k p i
def dgs (f : hF) (p : Nat) : Nat → Nat
  | 0 => 0
  | m + 1 => 27 * dgs f p m + (bN f (p + m) - 96)
def num (f : hF) (p : Nat) : Nat → Nat
  | 0 => 0
  | m + 1 => 10 * num f p m + (bN f (p + m) - 48)
theorem num_lt (f : hF) (p : Nat) : ∀ m, (∀ i, i < m → isDg (bN f (p + i)) = true) → num f p m < 10 ^ m
  | 0, _ => by simp [num]
  | m + 1, h => by
    have h1 := num_lt f p m (fun i hi => h i (by omega))
    have h2 := of_decide_eq_true (h m (by omega))
    rw [num, Nat.pow_succ]
    omega
theorem dgs_lt (f : hF) (p : Nat) : ∀ m, (∀ i, i < m → isLt (bN f (p + i)) = true) → dgs f p m < 27 ^ m
  | 0, _ => by simp [dgs]
  | m + 1, h => by
    have h1 := dgs_lt f p m (fun i hi => h i (by omega))
    have h2 := of_decide_eq_true (h m (by omega))
    rw [dgs, Nat.pow_succ]
    omega
/-- two names are one if their numbers are -/
theorem dgs_inj (f : hF) (p q : Nat) : ∀ m k, (∀ i, i < m → isLt (bN f (p + i)) = true) → (∀ i, i < k → isLt (bN f (q + i)) = true) → dgs f p m = dgs f q k → m = k ∧ ∀ i, i < m → bN f (p + i) = bN f (q + i)
  | 0, 0, _, _, _ => ⟨rfl, fun i hi => absurd hi (by omega)⟩
  | 0, k + 1, _, h2, e => by
    have h4 := of_decide_eq_true (h2 k (by omega))
    rw [dgs, dgs] at e; omega
  | m + 1, 0, h1, _, e => by
    have h3 := of_decide_eq_true (h1 m (by omega))
    rw [dgs, dgs] at e; omega
  | m + 1, k + 1, h1, h2, e => by
    have h3 := of_decide_eq_true (h1 m (by omega))
    have h4 := of_decide_eq_true (h2 k (by omega))
    rw [dgs, dgs] at e
    obtain ⟨a1, a2⟩ := dgs_inj f p q m k (fun i hi => h1 i (by omega)) (fun i hi => h2 i (by omega)) (by omega)
    subst a1
    refine ⟨rfl, fun i hi => ?_⟩
    by_cases c : i = m
    · subst c; omega
    · exact a2 i (by omega)
theorem dgs_eq (f : hF) (p q : Nat) : ∀ m, (∀ i, i < m → bN f (p + i) = bN f (q + i)) → dgs f p m = dgs f q m
  | 0, _ => rfl
  | m + 1, h => by rw [dgs, dgs, dgs_eq f p q m (fun i hi => h i (by omega)), h m (by omega)]
/-- the words: letters, and the number of each -/
def wln (w : Nat) : Nat := [5, 5, 6, 5, 4, 4, 5, 4, 4, 4, 4, 2, 4, 4, 4, 3, 3, 6, 5, 4, 6, 3, 5].getD w 0
def wby (j : Nat) : hF := fun i => wch (j + i)
def keyW (w : Nat) : Nat := dgs (wby (6 * w)) 0 (wln w)
theorem wch_let : ∀ w, w < 23 → ∀ i, i < 6 → (i < wln w → isLt (bN (wby (6 * w)) i) = true ∧ wch (6 * w + i) = nI (bN (wby (6 * w)) i)) ∧ (wln w ≤ i → wch (6 * w + i) = 32) := by decide +kernel
theorem wln_le : ∀ w, w < 23 → wln w ≤ 6 ∧ 1 ≤ wln w := by decide
theorem keyW_inj : ∀ w, w < 23 → ∀ v, v < 23 → keyW w = keyW v → w = v := by decide +kernel
/-- the word with that number -/
def wkF (d : Nat) : Nat → Nat
  | 0 => 23
  | k + 1 => if keyW k = d then k else wkF d k
theorem wkF_no {d : Nat} : ∀ k, (∀ w, w < k → ¬ keyW w = d) → wkF d k = 23
  | 0, _ => rfl
  | k + 1, h => by rw [wkF, if_neg (h k (by omega)), wkF_no k (fun w hw => h w (by omega))]
theorem wkF_at {d w : Nat} : ∀ k, k ≤ 23 → w < k → keyW w = d → wkF d k = w
  | 0, _, h, _ => absurd h (by omega)
  | k + 1, hk, h, e => by
    rw [wkF]
    split
    · rename_i c; exact keyW_inj k (by omega) w (by omega) (c.trans e.symm)
    · rename_i c
      by_cases q : w = k
      · subst q; exact absurd e c
      · exact wkF_at k (by omega) (by omega) e
theorem wkF_le {d : Nat} : ∀ k, k ≤ 23 → wkF d k ≤ 23
  | 0, _ => Nat.le_refl 23
  | k + 1, hk => by
    rw [wkF]
    split
    · omega
    · exact wkF_le k (by omega)
/-- a word is seen, letter by letter -/
theorem word_eq {f : hF} {p m w : Nat} (hw : w < 23) (hm : ∀ i, i < m → isLt (bN f (p + i)) = true) (h6 : m ≤ 6) : (∀ i, i < 6 → wch (w * 6 + i) = if i < m then nI (bN f (p + i)) else 32) ↔ dgs f p m = keyW w := by
  have hl := wln_le w hw
  rw [Nat.mul_comm w 6]
  constructor
  · intro h
    have hmw : m = wln w := by
      by_cases c1 : m < wln w
      · have h1 := h m (by omega)
        have h2 := (wch_let w hw m (by omega)).1 c1
        rw [if_neg (by omega), h2.2] at h1
        have h3 := (nI_eq (a := bN (wby (6 * w)) m) (b := 32) (by have := bN_lt (wby (6 * w)) m; omega) (by decide)).mp h1
        have h4 := of_decide_eq_true h2.1
        omega
      · by_cases c2 : wln w < m
        · have h1 := h (wln w) (by omega)
          have h2 := (wch_let w hw (wln w) (by omega)).2 (Nat.le_refl _)
          rw [if_pos c2, h2] at h1
          have h3 := (nI_eq (a := 32) (b := bN f (p + wln w)) (by decide) (by have := bN_lt f (p + wln w); omega)).mp h1
          have h4 := of_decide_eq_true (hm (wln w) c2)
          omega
        · omega
    have hgo : ∀ k, k ≤ m → dgs f p k = dgs (wby (6 * w)) 0 k := by
      intro k
      induction k with
      | zero => intro _; rw [dgs, dgs]
      | succ k ih =>
        intro hk
        have h1 := h k (by omega)
        have h2 := (wch_let w hw k (by omega)).1 (by omega)
        rw [if_pos (by omega), h2.2] at h1
        have h3 := (nI_eq (by have := bN_lt (wby (6 * w)) k; omega) (by have := bN_lt f (p + k); omega)).mp h1
        rw [dgs, dgs, ih (by omega), ← h3, Nat.zero_add]
    rw [hgo m (Nat.le_refl _), hmw]
    rfl
  · intro h i hi
    have hb : ∀ k, k < wln w → isLt (bN (wby (6 * w)) (0 + k)) = true := fun k hk => by rw [Nat.zero_add]; exact ((wch_let w hw k (by omega)).1 hk).1
    have key : ∀ m k, (∀ i, i < m → isLt (bN f (p + i)) = true) → (∀ i, i < k → isLt (bN (wby (6 * w)) (0 + i)) = true) → dgs f p m = dgs (wby (6 * w)) 0 k → m = k ∧ ∀ i, i < m → bN f (p + i) = bN (wby (6 * w)) (0 + i) := by
      intro m
      induction m with
      | zero =>
        intro k _ h2 e
        cases k with
        | zero => exact ⟨rfl, fun i hi => absurd hi (by omega)⟩
        | succ k =>
          have h4 := of_decide_eq_true (h2 k (by omega))
          rw [dgs, dgs] at e; omega
      | succ m ih =>
        intro k h1 h2 e
        cases k with
        | zero =>
          have h3 := of_decide_eq_true (h1 m (by omega))
          rw [dgs, dgs] at e; omega
        | succ k =>
          have h3 := of_decide_eq_true (h1 m (by omega))
          have h4 := of_decide_eq_true (h2 k (by omega))
          rw [dgs, dgs] at e
          obtain ⟨a1, a2⟩ := ih k (fun i hi => h1 i (by omega)) (fun i hi => h2 i (by omega)) (by omega)
          subst a1
          refine ⟨rfl, fun i hi => ?_⟩
          by_cases c : i = m
          · subst c; omega
          · exact a2 i (by omega)
    obtain ⟨e1, e2⟩ := key m (wln w) hm hb h
    by_cases c : i < m
    · rw [if_pos c, e2 i c, Nat.zero_add]
      exact ((wch_let w hw i hi).1 (by omega)).2
    · rw [if_neg c]
      exact (wch_let w hw i hi).2 (by omega)
/-- the nine signs -/
def sgn (b : Nat) : Nat := if b = 59 then 27 else if b = 61 then 28 else if b = 43 then 29 else if b = 45 then 30 else if b = 42 then 31 else if b = 47 then 32 else if b = 60 then 33 else if b = 40 then 34 else if b = 41 then 35 else 26
theorem sgn_ix : ∀ b, b < 256 → (if ixF (nI b) 9 0 < 0 then (26 : Int32) else 27 + ixF (nI b) 9 0) = nI (sgn b) := by decide +kernel
theorem i2c_b : ∀ b, b < 256 → ((nI b).toUInt32 % 65536).toInt32 = nI b := by decide +kernel
/-! the token at a place -/
def tln (f : hF) (n p : Nat) : Nat := if p < n then (if isLt (bN f p) = true then rn isLt f n 2000 p else if isDg (bN f p) = true then rn isDg f n 2000 p else 1) else 0
def tkd (f : hF) (n p : Nat) : Nat := if isLt (bN f p) = true then (if 8 < rn isLt f n 2000 p then 26 else wkF (dgs f p (rn isLt f n 2000 p)) 23) else if isDg (bN f p) = true then (if 4 < rn isDg f n 2000 p then 26 else 24) else sgn (bN f p)
def tvl (f : hF) (n p : Nat) : Nat := if isLt (bN f p) = true then rn isLt f n 2000 p else if isDg (bN f p) = true then (if 4 < rn isDg f n 2000 p then 0 else num f p (rn isDg f n 2000 p)) else 0
theorem rn_pos {S : Nat → Bool} {f : hF} {n k p : Nat} (hp : p < n) (hs : S (bN f p) = true) : 1 ≤ rn S f n (k + 1) p := by rw [rn, if_pos ⟨hp, hs⟩]; omega
theorem tln_pos {f : hF} {n p : Nat} (hp : p < n) : 1 ≤ tln f n p ∧ p + tln f n p ≤ n := by
  unfold tln
  rw [if_pos hp]
  split
  · rename_i c
    have h1 : 1 ≤ rn isLt f n 2000 p := rn_pos (k := 1999) hp c
    have h2 := (rn_le isLt f (n := n) 2000 p).1
    omega
  · split
    · rename_i c
      have h1 : 1 ≤ rn isDg f n 2000 p := rn_pos (k := 1999) hp c
      have h2 := (rn_le isDg f (n := n) 2000 p).1
      omega
    · omega
/-- where the i-th token stands -/
def tq (f : hF) (n : Nat) : Nat → Nat
  | 0 => nb f n 2000 0
  | i + 1 => nb f n 2000 (tq f n i + tln f n (tq f n i))
theorem tq_le {f : hF} {n : Nat} : ∀ i, tq f n i ≤ n
  | 0 => (nb_le f 2000 0 (Nat.zero_le _)).2
  | i + 1 => by
    have h := tq_le (f := f) (n := n) i
    have h2 : tq f n i + tln f n (tq f n i) ≤ n := by
      by_cases c : tq f n i < n
      · exact (tln_pos (f := f) c).2
      · rw [tln, if_neg c]; omega
    exact (nb_le f 2000 _ h2).2
theorem tq_lt {f : hF} {n i : Nat} (h : tq f n i < n) : tq f n i < tq f n (i + 1) := by
  have h2 := tln_pos (f := f) h
  have h3 := (nb_le f 2000 _ h2.2).1
  rw [tq]; omega
def kd (f : hF) (n i : Nat) : Nat := if tq f n i < n then tkd f n (tq f n i) else 25
def vl (f : hF) (n i : Nat) : Nat := if tq f n i < n then tvl f n (tq f n i) else 0
/-- the tokens ahead were passed -/
def rel (f : hF) (n i : Nat) : Prop := i ≤ 400 ∧ ∀ j, j < i → kd f n j ≠ 25 ∧ kd f n j ≠ 26
theorem sgn_ne (b : Nat) : 26 ≤ sgn b ∧ sgn b ≤ 35 := by
  unfold sgn
  repeat' split
  all_goals omega
theorem tkd_le (f : hF) (n p : Nat) : tkd f n p ≤ 35 ∧ tkd f n p ≠ 25 := by
  unfold tkd
  have hs := sgn_ne (bN f p)
  have hw := wkF_le (d := dgs f p (rn isLt f n 2000 p)) 23 (Nat.le_refl _)
  repeat' split
  all_goals omega
theorem kd_le (f : hF) (n i : Nat) : kd f n i ≤ 35 := by
  unfold kd
  split
  · exact (tkd_le f n _).1
  · omega
theorem kd_25 {f : hF} {n i : Nat} : kd f n i = 25 ↔ ¬ tq f n i < n := by
  unfold kd
  split
  · rename_i c
    exact ⟨fun q => absurd q (tkd_le f n _).2, fun q => absurd c q⟩
  · rename_i c
    exact ⟨fun _ => c, fun _ => rfl⟩

