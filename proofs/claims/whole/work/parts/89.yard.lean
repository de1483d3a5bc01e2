/-! an E, read with a row of signs that wait -/
abbrev hYd : Type := Bool × Nat × List Nat × hCd
def opc (w : Nat) : Int32 × Int32 := (if w = 29 then 2 else if w = 30 then 3 else if w = 31 then 4 else 5, 0)
/-- what comes out of the row -/
def flA (s : Bool) : List Nat → hCd → List Nat × hCd
  | [], c => ([], c)
  | w :: W, c => if w = 34 ∨ (s = true ∧ (w = 29 ∨ w = 30)) then (w :: W, c) else flA s W (c ++ [opc w])
def opn : List Nat → Nat
  | [] => 0
  | w :: W => if w = 34 then opn W + 1 else opn W
section S89
variable (K V : Nat → Nat)
def stA (a : Nat) (W : List Nat) (c : hCd) : Sum hYd (hPR hCd) :=
  if K a = 34 then (if opn W = 6 then .inr (.inl (2, a)) else match pass a with | .inl e => .inr (.inl e) | .inr (b, _) => .inl (true, b, 34 :: W, c))
  else if K a = 24 then (match pass a with | .inl e => .inr (.inl e) | .inr (b, _) => .inl (false, b, W, c ++ [(0, nI (V a))]))
  else if 14 ≤ K a ∧ K a ≤ 22 then (match pass a with | .inl e => .inr (.inl e) | .inr (b, _) => .inl (false, b, W, c ++ [(1, nI (K a - 14))]))
  else .inr (.inl (1, a))
def stB (a : Nat) (W : List Nat) (c : hCd) : Sum hYd (hPR hCd) :=
  if K a = 35 ∧ 0 < opn W then (match pass a with | .inl e => .inr (.inl e) | .inr (b, _) => .inl (false, b, (flA false W c).1.tail, (flA false W c).2))
  else if 29 ≤ K a ∧ K a ≤ 32 then (match pass a with | .inl e => .inr (.inl e) | .inr (b, _) => .inl (true, b, K a :: (flA (decide (31 ≤ K a)) W c).1, (flA (decide (31 ≤ K a)) W c).2))
  else if 0 < opn W then .inr (.inl (1, a)) else .inr (.inr (a, (flA false W c).2))
def stp (s : hYd) : Sum hYd (hPR hCd) := if s.1 = true then stA K V s.2.1 s.2.2.1 s.2.2.2 else stB K s.2.1 s.2.2.1 s.2.2.2
def run : Nat → hYd → Option (hPR hCd)
  | 0, _ => none
  | k + 1, s => match stp K V s with
    | .inl s' => run k s'
    | .inr R => some R
def Ev (s : hYd) (R : hPR hCd) : Prop := ∃ k, run K V k s = some R
theorem ev_l {s s' : hYd} {R : hPR hCd} (h : stp K V s = .inl s') (h2 : Ev K V s' R) : Ev K V s R := by
  obtain ⟨k, hk⟩ := h2
  refine ⟨k + 1, ?_⟩
  show (match stp K V s with | .inl s' => run K V k s' | .inr R => some R) = some R
  rw [h]; exact hk
theorem ev_r {s : hYd} {R : hPR hCd} (h : stp K V s = .inr R) : Ev K V s R := by
  refine ⟨1, ?_⟩
  show (match stp K V s with | .inl s' => run K V 0 s' | .inr R => some R) = some R
  rw [h]
theorem ev_e {s s' : hYd} {R : hPR hCd} (h : stp K V s = stp K V s') (h2 : Ev K V s' R) : Ev K V s R := by
  obtain ⟨k, hk⟩ := h2
  cases k with
  | zero => cases hk
  | succ k =>
    refine ⟨k + 1, ?_⟩
    have e : ∀ z, run K V (k + 1) z = (match stp K V z with | .inl s' => run K V k s' | .inr R => some R) := fun _ => rfl
    rw [e] at hk ⊢
    rw [h]; exact hk
theorem fl_md {s : Bool} {w : Nat} {W : List Nat} {c : hCd} (hw : w = 31 ∨ w = 32) : flA s (w :: W) c = flA s W (c ++ [opc w]) := by
  show (if w = 34 ∨ (s = true ∧ (w = 29 ∨ w = 30)) then (w :: W, c) else flA s W (c ++ [opc w])) = _
  rw [if_neg (by omega)]
theorem fl_pm {w : Nat} {W : List Nat} {c : hCd} (hw : w = 29 ∨ w = 30) : flA false (w :: W) c = flA false W (c ++ [opc w]) := by
  show (if w = 34 ∨ (false = true ∧ (w = 29 ∨ w = 30)) then (w :: W, c) else flA false W (c ++ [opc w])) = _
  rw [if_neg (fun q => q.elim (by omega) (fun z => by cases z.1))]
theorem opn_n {w : Nat} {W : List Nat} (hw : w ≠ 34) : opn (w :: W) = opn W := if_neg hw
/-- a * or / that waits comes out next -/
theorem ev_F1 {w b : Nat} {W : List Nat} {c : hCd} {R : hPR hCd} (hw : w = 31 ∨ w = 32) (h : Ev K V (false, b, W, c ++ [opc w]) R) : Ev K V (false, b, w :: W, c) R := by
  refine ev_e K V ?_ h
  show stB K b (w :: W) c = stB K b W (c ++ [opc w])
  unfold stB
  rw [fl_md hw, fl_md hw, opn_n (by omega)]
theorem ev_F2 {w b : Nat} {W : List Nat} {c : hCd} {R : hPR hCd} (hw : w = 29 ∨ w = 30) (hb : K b ≠ 31 ∧ K b ≠ 32) (h : Ev K V (false, b, W, c ++ [opc w]) R) : Ev K V (false, b, w :: W, c) R := by
  refine ev_e K V ?_ h
  show stB K b (w :: W) c = stB K b W (c ++ [opc w])
  unfold stB
  rw [fl_pm hw, opn_n (by omega)]
  by_cases q : 29 ≤ K b ∧ K b ≤ 32
  · rw [decide_eq_false (show ¬ 31 ≤ K b by omega), fl_pm hw]
  · rw [if_neg q, if_neg q]
/-- the row's last sign -/
def top (W : List Nat) : Nat := W.headD 34
theorem fl_st {W : List Nat} {c : hCd} (h : top W = 34 ∨ top W = 29 ∨ top W = 30) : flA true W c = (W, c) := by
  cases W with
  | nil => rfl
  | cons w W =>
    show (if w = 34 ∨ (true = true ∧ (w = 29 ∨ w = 30)) then (w :: W, c) else flA true W (c ++ [opc w])) = _
    exact if_pos (h.elim Or.inl (fun q => Or.inr ⟨rfl, q⟩))
theorem fl_we {W : List Nat} {c : hCd} (h : top W = 34) : flA false W c = (W, c) := by
  cases W with
  | nil => rfl
  | cons w W =>
    show (if w = 34 ∨ (false = true ∧ (w = 29 ∨ w = 30)) then (w :: W, c) else flA false W (c ++ [opc w])) = _
    exact if_pos (Or.inl h)
def cnU (r : hPR hCd) (W : List Nat) (c : hCd) (R : hPR hCd) (P : Nat → Prop) : Prop := match r with
  | .inl x => R = .inl x
  | .inr (b, d) => P b → Ev K V (false, b, W, c ++ d) R
theorem prodL_ev {U : Nat → hPR hCd} {B e : Nat} (hO : ∀ a, a ≤ 400 → okG K a (exP K B a) (U a)) (hU : ∀ a W c R, a ≤ 400 → opn W + e = 6 → cnU K V (U a) W c R (fun _ => True) → Ev K V (true, a, W, c) R) {W : List Nat} {c : hCd} {R : hPR hCd} (ho : opn W + e = 6) (ht : top W = 34 ∨ top W = 29 ∨ top W = 30) : ∀ k b d, b ≤ 400 → 401 ≤ k + b → cnU K V (prodL K U k b d) W c R (fun b => K b ≠ 31 ∧ K b ≠ 32) → Ev K V (false, b, W, c ++ d) R
  | 0, b, d, hb, hk, h => absurd hb (by omega)
  | k + 1, b, d, hb, hk, h => by
    have e0 : prodL K U (k + 1) b d = if K b = 31 ∨ K b = 32 then bd (pass b) (fun a _ => bd (U a) (fun a' c' => prodL K U k a' (d ++ c' ++ [(if K b = 31 then 4 else 5, 0)]))) else .inr (b, d) := rfl
    rw [e0] at h
    by_cases q : K b = 31 ∨ K b = 32
    · rw [if_pos q] at h
      have hst : stp K V (false, b, W, c ++ d) = (match pass b with | .inl e => .inr (.inl e) | .inr (b', _) => .inl (true, b', K b :: W, c ++ d)) := by
        show stB K b W (c ++ d) = _
        unfold stB
        rw [if_neg (by omega), if_pos (by omega), decide_eq_true (show 31 ≤ K b by omega), fl_st ht]
      rcases hp : pass b with x | ⟨b', u⟩
      · rw [hp] at h hst
        rw [show R = .inl x from h]
        exact ev_r K V hst
      · have hb' : b < 400 ∧ b' = b + 1 := by
          unfold pass at hp
          split at hp
          · cases hp; exact ⟨by assumption, rfl⟩
          · cases hp
        rw [hp] at h hst
        refine ev_l K V hst (hU b' (K b :: W) (c ++ d) R (by omega) (by rw [opn_n (by omega)]; exact ho) ?_)
        have h2 := hO b' (by omega)
        rcases hu : U b' with x | ⟨b2, d2⟩
        · rw [show bd (Sum.inr (b', u) : hPR Unit) (fun a _ => bd (U a) (fun a' c' => prodL K U k a' (d ++ c' ++ [(if K b = 31 then 4 else 5, 0)]))) = .inl x by show bd (U b') _ = _; rw [hu]; rfl] at h
          exact h
        · rw [hu] at h2
          obtain ⟨g1, g2, g3, g4⟩ := h2
          rw [show bd (Sum.inr (b', u) : hPR Unit) (fun a _ => bd (U a) (fun a' c' => prodL K U k a' (d ++ c' ++ [(if K b = 31 then 4 else 5, 0)]))) = prodL K U k b2 (d ++ d2 ++ [(if K b = 31 then 4 else 5, 0)]) by show bd (U b') _ = _; rw [hu]; rfl] at h
          intro _
          refine ev_F1 K V q ?_
          have h3 := prodL_ev hO hU ho ht k b2 _ g2 (by omega) h
          have e1 : c ++ d ++ d2 ++ [opc (K b)] = c ++ (d ++ d2 ++ [(if K b = 31 then 4 else 5, 0)]) := by
            unfold opc
            rw [if_neg (by omega), if_neg (by omega)]
            simp only [List.append_assoc]
          rw [e1]; exact h3
    · rw [if_neg q] at h
      exact h ⟨fun z => q (Or.inl z), fun z => q (Or.inr z)⟩
theorem prodX_ev {U : Nat → hPR hCd} {B e : Nat} (hO : ∀ a, a ≤ 400 → okG K a (exP K B a) (U a)) (hU : ∀ a W c R, a ≤ 400 → opn W + e = 6 → cnU K V (U a) W c R (fun _ => True) → Ev K V (true, a, W, c) R) {W : List Nat} {c : hCd} {R : hPR hCd} {a : Nat} (ha : a ≤ 400) (ho : opn W + e = 6) (ht : top W = 34 ∨ top W = 29 ∨ top W = 30) (h : cnU K V (prodX K U a) W c R (fun b => K b ≠ 31 ∧ K b ≠ 32)) : Ev K V (true, a, W, c) R := by
  refine hU a W c R ha ho ?_
  unfold prodX at h
  have h2 := hO a ha
  rcases hu : U a with x | ⟨b, d⟩
  · rw [hu] at h; exact h
  · rw [hu] at h h2
    intro _
    exact prodL_ev K V hO hU ho ht 401 b d h2.2.1 (by omega) h
theorem sumL_ev {U : Nat → hPR hCd} {B e : Nat} (hO : ∀ a, a ≤ 400 → okG K a (exP K B a) (U a)) (hU : ∀ a W c R, a ≤ 400 → opn W + e = 6 → cnU K V (U a) W c R (fun _ => True) → Ev K V (true, a, W, c) R) {W : List Nat} {c : hCd} {R : hPR hCd} (ho : opn W + e = 6) (ht : top W = 34) : ∀ k b d, b ≤ 400 → 401 ≤ k + b → (K b ≠ 31 ∧ K b ≠ 32) → cnU K V (sumL K (prodX K U) k b d) W c R (fun b => (K b ≠ 31 ∧ K b ≠ 32) ∧ K b ≠ 29 ∧ K b ≠ 30) → Ev K V (false, b, W, c ++ d) R
  | 0, b, d, hb, hk, h0, h => absurd hb (by omega)
  | k + 1, b, d, hb, hk, h0, h => by
    have e0 : sumL K (prodX K U) (k + 1) b d = if K b = 29 ∨ K b = 30 then bd (pass b) (fun a _ => bd (prodX K U a) (fun a' c' => sumL K (prodX K U) k a' (d ++ c' ++ [(if K b = 29 then 2 else 3, 0)]))) else .inr (b, d) := rfl
    rw [e0] at h
    by_cases q : K b = 29 ∨ K b = 30
    · rw [if_pos q] at h
      have hst : stp K V (false, b, W, c ++ d) = (match pass b with | .inl e => .inr (.inl e) | .inr (b', _) => .inl (true, b', K b :: W, c ++ d)) := by
        show stB K b W (c ++ d) = _
        unfold stB
        rw [if_neg (by omega), if_pos (by omega), decide_eq_false (show ¬ 31 ≤ K b by omega), fl_we ht]
      rcases hp : pass b with x | ⟨b', u⟩
      · rw [hp] at h hst
        rw [show R = .inl x from h]
        exact ev_r K V hst
      · have hb' : b < 400 ∧ b' = b + 1 := by
          unfold pass at hp
          split at hp
          · cases hp; exact ⟨by assumption, rfl⟩
          · cases hp
        rw [hp] at h hst
        refine ev_l K V hst (prodX_ev K V hO hU (by omega) (by rw [opn_n (by omega)]; exact ho) (Or.inr q) ?_)
        have h2 := prodX_ok K hO b' (by omega)
        rcases hu : prodX K U b' with x | ⟨b2, d2⟩
        · rw [show bd (Sum.inr (b', u) : hPR Unit) (fun a _ => bd (prodX K U a) (fun a' c' => sumL K (prodX K U) k a' (d ++ c' ++ [(if K b = 29 then 2 else 3, 0)]))) = .inl x by show bd (prodX K U b') _ = _; rw [hu]; rfl] at h
          exact h
        · rw [hu] at h2
          obtain ⟨g1, g2, g3, g4⟩ := h2
          rw [show bd (Sum.inr (b', u) : hPR Unit) (fun a _ => bd (prodX K U a) (fun a' c' => sumL K (prodX K U) k a' (d ++ c' ++ [(if K b = 29 then 2 else 3, 0)]))) = sumL K (prodX K U) k b2 (d ++ d2 ++ [(if K b = 29 then 2 else 3, 0)]) by show bd (prodX K U b') _ = _; rw [hu]; rfl] at h
          intro z
          refine ev_F2 K V q z ?_
          have h3 := sumL_ev hO hU ho ht k b2 _ g2 (by omega) z h
          have e1 : c ++ d ++ d2 ++ [opc (K b)] = c ++ (d ++ d2 ++ [(if K b = 29 then 2 else 3, 0)]) := by
            unfold opc
            rcases q with q | q
            · rw [if_pos q, if_pos q]; simp only [List.append_assoc]
            · rw [if_neg (by omega), if_pos q, if_neg (by omega)]; simp only [List.append_assoc]
          rw [e1]; exact h3
    · rw [if_neg q] at h
      exact h ⟨h0, fun z => q (Or.inl z), fun z => q (Or.inr z)⟩
theorem sumX_ev {U : Nat → hPR hCd} {B e : Nat} (hO : ∀ a, a ≤ 400 → okG K a (exP K B a) (U a)) (hU : ∀ a W c R, a ≤ 400 → opn W + e = 6 → cnU K V (U a) W c R (fun _ => True) → Ev K V (true, a, W, c) R) {W : List Nat} {c : hCd} {R : hPR hCd} {a : Nat} (ha : a ≤ 400) (ho : opn W + e = 6) (ht : top W = 34) (h : cnU K V (sumX K U a) W c R (fun b => (K b ≠ 31 ∧ K b ≠ 32) ∧ K b ≠ 29 ∧ K b ≠ 30)) : Ev K V (true, a, W, c) R := by
  refine prodX_ev K V hO hU ha ho (Or.inl ht) ?_
  unfold sumX at h
  have h2 := prodX_ok K hO a ha
  rcases hu : prodX K U a with x | ⟨b, d⟩
  · rw [hu] at h; exact h
  · rw [hu] at h h2
    intro z
    exact sumL_ev K V hO hU ho ht 401 b d h2.2.1 (by omega) z h
theorem pass_cases (a : Nat) : (a < 400 ∧ pass a = .inr (a + 1, ())) ∨ (¬ a < 400 ∧ pass a = .inl (2, a)) := by
  by_cases c : a < 400
  · exact Or.inl ⟨c, if_pos c⟩
  · exact Or.inr ⟨c, if_neg c⟩
theorem uX_n {e a : Nat} (h : K a ≠ 34) : uX K V e a = if K a = 24 then bd (pass a) (fun b _ => .inr (b, [(0, nI (V a))])) else if 14 ≤ K a ∧ K a ≤ 22 then bd (pass a) (fun b _ => .inr (b, [(1, nI (K a - 14))])) else .inl (1, a) := by
  cases e with
  | zero => unfold uX; rw [if_neg h]
  | succ e => unfold uX; rw [if_neg h]
theorem uX_lf {e a : Nat} {W : List Nat} {c : hCd} {R : hPR hCd} (k34 : K a ≠ 34) (h : cnU K V (uX K V e a) W c R (fun _ => True)) : Ev K V (true, a, W, c) R := by
  rw [uX_n K V k34] at h
  have hst : stp K V (true, a, W, c) = stA K V a W c := rfl
  unfold stA at hst
  rw [if_neg k34] at hst
  by_cases c1 : K a = 24
  · rw [if_pos c1] at h hst
    rcases pass_cases a with ⟨p1, p2⟩ | ⟨p1, p2⟩
    · rw [p2] at h hst
      exact ev_l K V hst (h trivial)
    · rw [p2] at h hst
      rw [show R = .inl (2, a) from h]
      exact ev_r K V hst
  · rw [if_neg c1] at h hst
    by_cases c2 : 14 ≤ K a ∧ K a ≤ 22
    · rw [if_pos c2] at h hst
      rcases pass_cases a with ⟨p1, p2⟩ | ⟨p1, p2⟩
      · rw [p2] at h hst
        exact ev_l K V hst (h trivial)
      · rw [p2] at h hst
        rw [show R = .inl (2, a) from h]
        exact ev_r K V hst
    · rw [if_neg c2] at h hst
      rw [show R = .inl (1, a) from h]
      exact ev_r K V hst
theorem uX_ev : ∀ e a W c R, a ≤ 400 → opn W + e = 6 → cnU K V (uX K V e a) W c R (fun _ => True) → Ev K V (true, a, W, c) R := by
  intro e
  induction e with
  | zero =>
    intro a W c R ha ho h
    by_cases k34 : K a = 34
    · have e1 : uX K V 0 a = .inl (2, a) := by unfold uX; rw [if_neg (by omega), if_neg (by omega), if_pos k34]
      rw [e1] at h
      rw [show R = .inl (2, a) from h]
      refine ev_r K V ?_
      show stA K V a W c = _
      unfold stA
      rw [if_pos k34, if_pos (by omega)]
    · exact uX_lf K V k34 h
  | succ e ih =>
    intro a W c R ha ho h
    by_cases k34 : K a = 34
    · have e1 : uX K V (e + 1) a = bd (pass a) (fun a _ => bd (sumX K (uX K V e) a) (fun a' c => bd (tk K 35 a') (fun a'' _ => .inr (a'', c)))) := by
        show (if K a = 24 then _ else if 14 ≤ K a ∧ K a ≤ 22 then _ else if K a = 34 then _ else _) = _
        rw [if_neg (by omega), if_neg (by omega), if_pos k34]
      rw [e1] at h
      have hst : stp K V (true, a, W, c) = stA K V a W c := rfl
      unfold stA at hst
      rw [if_pos k34, if_neg (by omega)] at hst
      rcases pass_cases a with ⟨p1, p2⟩ | ⟨p1, p2⟩
      · rw [p2] at h hst
        refine ev_l K V hst (sumX_ev K V (uX_ok K V e) ih (by omega) (by show (if 34 = 34 then opn W + 1 else opn W) + e = 6; rw [if_pos rfl]; omega) rfl ?_)
        have h' : cnU K V (bd (sumX K (uX K V e) (a + 1)) (fun a' c => bd (tk K 35 a') (fun a'' _ => .inr (a'', c)))) W c R (fun _ => True) := h
        rcases hs : sumX K (uX K V e) (a + 1) with x | ⟨b, d⟩
        · rw [hs] at h'; exact h'
        · rw [hs] at h'
          intro ⟨z1, z2⟩
          have h2 : cnU K V (bd (tk K 35 b) (fun a'' _ => .inr (a'', d))) W c R (fun _ => True) := h'
          have hB : stp K V (false, b, 34 :: W, c ++ d) = stB K b (34 :: W) (c ++ d) := rfl
          have ho1 : 0 < opn (34 :: W) := by show 0 < (if 34 = 34 then opn W + 1 else opn W); rw [if_pos rfl]; omega
          unfold stB at hB
          unfold tk at h2
          by_cases k35 : K b = 35
          · rw [if_pos k35] at h2
            rw [if_pos ⟨k35, ho1⟩, fl_we rfl] at hB
            rcases pass_cases b with ⟨q1, q2⟩ | ⟨q1, q2⟩
            · rw [q2] at h2 hB
              exact ev_l K V hB (h2 trivial)
            · rw [q2] at h2 hB
              rw [show R = .inl (2, b) from h2]
              exact ev_r K V hB
          · rw [if_neg k35] at h2
            rw [if_neg (fun q => k35 q.1), if_neg (by omega), if_pos ho1] at hB
            rw [show R = .inl (1, b) from h2]
            exact ev_r K V hB
      · rw [p2] at h hst
        rw [show R = .inl (2, a) from h]
        exact ev_r K V hst
    · exact uX_lf K V k34 h
/-- an E, read so, is the E -/
theorem eX_ev {a : Nat} (ha : a ≤ 400) : Ev K V (true, a, [], []) (eX K V a) := by
  refine sumX_ev K V (uX_ok K V 6) (uX_ev K V 6) ha rfl rfl ?_
  show cnU K V (eX K V a) [] [] (eX K V a) _
  rcases hs : eX K V a with x | ⟨b, d⟩
  · rfl
  · intro ⟨z1, z2⟩
    refine ev_r K V ?_
    show stB K b [] ([] ++ d) = _
    unfold stB
    rw [if_neg (fun q => absurd q.2 (by decide)), if_neg (by omega), if_neg (by decide)]
    rfl
end S89

