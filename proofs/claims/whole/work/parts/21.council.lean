abbrev m_X0_gather (Q : hPo) : hMe := (hrm 3, 0, 0, yX0_gather, cX0_gather, 7, (none : Option FieldType), shp, none, Q)
abbrev m_X0_countTurns (Q : hPo) : hMe := (hrm 1, 0, 0, yX0_countTurns, cX0_countTurns, 4, (none : Option FieldType), shp, none, Q)
abbrev m_X0_allTurns (Q : hPo) : hMe := (hrm 0, 0, 0, yX0_allTurns, cX0_allTurns, 3, (some FieldType.int), shp, none, Q)
abbrev m_X0_mostTurns (Q : hPo) : hMe := (hrm 0, 0, 0, yX0_mostTurns, cX0_mostTurns, 3, (some FieldType.int), shp, none, Q)
abbrev m_X0_sum (Q : hPo) : hMe := (hrm 0, 0, 0, yX0_sum, cX0_sum, 5, (some FieldType.int), shp, none, Q)
abbrev m_X0_fewestToMajority (Q : hPo) : hMe := (hrm 1, 0, 0, yX0_fewestToMajority, cX0_fewestToMajority, 8, (some FieldType.int), shp, none, Q)
abbrev m_X0_largestOutside (Q : hPo) : hMe := (hrm 0, 0, 0, yX0_largestOutside, cX0_largestOutside, 7, (some FieldType.int), shp, none, Q)
def oN : Option Nat → Int32
  | none => -1
  | some j => nI j
/-- what the houses of a set have together -/
def fSm (f : hF) (m : Nat) : Nat → Int32
  | 0 => 0
  | n + 1 => fSm f m n + (if m.testBit n = true then f n else 0)
def fHad (V : hF) (pr : Nat → Option Nat) : Nat → hF
  | 0 => fun _ => 0
  | n + 1 => upd (fHad V pr n) ((pr n).getD n) (fHad V pr n ((pr n).getD n) + V n)
def fLs (f : hF) (m : Nat) (bo : Option Nat) (n : Nat) : Option Nat := match bo with
  | none => if m.testBit n = true then none else some n
  | some b => if m.testBit n = true then some b else if f b < f n then some n else some b
def fLo (f : hF) (m : Nat) : Nat → Option Nat
  | 0 => none
  | n + 1 => fLs f m (fLo f m n) n
theorem fLo_lt (f : hF) (m : Nat) : ∀ n b, fLo f m n = some b → b < n
  | 0, b, hb => by simp [fLo] at hb
  | n + 1, b, hb => by
    unfold fLo fLs at hb
    cases hq : fLo f m n with
    | none => rw [hq] at hb; dsimp only at hb; split at hb <;> simp at hb; omega
    | some c =>
      have hc := fLo_lt f m n c hq
      rw [hq] at hb; dsimp only at hb
      split at hb
      · simp at hb; omega
      · split at hb <;> (simp at hb; omega)
def fMaj (f : hF) (h : Nat) (ev : Int32) : Nat → Nat → Nat → Int32
  | 0, _, _ => -2
  | k + 1, gr, ad => if ev < 2 * fSm f gr 7 then nI ad else match fLo f gr h with
    | none => -2
    | some b => fMaj f h ev k (gr ||| 2 ^ b) (ad + 1)
def fTurn (f : hF) (all : Int32) (i : Nat) : Nat → Nat
  | 0 => 0
  | n + 1 => fTurn f all i n + (if 2 * fSm f n 7 ≤ all ∧ all < 2 * fSm f (n ||| 2 ^ i) 7 then 1 else 0)
def amax (f : hF) : Nat → Nat
  | 0 => 0
  | n + 1 => if n = 0 then 0 else if f (amax f n) < f n then n else amax f n
theorem amax_le (f : hF) : ∀ n, amax f n ≤ n - 1
  | 0 => by simp [amax]
  | n + 1 => by
    have hq := amax_le f n
    unfold amax
    split
    · omega
    · split <;> omega
section S21
variable {G : hGl} {σ : hS} {τ : hT} {x y : Option Nat}
theorem c_csum {row m : Nat} {r : hR} (hrow : hkd shp row = (1, 7)) (hm : m < 128) : hCal G (m_X0_sum (hEq (some (.int (fSm (σ row) m 7))) r σ τ)) [.ref (hgA G 31), .ref (hgA G row), .int (nI m)] shp r σ τ := by
  refine hv_enter pn_X0 rfl ?_
  have loop : ∀ k i, i + k = 7 → hV G (m_X0_sum (hEq (some (.int (fSm (σ row) m 7))) r σ τ)) 0 0 shp 5 [some (.ref (hgA G 31)), some (.ref (hgA G row)), some (.int (nI m)), some (.int (fSm (σ row) m i)), some (.int (nI i))] [] r σ τ := by
    intro k
    induction k with
    | zero =>
      intro i hi
      obtain rfl : i = 7 := by omega
      refine hv_iload dX0_sum_5 rfl ?_
      refine hv_bipush (v := 7) dX0_sum_7 (by decide) ?_
      refine hv_icmp_ge (tgt := 38) dX0_sum_9 (by decide) (fun c_9 => ?_) (fun c_9 => absurd ((by decide)) c_9)
      refine hv_iload_n dX0_sum_38 rfl ?_
      refine hv_iret dX0_sum_39 rfl ?_
      exact ⟨rfl, rfl, rfl, rfl⟩
    | succ k ih =>
      intro i hi
      have hbb := b_bit (m := m) (i := i) hm (by omega)
      refine hv_iload dX0_sum_5 rfl ?_
      refine hv_bipush (v := 7) dX0_sum_7 (by decide) ?_
      refine hv_icmp_ge (tgt := 38) dX0_sum_9 (by decide) (fun c_9 => absurd c_9 ((nI_ge (b := 7) (by omega) (by decide)))) (fun c_9 => ?_)
      refine hv_iload_n dX0_sum_12 rfl ?_
      refine hv_iload_n dX0_sum_13 rfl ?_
      refine hv_iload dX0_sum_14 rfl ?_
      refine hv_ishr dX0_sum_16 ?_
      refine hv_iconst (v := 1) dX0_sum_17 (by decide) ?_
      refine hv_iand dX0_sum_18 ?_
      rw [hbb]
      refine hv_if_ne (tgt := 26) dX0_sum_19 (by decide) (fun c_19 => ?_) (fun c_19 => ?_)
      · have htb : m.testBit i = true := by
          cases hqq : m.testBit i with
          | true => rfl
          | false => rw [hqq] at c_19; exact absurd rfl c_19
        have hnx : fSm (σ row) m i + σ row i = fSm (σ row) m (i + 1) := by rw [fSm, if_pos htb]
        refine hv_aload_n dX0_sum_26 rfl ?_
        refine hv_iload dX0_sum_27 rfl ?_
        refine hv_iald dX0_sum_29 (by first | rfl | assumption) rfl (by first | assumption | omega) (by first | decide | assumption) ?_
        refine hv_iadd dX0_sum_30 ?_
        rw [hnx]
        refine hv_istore_n dX0_sum_31 rfl rfl ?_
        refine hv_iinc dX0_sum_32 rfl (nI_1 i) rfl rfl ?_
        refine hv_goto (tgt := 5) dX0_sum_35 (by decide) ?_
        exact ih (i + 1) (by omega)
      · have htb : ¬ m.testBit i = true := fun hqq => by rw [hqq] at c_19; exact absurd c_19 (by decide)
        have hnx : fSm (σ row) m i + 0 = fSm (σ row) m (i + 1) := by rw [fSm, if_neg htb]
        refine hv_iconst (v := 0) dX0_sum_22 (by decide) ?_
        refine hv_goto (tgt := 30) dX0_sum_23 (by decide) ?_
        refine hv_iadd dX0_sum_30 ?_
        rw [hnx]
        refine hv_istore_n dX0_sum_31 rfl rfl ?_
        refine hv_iinc dX0_sum_32 rfl (nI_1 i) rfl rfl ?_
        refine hv_goto (tgt := 5) dX0_sum_35 (by decide) ?_
        exact ih (i + 1) (by omega)
  refine hv_iconst (v := 0) dX0_sum_0 (by decide) ?_
  refine hv_istore_n dX0_sum_1 rfl rfl ?_
  refine hv_iconst (v := 0) dX0_sum_2 (by decide) ?_
  refine hv_istore dX0_sum_3 rfl rfl ?_
  exact loop 7 0 (by omega)
theorem c_largestOutside {row m h : Nat} {r : hR} (hrow : hkd shp row = (1, 7)) (hm : m < 128) (hh : h ≤ 7) : hCal G (m_X0_largestOutside (hEq (some (.int (oN (fLo (σ row) m h)))) r σ τ)) [.ref (hgA G 31), .ref (hgA G row), .int (nI m), .int (nI h)] shp r σ τ := by
  refine hv_enter pn_X0 rfl ?_
  have loop : ∀ k i (bo : Option Nat), i + k = h → bo = fLo (σ row) m i → hV G (m_X0_largestOutside (hEq (some (.int (oN (fLo (σ row) m h)))) r σ τ)) 0 0 shp 6 [some (.ref (hgA G 31)), some (.ref (hgA G row)), some (.int (nI m)), some (.int (nI h)), some (.int (oN bo)), some (.int (nI i)), none] [] r σ τ := by
    intro k
    induction k with
    | zero =>
      intro i bo hi hbo
      obtain rfl : i = h := by omega
      refine hv_iload dX0_largestOutside_6 rfl ?_
      refine hv_iload_n dX0_largestOutside_8 rfl ?_
      refine hv_icmp_ge (tgt := 67) dX0_largestOutside_9 (by decide) (fun c_9 => ?_) (fun c_9 => absurd ((nI_le (Nat.le_refl _) (by omega))) c_9)
      refine hv_iload dX0_largestOutside_67 rfl ?_
      refine hv_iret dX0_largestOutside_69 rfl ?_
      rw [← hbo]; exact ⟨rfl, rfl, rfl, rfl⟩
    | succ k ih =>
      intro i bo hi hbo
      have hbb := b_bit (m := m) (i := i) hm (by omega)
      have hnx : fLo (σ row) m (i + 1) = fLs (σ row) m bo i := by rw [fLo, ← hbo]
      have hne : ∀ b, bo = some b → ¬ oN bo = -1 := by
        rintro b rfl qq
        have hlb := fLo_lt (σ row) m i b hbo.symm
        have hq2 : nI b = -1 := qq
        exact absurd (show nI b < 0 by rw [hq2]; decide) (nI_pos (by omega))
      refine hv_iload dX0_largestOutside_6 rfl ?_
      refine hv_iload_n dX0_largestOutside_8 rfl ?_
      refine hv_icmp_ge (tgt := 67) dX0_largestOutside_9 (by decide) (fun c_9 => absurd c_9 ((nI_ge (by omega) (by omega)))) (fun c_9 => ?_)
      refine hv_iload dX0_largestOutside_12 rfl ?_
      refine hv_bipush (v := 7) dX0_largestOutside_14 (by decide) ?_
      refine hv_icmp_ge (tgt := 67) dX0_largestOutside_16 (by decide) (fun c_16 => absurd c_16 ((nI_ge (b := 7) (by omega) (by decide)))) (fun c_16 => ?_)
      refine hv_iload_n dX0_largestOutside_19 rfl ?_
      refine hv_iload dX0_largestOutside_20 rfl ?_
      refine hv_ishr dX0_largestOutside_22 ?_
      refine hv_iconst (v := 1) dX0_largestOutside_23 (by decide) ?_
      refine hv_iand dX0_largestOutside_24 ?_
      rw [hbb]
      refine hv_if_ne (tgt := 32) dX0_largestOutside_25 (by decide) (fun c_25 => ?_) (fun c_25 => ?_)
      · have htb : m.testBit i = true := by
          cases hqq : m.testBit i with
          | true => rfl
          | false => rw [hqq] at c_25; exact absurd rfl c_25
        have hcd : ¬ (0 : Int32) = 1 := by decide
        have hst : fLo (σ row) m (i + 1) = bo := by
          rw [hnx]
          cases bo <;> simp only [fLs, htb, if_true]
        refine hv_iconst (v := 0) dX0_largestOutside_32 (by decide) ?_
        refine hv_istore dX0_largestOutside_33 rfl rfl ?_
        refine hv_iload dX0_largestOutside_35 rfl ?_
        refine hv_if_eq (tgt := 61) dX0_largestOutside_37 (by decide) (fun c_37 => ?_) (fun c_37 => ?_)
        · refine hv_iinc dX0_largestOutside_61 rfl (nI_1 i) rfl rfl ?_
          refine hv_goto (tgt := 6) dX0_largestOutside_64 (by decide) ?_
          refine hv_drop 6 ?_
          first
            | exact ih (i + 1) bo (by omega) hst.symm
            | exact ih (i + 1) (some b) (by omega) hst.symm
            | exact ih (i + 1) (some i) (by omega) hst.symm
            | exact absurd c_37 (by decide)
        · have htb2 : ¬ m.testBit i = true := by first | exact htb | exact absurd rfl c_37
          refine hv_iload dX0_largestOutside_40 rfl ?_
          refine hv_iconst (v := -1) dX0_largestOutside_42 (by decide) ?_
          refine hv_icmp_eq (tgt := 57) dX0_largestOutside_43 (by decide) (fun c_43 => ?_) (fun c_43 => ?_)
          · have hst : fLo (σ row) m (i + 1) = some i := by
              rw [hnx]
              cases bo with
              | none => rw [fLs, if_neg htb2]
              | some b => exact absurd c_43 (hne b rfl)
            refine hv_iload dX0_largestOutside_57 rfl ?_
            refine hv_istore dX0_largestOutside_59 rfl rfl ?_
            refine hv_iinc dX0_largestOutside_61 rfl (nI_1 i) rfl rfl ?_
            refine hv_goto (tgt := 6) dX0_largestOutside_64 (by decide) ?_
            refine hv_drop 6 ?_
            first
              | exact ih (i + 1) bo (by omega) hst.symm
              | exact ih (i + 1) (some b) (by omega) hst.symm
              | exact ih (i + 1) (some i) (by omega) hst.symm
              | exact absurd c_37 (by decide)
          · obtain ⟨b, rfl⟩ : ∃ b, bo = some b := by
              cases bo with
              | none => exact absurd rfl c_43
              | some b => exact ⟨b, rfl⟩
            have hlb := fLo_lt (σ row) m i b hbo.symm
            refine hv_aload_n dX0_largestOutside_46 rfl ?_
            refine hv_iload dX0_largestOutside_47 rfl ?_
            refine hv_iald dX0_largestOutside_49 (by first | rfl | assumption) rfl (by first | assumption | omega) (by first | decide | assumption) ?_
            refine hv_aload_n dX0_largestOutside_50 rfl ?_
            refine hv_iload dX0_largestOutside_51 rfl ?_
            refine hv_iald dX0_largestOutside_53 (by first | rfl | assumption) (j := b) rfl (by omega) (by first | decide | assumption) ?_
            refine hv_icmp_le (tgt := 61) dX0_largestOutside_54 (by decide) (fun c_54 => ?_) (fun c_54 => ?_)
            · have hst : fLo (σ row) m (i + 1) = some b := by
                rw [hnx]
                rw [fLs, if_neg htb2, if_neg (Int32.not_lt.mpr c_54)]
              refine hv_iinc dX0_largestOutside_61 rfl (nI_1 i) rfl rfl ?_
              refine hv_goto (tgt := 6) dX0_largestOutside_64 (by decide) ?_
              refine hv_drop 6 ?_
              first
                | exact ih (i + 1) bo (by omega) hst.symm
                | exact ih (i + 1) (some b) (by omega) hst.symm
                | exact ih (i + 1) (some i) (by omega) hst.symm
                | exact absurd c_37 (by decide)
            · have hst : fLo (σ row) m (i + 1) = some i := by
                rw [hnx]
                rw [fLs, if_neg htb2, if_pos (Int32.not_le.mp c_54)]
              refine hv_iload dX0_largestOutside_57 rfl ?_
              refine hv_istore dX0_largestOutside_59 rfl rfl ?_
              refine hv_iinc dX0_largestOutside_61 rfl (nI_1 i) rfl rfl ?_
              refine hv_goto (tgt := 6) dX0_largestOutside_64 (by decide) ?_
              refine hv_drop 6 ?_
              first
                | exact ih (i + 1) bo (by omega) hst.symm
                | exact ih (i + 1) (some b) (by omega) hst.symm
                | exact ih (i + 1) (some i) (by omega) hst.symm
                | exact absurd c_37 (by decide)
      · have htb : ¬ m.testBit i = true := fun hqq => by rw [hqq] at c_25; exact absurd c_25 (by decide)
        refine hv_iconst (v := 1) dX0_largestOutside_28 (by decide) ?_
        refine hv_goto (tgt := 33) dX0_largestOutside_29 (by decide) ?_
        refine hv_istore dX0_largestOutside_33 rfl rfl ?_
        refine hv_iload dX0_largestOutside_35 rfl ?_
        refine hv_if_eq (tgt := 61) dX0_largestOutside_37 (by decide) (fun c_37 => ?_) (fun c_37 => ?_)
        · refine hv_iinc dX0_largestOutside_61 rfl (nI_1 i) rfl rfl ?_
          refine hv_goto (tgt := 6) dX0_largestOutside_64 (by decide) ?_
          refine hv_drop 6 ?_
          first
            | exact ih (i + 1) bo (by omega) hst.symm
            | exact ih (i + 1) (some b) (by omega) hst.symm
            | exact ih (i + 1) (some i) (by omega) hst.symm
            | exact absurd c_37 (by decide)
        · have htb2 : ¬ m.testBit i = true := by first | exact htb | exact absurd rfl c_37
          refine hv_iload dX0_largestOutside_40 rfl ?_
          refine hv_iconst (v := -1) dX0_largestOutside_42 (by decide) ?_
          refine hv_icmp_eq (tgt := 57) dX0_largestOutside_43 (by decide) (fun c_43 => ?_) (fun c_43 => ?_)
          · have hst : fLo (σ row) m (i + 1) = some i := by
              rw [hnx]
              cases bo with
              | none => rw [fLs, if_neg htb2]
              | some b => exact absurd c_43 (hne b rfl)
            refine hv_iload dX0_largestOutside_57 rfl ?_
            refine hv_istore dX0_largestOutside_59 rfl rfl ?_
            refine hv_iinc dX0_largestOutside_61 rfl (nI_1 i) rfl rfl ?_
            refine hv_goto (tgt := 6) dX0_largestOutside_64 (by decide) ?_
            refine hv_drop 6 ?_
            first
              | exact ih (i + 1) bo (by omega) hst.symm
              | exact ih (i + 1) (some b) (by omega) hst.symm
              | exact ih (i + 1) (some i) (by omega) hst.symm
              | exact absurd c_37 (by decide)
          · obtain ⟨b, rfl⟩ : ∃ b, bo = some b := by
              cases bo with
              | none => exact absurd rfl c_43
              | some b => exact ⟨b, rfl⟩
            have hlb := fLo_lt (σ row) m i b hbo.symm
            refine hv_aload_n dX0_largestOutside_46 rfl ?_
            refine hv_iload dX0_largestOutside_47 rfl ?_
            refine hv_iald dX0_largestOutside_49 (by first | rfl | assumption) rfl (by first | assumption | omega) (by first | decide | assumption) ?_
            refine hv_aload_n dX0_largestOutside_50 rfl ?_
            refine hv_iload dX0_largestOutside_51 rfl ?_
            refine hv_iald dX0_largestOutside_53 (by first | rfl | assumption) (j := b) rfl (by omega) (by first | decide | assumption) ?_
            refine hv_icmp_le (tgt := 61) dX0_largestOutside_54 (by decide) (fun c_54 => ?_) (fun c_54 => ?_)
            · have hst : fLo (σ row) m (i + 1) = some b := by
                rw [hnx]
                rw [fLs, if_neg htb2, if_neg (Int32.not_lt.mpr c_54)]
              refine hv_iinc dX0_largestOutside_61 rfl (nI_1 i) rfl rfl ?_
              refine hv_goto (tgt := 6) dX0_largestOutside_64 (by decide) ?_
              refine hv_drop 6 ?_
              first
                | exact ih (i + 1) bo (by omega) hst.symm
                | exact ih (i + 1) (some b) (by omega) hst.symm
                | exact ih (i + 1) (some i) (by omega) hst.symm
                | exact absurd c_37 (by decide)
            · have hst : fLo (σ row) m (i + 1) = some i := by
                rw [hnx]
                rw [fLs, if_neg htb2, if_pos (Int32.not_le.mp c_54)]
              refine hv_iload dX0_largestOutside_57 rfl ?_
              refine hv_istore dX0_largestOutside_59 rfl rfl ?_
              refine hv_iinc dX0_largestOutside_61 rfl (nI_1 i) rfl rfl ?_
              refine hv_goto (tgt := 6) dX0_largestOutside_64 (by decide) ?_
              refine hv_drop 6 ?_
              first
                | exact ih (i + 1) bo (by omega) hst.symm
                | exact ih (i + 1) (some b) (by omega) hst.symm
                | exact ih (i + 1) (some i) (by omega) hst.symm
                | exact absurd c_37 (by decide)
  refine hv_iconst (v := -1) dX0_largestOutside_0 (by decide) ?_
  refine hv_istore dX0_largestOutside_1 rfl rfl ?_
  refine hv_iconst (v := 0) dX0_largestOutside_3 (by decide) ?_
  refine hv_istore dX0_largestOutside_4 rfl rfl ?_
  exact loop h 0 none (by omega) rfl
theorem c_fewestToMajority {row m h : Nat} {r : hR} (hrow : hkd shp row = (1, 7)) (hm : m < 128) (hh : h ≤ 7) : hCal G (m_X0_fewestToMajority (hEq (some (.int (fMaj (σ row) h (fSm (σ row) (2 ^ h - 1) 7) 8 m 0))) r σ τ)) [.ref (hgA G 31), .ref (hgA G row), .int (nI m), .int (nI h)] shp r σ τ := by
  have hp : 2 ^ h ≤ 128 := show 2 ^ h ≤ 2 ^ 7 from Nat.pow_le_pow_right (by decide) hh
  have hp1 : 1 ≤ 2 ^ h := Nat.one_le_two_pow
  refine hv_enter pn_X0 rfl ?_
  generalize hev : fSm (σ row) (2 ^ h - 1) 7 = ev
  have loop : ∀ k ad gr (res : Int32), ad + k = 8 → gr < 128 → fMaj (σ row) h ev k gr ad = res → hV G (m_X0_fewestToMajority (hEq (some (.int res)) r σ τ)) 0 0 shp 18 [some (.ref (hgA G 31)), some (.ref (hgA G row)), some (.int (nI m)), some (.int (nI h)), some (.int ev), some (.int (nI gr)), some (.int (nI ad)), none] [] r σ τ := by
    intro k
    induction k with
    | zero =>
      intro ad gr res hi hgr hr
      obtain rfl : ad = 8 := by omega
      refine hv_iload dX0_fewestToMajority_18 rfl ?_
      refine hv_bipush (v := 7) dX0_fewestToMajority_20 (by decide) ?_
      refine hv_icmp_gt (tgt := 76) dX0_fewestToMajority_22 (by decide) (fun c_22 => ?_) (fun c_22 => absurd ((by decide)) c_22)
      refine hv_bipush (v := -2) dX0_fewestToMajority_76 (by decide) ?_
      refine hv_iret dX0_fewestToMajority_78 rfl ?_
      rw [← hr]; exact ⟨rfl, rfl, rfl, rfl⟩
    | succ k ih =>
      intro ad gr res hi hgr hr
      rw [fMaj] at hr
      refine hv_iload dX0_fewestToMajority_18 rfl ?_
      refine hv_bipush (v := 7) dX0_fewestToMajority_20 (by decide) ?_
      refine hv_icmp_gt (tgt := 76) dX0_fewestToMajority_22 (by decide) (fun c_22 => absurd c_22 ((nI_nlt (a := 7) (by omega) (by decide)))) (fun c_22 => ?_)
      refine hv_iconst (v := 2) dX0_fewestToMajority_25 (by decide) ?_
      refine hv_aload_n dX0_fewestToMajority_26 rfl ?_
      refine hv_aload_n dX0_fewestToMajority_27 rfl ?_
      refine hv_iload dX0_fewestToMajority_28 rfl ?_
      refine hv_cv2 (c_csum hrow hgr) dX0_fewestToMajority_30 ml_X0_50 mk_X0_sum (by first | rfl | assumption) rfl rfl rfl rfl rfl ?_
      rintro _ _ _ _ ⟨rfl, rfl, rfl, rfl⟩
      refine hv_imul dX0_fewestToMajority_33 ?_
      refine hv_iload dX0_fewestToMajority_34 rfl ?_
      refine hv_icmp_le (tgt := 42) dX0_fewestToMajority_36 (by decide) (fun c_36 => ?_) (fun c_36 => ?_)
      · rw [if_neg (Int32.not_lt.mpr c_36)] at hr
        refine hv_aload_n dX0_fewestToMajority_42 rfl ?_
        refine hv_aload_n dX0_fewestToMajority_43 rfl ?_
        refine hv_iload dX0_fewestToMajority_44 rfl ?_
        refine hv_iload_n dX0_fewestToMajority_46 rfl ?_
        refine hv_cv3 (c_largestOutside hrow hgr hh) dX0_fewestToMajority_47 ml_X0_54 mk_X0_largestOutside (by first | rfl | assumption) rfl rfl rfl rfl rfl ?_
        rintro _ _ _ _ ⟨rfl, rfl, rfl, rfl⟩
        refine hv_istore dX0_fewestToMajority_50 rfl rfl ?_
        refine hv_iload dX0_fewestToMajority_52 rfl ?_
        refine hv_iconst (v := -1) dX0_fewestToMajority_54 (by decide) ?_
        refine hv_icmp_ne (tgt := 61) dX0_fewestToMajority_55 (by decide) (fun c_55 => ?_) (fun c_55 => ?_)
        · obtain ⟨b, hlo⟩ : ∃ b, fLo (σ row) gr h = some b := by
            cases hq : fLo (σ row) gr h with
            | none => rw [hq] at c_55; exact absurd rfl c_55
            | some b => exact ⟨b, rfl⟩
          have hlb := fLo_lt (σ row) gr h b hlo
          have hp7 := pow_lt7 (i := b) (by omega)
          rw [hlo] at hr ⊢
          dsimp only at hr
          have hor : nI gr ||| (1 : Int32) <<< (nI b &&& 31) = nI (gr ||| 2 ^ b) := by rw [b_shl (by omega), b_or (by omega) (by omega)]
          obtain ⟨g2, hg2⟩ : ∃ g2, gr ||| 2 ^ b = g2 := ⟨_, rfl⟩
          rw [hg2] at hor hr
          have hg128 : g2 < 128 := by rw [← hg2]; exact or_lt128 hgr hp7
          refine hv_iload dX0_fewestToMajority_61 rfl ?_
          refine hv_iconst (v := 1) dX0_fewestToMajority_63 (by decide) ?_
          refine hv_iload dX0_fewestToMajority_64 rfl ?_
          refine hv_ishl dX0_fewestToMajority_66 ?_
          refine hv_ior dX0_fewestToMajority_67 ?_
          refine hv_str (st' := [.int (nI g2)]) (congrArg (fun z => [Value.int z]) hor) ?_
          refine hv_istore dX0_fewestToMajority_68 rfl rfl ?_
          refine hv_iinc dX0_fewestToMajority_70 rfl (nI_1 ad) rfl rfl ?_
          refine hv_goto (tgt := 18) dX0_fewestToMajority_73 (by decide) ?_
          refine hv_drop 7 ?_
          exact ih (ad + 1) g2 res (by omega) hg128 hr
        · have hlo : fLo (σ row) gr h = none := by
            cases hq : fLo (σ row) gr h with
            | none => rfl
            | some b =>
              rw [hq] at c_55
              have hlb := fLo_lt (σ row) gr h b hq
              have hq2 : nI b = -1 := c_55
              exact absurd (show nI b < 0 by rw [hq2]; decide) (nI_pos (by omega))
          rw [hlo] at hr
          refine hv_bipush (v := -2) dX0_fewestToMajority_58 (by decide) ?_
          refine hv_iret dX0_fewestToMajority_60 rfl ?_
          rw [← hr]; exact ⟨rfl, rfl, rfl, rfl⟩
      · rw [if_pos (Int32.not_le.mp c_36)] at hr
        refine hv_iload dX0_fewestToMajority_39 rfl ?_
        refine hv_iret dX0_fewestToMajority_41 rfl ?_
        rw [← hr]; exact ⟨rfl, rfl, rfl, rfl⟩
  refine hv_aload_n dX0_fewestToMajority_0 rfl ?_
  refine hv_aload_n dX0_fewestToMajority_1 rfl ?_
  refine hv_iconst (v := 1) dX0_fewestToMajority_2 (by decide) ?_
  refine hv_iload_n dX0_fewestToMajority_3 rfl ?_
  refine hv_ishl dX0_fewestToMajority_4 ?_
  refine hv_iconst (v := 1) dX0_fewestToMajority_5 (by decide) ?_
  refine hv_isub dX0_fewestToMajority_6 ?_
  refine hv_str (st' := .int (nI (2 ^ h - 1)) :: [.ref (hgA G row), .ref (hgA G 31)]) (by rw [b_shl (by omega), show (1 : Int32) = nI 1 from rfl, pk_sub hp1]) ?_
  refine hv_cv2 (c_csum hrow (by omega)) dX0_fewestToMajority_7 ml_X0_50 mk_X0_sum (by first | rfl | assumption) rfl rfl rfl rfl rfl ?_
  rintro _ _ _ _ ⟨rfl, rfl, rfl, rfl⟩
  rw [hev]
  refine hv_istore dX0_fewestToMajority_10 rfl rfl ?_
  refine hv_iload_n dX0_fewestToMajority_12 rfl ?_
  refine hv_istore dX0_fewestToMajority_13 rfl rfl ?_
  refine hv_iconst (v := 0) dX0_fewestToMajority_15 (by decide) ?_
  refine hv_istore dX0_fewestToMajority_16 rfl rfl ?_
  exact loop 8 0 m _ (by omega) hm rfl
theorem c_allTurns {h : Nat} (h31 : σ 31 4 = nI h) (hh : h ≤ 7) : hCal G (m_X0_allTurns (hEq (some (.int (hsum (σ 33) h))) (rr 38 51 x y) σ τ)) [.ref (hgA G 31)] shp (rr 38 51 x y) σ τ := by
  refine hv_enter pn_X0 rfl ?_
  have loop : ∀ k i, i + k = h → hV G (m_X0_allTurns (hEq (some (.int (hsum (σ 33) h))) (rr 38 51 x y) σ τ)) 0 0 shp 4 [some (.ref (hgA G 31)), some (.int (hsum (σ 33) i)), some (.int (nI i))] [] (rr 38 51 x y) σ τ := by
    intro k
    induction k with
    | zero =>
      intro i hi
      obtain rfl : i = h := by omega
      refine hv_iload_n dX0_allTurns_4 rfl ?_
      refine hv_aload_n dX0_allTurns_5 rfl ?_
      refine hv_geti dX0_allTurns_6 fl_X0_31 (by first | rfl | assumption) rfl ?_
      refine hv_icmp_ge (tgt := 27) dX0_allTurns_9 (by decide) (fun c_9 => ?_) (fun c_9 => absurd ((by rw [h31]; exact nI_le (Nat.le_refl _) (by omega))) c_9)
      refine hv_iload_n dX0_allTurns_27 rfl ?_
      refine hv_iret dX0_allTurns_28 rfl ?_
      exact ⟨rfl, rfl, rfl, rfl⟩
    | succ k ih =>
      intro i hi
      refine hv_iload_n dX0_allTurns_4 rfl ?_
      refine hv_aload_n dX0_allTurns_5 rfl ?_
      refine hv_geti dX0_allTurns_6 fl_X0_31 (by first | rfl | assumption) rfl ?_
      refine hv_icmp_ge (tgt := 27) dX0_allTurns_9 (by decide) (fun c_9 => absurd c_9 ((by rw [h31]; exact nI_ge (by omega) (by omega)))) (fun c_9 => ?_)
      refine hv_iload_n dX0_allTurns_12 rfl ?_
      refine hv_aload_n dX0_allTurns_13 rfl ?_
      refine hv_getr dX0_allTurns_14 fl_X0_15 (by first | rfl | assumption) rfl (by first | rfl | assumption) ?_
      refine hv_iload_n dX0_allTurns_17 rfl ?_
      refine hv_iald dX0_allTurns_18 (by first | rfl | assumption) rfl (by first | assumption | omega) (by first | decide | assumption) ?_
      refine hv_iadd dX0_allTurns_19 ?_
      refine hv_istore_n dX0_allTurns_20 rfl rfl ?_
      refine hv_iinc dX0_allTurns_21 rfl (nI_1 i) rfl rfl ?_
      refine hv_goto (tgt := 4) dX0_allTurns_24 (by decide) ?_
      exact ih (i + 1) (by omega)
  refine hv_iconst (v := 0) dX0_allTurns_0 (by decide) ?_
  refine hv_istore_n dX0_allTurns_1 rfl rfl ?_
  refine hv_iconst (v := 0) dX0_allTurns_2 (by decide) ?_
  refine hv_istore_n dX0_allTurns_3 rfl rfl ?_
  exact loop h 0 (by omega)
theorem c_mostTurns {h : Nat} (h31 : σ 31 4 = nI h) (hh : h ≤ 7) (h1 : 1 ≤ h) : hCal G (m_X0_mostTurns (hEq (some (.int (nI (amax (σ 33) h)))) (rr 38 51 x y) σ τ)) [.ref (hgA G 31)] shp (rr 38 51 x y) σ τ := by
  refine hv_enter pn_X0 rfl ?_
  have loop : ∀ k i, i + k = h → 1 ≤ i → hV G (m_X0_mostTurns (hEq (some (.int (nI (amax (σ 33) h)))) (rr 38 51 x y) σ τ)) 0 0 shp 4 [some (.ref (hgA G 31)), some (.int (nI (amax (σ 33) i))), some (.int (nI i))] [] (rr 38 51 x y) σ τ := by
    intro k
    induction k with
    | zero =>
      intro i hi h1i
      obtain rfl : i = h := by omega
      refine hv_iload_n dX0_mostTurns_4 rfl ?_
      refine hv_aload_n dX0_mostTurns_5 rfl ?_
      refine hv_geti dX0_mostTurns_6 fl_X0_31 (by first | rfl | assumption) rfl ?_
      refine hv_icmp_ge (tgt := 39) dX0_mostTurns_9 (by decide) (fun c_9 => ?_) (fun c_9 => absurd ((by rw [h31]; exact nI_le (Nat.le_refl _) (by omega))) c_9)
      refine hv_iload_n dX0_mostTurns_39 rfl ?_
      refine hv_iret dX0_mostTurns_40 rfl ?_
      exact ⟨rfl, rfl, rfl, rfl⟩
    | succ k ih =>
      intro i hi h1i
      have hle := amax_le (σ 33) i
      obtain ⟨am, ham⟩ : ∃ am, amax (σ 33) i = am := ⟨_, rfl⟩
      have hnx : amax (σ 33) (i + 1) = if σ 33 am < σ 33 i then i else am := by rw [amax, if_neg (by omega), ham]
      rw [ham] at hle ⊢
      refine hv_iload_n dX0_mostTurns_4 rfl ?_
      refine hv_aload_n dX0_mostTurns_5 rfl ?_
      refine hv_geti dX0_mostTurns_6 fl_X0_31 (by first | rfl | assumption) rfl ?_
      refine hv_icmp_ge (tgt := 39) dX0_mostTurns_9 (by decide) (fun c_9 => absurd c_9 ((by rw [h31]; exact nI_ge (by omega) (by omega)))) (fun c_9 => ?_)
      refine hv_aload_n dX0_mostTurns_12 rfl ?_
      refine hv_getr dX0_mostTurns_13 fl_X0_15 (by first | rfl | assumption) rfl (by first | rfl | assumption) ?_
      refine hv_iload_n dX0_mostTurns_16 rfl ?_
      refine hv_iald dX0_mostTurns_17 (by first | rfl | assumption) rfl (by first | assumption | omega) (by first | decide | assumption) ?_
      refine hv_aload_n dX0_mostTurns_18 rfl ?_
      refine hv_getr dX0_mostTurns_19 fl_X0_15 (by first | rfl | assumption) rfl (by first | rfl | assumption) ?_
      refine hv_iload_n dX0_mostTurns_22 rfl ?_
      refine hv_iald dX0_mostTurns_23 (by first | rfl | assumption) rfl (by first | assumption | omega) (by first | decide | assumption) ?_
      refine hv_icmp_le (tgt := 31) dX0_mostTurns_24 (by decide) (fun c_24 => ?_) (fun c_24 => ?_)
      · rw [if_neg (Int32.not_lt.mpr c_24)] at hnx
        refine hv_iload_n dX0_mostTurns_31 rfl ?_
        refine hv_str (st' := [.int (nI (amax (σ 33) (i + 1)))]) (by rw [hnx]) ?_
        refine hv_istore_n dX0_mostTurns_32 rfl rfl ?_
        refine hv_iinc dX0_mostTurns_33 rfl (nI_1 i) rfl rfl ?_
        refine hv_goto (tgt := 4) dX0_mostTurns_36 (by decide) ?_
        exact ih (i + 1) (by omega) (by omega)
      · rw [if_pos (Int32.not_le.mp c_24)] at hnx
        refine hv_iload_n dX0_mostTurns_27 rfl ?_
        refine hv_goto (tgt := 32) dX0_mostTurns_28 (by decide) ?_
        refine hv_str (st' := [.int (nI (amax (σ 33) (i + 1)))]) (by rw [hnx]) ?_
        refine hv_istore_n dX0_mostTurns_32 rfl rfl ?_
        refine hv_iinc dX0_mostTurns_33 rfl (nI_1 i) rfl rfl ?_
        refine hv_goto (tgt := 4) dX0_mostTurns_36 (by decide) ?_
        exact ih (i + 1) (by omega) (by omega)
  refine hv_iconst (v := 0) dX0_mostTurns_0 (by decide) ?_
  refine hv_istore_n dX0_mostTurns_1 rfl rfl ?_
  refine hv_iconst (v := 1) dX0_mostTurns_2 (by decide) ?_
  refine hv_istore_n dX0_mostTurns_3 rfl rfl ?_
  exact loop (h - 1) 1 (by omega) (by omega)
end S21

