abbrev m_X12_in (Q : hPo) : hMe := (hrm 0, 0, 0, yX12_in, cX12_in, 3, (some FieldType.boolean), shp, none, Q)
abbrev m_X12_held (Q : hPo) : hMe := (hrm 0, 0, 0, yX12_held, cX12_held, 3, (some FieldType.int), shp, none, Q)
abbrev m_X12_bits (Q : hPo) : hMe := (hrm 0, 0, 0, yX12_bits, cX12_bits, 3, (some FieldType.int), shp, none, Q)
abbrev m_X12_isHouse (Q : hPo) : hMe := (hrm 1, 0, 0, yX12_isHouse, cX12_isHouse, 2, (some FieldType.boolean), shp, none, Q)
abbrev m_X12_copies (Q : hPo) : hMe := (hrm 0, 0, 0, yX12_copies, cX12_copies, 2, (none : Option FieldType), shp, none, Q)
abbrev m_X12_keepsRow (Q : hPo) : hMe := (hrm 0, 0, 0, yX12_keepsRow, cX12_keepsRow, 2, (none : Option FieldType), shp, none, Q)
abbrev m_X12_mixed (Q : hPo) : hMe := (hrm 0, 0, 0, yX12_mixed, cX12_mixed, 3, (some FieldType.int), shp, none, Q)
abbrev m_X12_isGlut (Q : hPo) : hMe := (hrm 1, 0, 0, yX12_isGlut, cX12_isGlut, 1, (some FieldType.boolean), shp, none, Q)
abbrev m_X12_sumOf (Q : hPo) : hMe := (hrm 0, 0, 0, yX12_sumOf, cX12_sumOf, 4, (some FieldType.int), shp, none, Q)
abbrev m_X12_looks (Q : hPo) : hMe := (hrm 1, 0, 0, yX12_looks, cX12_looks, 2, (none : Option FieldType), shp, none, Q)
abbrev m_X12_looksAt (Q : hPo) : hMe := (hrm 2, 0, 0, yX12_looksAt, cX12_looksAt, 2, (none : Option FieldType), shp, none, Q)
abbrev m_X12_termOf (Q : hPo) : hMe := (hrm 0, 0, 0, yX12_termOf, cX12_termOf, 8, (some FieldType.int), shp, none, Q)
def hldM (v lo hi : Int32) : Int32 := if lo ≤ v then (if v ≤ hi then v else hi) else lo
theorem hldM_eq {v lo hi : Int32} (hq : lo ≤ hi) : hldM v lo hi = hcl lo hi v := by
  unfold hldM hcl hmax hmin
  by_cases c1 : v ≤ hi
  · rw [if_pos c1]
    by_cases c3 : hi > v
    · rw [if_pos c3]
      by_cases c2 : lo ≤ v
      · rw [if_pos c2]
        by_cases c4 : lo < v
        · rw [if_pos c4]
        · rw [if_neg c4]; exact Int32.le_antisymm (Int32.not_lt.mp c4) c2
      · rw [if_neg c2, if_neg (fun qq => c2 (Int32.le_of_lt qq))]
    · rw [if_neg c3]
      have e : v = hi := Int32.le_antisymm c1 (Int32.not_lt.mp c3)
      subst e
      rw [if_pos hq]
      by_cases c4 : lo < v
      · rw [if_pos c4]
      · rw [if_neg c4]; exact Int32.le_antisymm (Int32.not_lt.mp c4) hq
  · have c3 : ¬ hi > v := fun qq => c1 (Int32.le_of_lt qq)
    have c2 : lo ≤ v := Int32.le_trans hq (Int32.le_of_lt (Int32.not_le.mp c1))
    rw [if_neg c1, if_neg c3, if_pos c2]
    by_cases c4 : lo < hi
    · rw [if_pos c4]
    · rw [if_neg c4]; exact Int32.le_antisymm (Int32.not_lt.mp c4) hq
def popN (m : Nat) : Nat → Nat
  | 0 => 0
  | n + 1 => popN m n + m / 2 ^ n % 2
theorem popN_7 (m : Nat) : popN m 7 = pop7 m := by
  simp [popN, pop7]
theorem popN_le (m : Nat) : ∀ n, popN m n ≤ n
  | 0 => Nat.le_refl _
  | n + 1 => by
    have hq := popN_le m n
    have hq2 : m / 2 ^ n % 2 < 2 := Nat.mod_lt _ (by decide)
    unfold popN
    omega
theorem ix7 {L a : Nat} : 7 * nI L + nI a = nI (7 * L + a) := by rw [show (7 : Int32) = nI 7 from rfl, pk_mul, nI_add]
theorem ix5 {L a : Nat} : 5 * nI L + nI a = nI (5 * L + a) := by rw [show (5 : Int32) = nI 5 from rfl, pk_mul, nI_add]
section S40
variable {G : hGl} {σ : hS} {τ : hT} {x y : Option Nat}
theorem d_in {v lo hi : Int32} {r : hR} : hCal G (m_X12_in (hEq (some (.int (bI (inI lo hi v)))) r σ τ)) [.int v, .int lo, .int hi] shp r σ τ := by
  refine hv_enter pn_X12 rfl ?_
  refine hv_iload_n dX12_in_0 rfl ?_
  refine hv_iload_n dX12_in_1 rfl ?_
  refine hv_icmp_lt (tgt := 14) dX12_in_2 (by decide) (fun c_2 => ?_) (fun c_2 => ?_)
  · refine hv_iconst (v := 0) dX12_in_14 (by decide) ?_
    refine hv_zret dX12_in_15 rfl (by first | exact Or.inl rfl | exact Or.inr rfl | assumption) ?_
    first
      | (rw [show inI lo hi v = true from decide_eq_true ⟨Int32.not_lt.mp c_2, Int32.not_lt.mp c_7⟩]; exact ⟨rfl, rfl, rfl, rfl⟩)
      | (rw [show inI lo hi v = false from decide_eq_false (fun qq => Int32.not_lt.mpr qq.2 c_7)]; exact ⟨rfl, rfl, rfl, rfl⟩)
      | (rw [show inI lo hi v = false from decide_eq_false (fun qq => Int32.not_lt.mpr qq.1 c_2)]; exact ⟨rfl, rfl, rfl, rfl⟩)
  · refine hv_iload_n dX12_in_5 rfl ?_
    refine hv_iload_n dX12_in_6 rfl ?_
    refine hv_icmp_gt (tgt := 14) dX12_in_7 (by decide) (fun c_7 => ?_) (fun c_7 => ?_)
    · refine hv_iconst (v := 0) dX12_in_14 (by decide) ?_
      refine hv_zret dX12_in_15 rfl (by first | exact Or.inl rfl | exact Or.inr rfl | assumption) ?_
      first
        | (rw [show inI lo hi v = true from decide_eq_true ⟨Int32.not_lt.mp c_2, Int32.not_lt.mp c_7⟩]; exact ⟨rfl, rfl, rfl, rfl⟩)
        | (rw [show inI lo hi v = false from decide_eq_false (fun qq => Int32.not_lt.mpr qq.2 c_7)]; exact ⟨rfl, rfl, rfl, rfl⟩)
        | (rw [show inI lo hi v = false from decide_eq_false (fun qq => Int32.not_lt.mpr qq.1 c_2)]; exact ⟨rfl, rfl, rfl, rfl⟩)
    · refine hv_iconst (v := 1) dX12_in_10 (by decide) ?_
      refine hv_goto (tgt := 15) dX12_in_11 (by decide) ?_
      refine hv_zret dX12_in_15 rfl (by first | exact Or.inl rfl | exact Or.inr rfl | assumption) ?_
      first
        | (rw [show inI lo hi v = true from decide_eq_true ⟨Int32.not_lt.mp c_2, Int32.not_lt.mp c_7⟩]; exact ⟨rfl, rfl, rfl, rfl⟩)
        | (rw [show inI lo hi v = false from decide_eq_false (fun qq => Int32.not_lt.mpr qq.2 c_7)]; exact ⟨rfl, rfl, rfl, rfl⟩)
        | (rw [show inI lo hi v = false from decide_eq_false (fun qq => Int32.not_lt.mpr qq.1 c_2)]; exact ⟨rfl, rfl, rfl, rfl⟩)
theorem d_held {v lo hi : Int32} {r : hR} : hCal G (m_X12_held (hEq (some (.int (hldM v lo hi))) r σ τ)) [.int v, .int lo, .int hi] shp r σ τ := by
  refine hv_enter pn_X12 rfl ?_
  refine hv_iload_n dX12_held_0 rfl ?_
  refine hv_iload_n dX12_held_1 rfl ?_
  refine hv_icmp_ge (tgt := 9) dX12_held_2 (by decide) (fun c_2 => ?_) (fun c_2 => ?_)
  · refine hv_iload_n dX12_held_9 rfl ?_
    refine hv_iload_n dX12_held_10 rfl ?_
    refine hv_icmp_le (tgt := 18) dX12_held_11 (by decide) (fun c_11 => ?_) (fun c_11 => ?_)
    · refine hv_iload_n dX12_held_18 rfl ?_
      refine hv_iret dX12_held_19 rfl ?_
      unfold hldM
      first
        | (rw [if_pos c_2, if_pos c_11]; exact ⟨rfl, rfl, rfl, rfl⟩)
        | (rw [if_pos c_2, if_neg c_11]; exact ⟨rfl, rfl, rfl, rfl⟩)
        | (rw [if_neg c_2]; exact ⟨rfl, rfl, rfl, rfl⟩)
    · refine hv_iload_n dX12_held_14 rfl ?_
      refine hv_goto (tgt := 19) dX12_held_15 (by decide) ?_
      refine hv_iret dX12_held_19 rfl ?_
      unfold hldM
      first
        | (rw [if_pos c_2, if_pos c_11]; exact ⟨rfl, rfl, rfl, rfl⟩)
        | (rw [if_pos c_2, if_neg c_11]; exact ⟨rfl, rfl, rfl, rfl⟩)
        | (rw [if_neg c_2]; exact ⟨rfl, rfl, rfl, rfl⟩)
  · refine hv_iload_n dX12_held_5 rfl ?_
    refine hv_goto (tgt := 19) dX12_held_6 (by decide) ?_
    refine hv_iret dX12_held_19 rfl ?_
    unfold hldM
    first
      | (rw [if_pos c_2, if_pos c_11]; exact ⟨rfl, rfl, rfl, rfl⟩)
      | (rw [if_pos c_2, if_neg c_11]; exact ⟨rfl, rfl, rfl, rfl⟩)
      | (rw [if_neg c_2]; exact ⟨rfl, rfl, rfl, rfl⟩)
theorem d_bits {m : Nat} {r : hR} (hm : m < 128) : hCal G (m_X12_bits (hEq (some (.int (nI (pop7 m)))) r σ τ)) [.int (nI m)] shp r σ τ := by
  rw [← popN_7]
  refine hv_enter pn_X12 rfl ?_
  have loop : ∀ k i, i + k = 7 → hV G (m_X12_bits (hEq (some (.int (nI (popN m 7)))) r σ τ)) 0 0 shp 4 [some (.int (nI m)), some (.int (nI (popN m i))), some (.int (nI i))] [] r σ τ := by
    intro k
    induction k with
    | zero =>
      intro i hi
      obtain rfl : i = 7 := by omega
      refine hv_iload_n dX12_bits_4 rfl ?_
      refine hv_bipush (v := 7) dX12_bits_5 (by decide) ?_
      refine hv_icmp_ge (tgt := 24) dX12_bits_7 (by decide) (fun c_7 => ?_) (fun c_7 => absurd ((by decide)) c_7)
      refine hv_iload_n dX12_bits_24 rfl ?_
      refine hv_iret dX12_bits_25 rfl ?_
      exact ⟨rfl, rfl, rfl, rfl⟩
    | succ k ih =>
      intro i hi
      refine hv_iload_n dX12_bits_4 rfl ?_
      refine hv_bipush (v := 7) dX12_bits_5 (by decide) ?_
      refine hv_icmp_ge (tgt := 24) dX12_bits_7 (by decide) (fun c_7 => absurd c_7 ((nI_ge (b := 7) (by omega) (by decide)))) (fun c_7 => ?_)
      refine hv_iload_n dX12_bits_10 rfl ?_
      refine hv_iload_n dX12_bits_11 rfl ?_
      refine hv_iload_n dX12_bits_12 rfl ?_
      refine hv_ishr dX12_bits_13 ?_
      refine hv_iconst (v := 1) dX12_bits_14 (by decide) ?_
      refine hv_iand dX12_bits_15 ?_
      rw [b_shr (by omega) (by omega)]
      refine hv_iadd dX12_bits_16 ?_
      rw [nI_add]
      refine hv_istore_n dX12_bits_17 rfl rfl ?_
      refine hv_iinc dX12_bits_18 rfl (nI_1 i) rfl rfl ?_
      refine hv_goto (tgt := 4) dX12_bits_21 (by decide) ?_
      exact ih (i + 1) (by omega)
  refine hv_iconst (v := 0) dX12_bits_0 (by decide) ?_
  refine hv_istore_n dX12_bits_1 rfl rfl ?_
  refine hv_iconst (v := 0) dX12_bits_2 (by decide) ?_
  refine hv_istore_n dX12_bits_3 rfl rfl ?_
  exact loop 7 0 (by omega)
theorem isH_in {h : Nat} {a : Int32} (hh : h ≤ 7) : inI 0 (nI h - 1) a = isH h a := by
  unfold inI isH
  cases h with
  | zero =>
    have e : nI 0 - 1 = -1 := by decide
    rw [e]
    apply decide_eq_decide.mpr
    constructor
    · rintro ⟨q1, q2⟩; exact absurd (Int32.le_trans q1 q2) (by decide)
    · rintro ⟨q1, q2⟩; exact absurd (Int32.not_lt.mp q1) q2
  | succ n =>
    rw [nI_pred]
    apply decide_eq_decide.mpr
    constructor
    · rintro ⟨q1, q2⟩
      refine ⟨Int32.not_lt.mpr q1, fun q3 => nI_ge (a := n) (b := n + 1) (by omega) (by omega) (Int32.le_trans q3 q2)⟩
    · rintro ⟨q1, q2⟩
      refine ⟨Int32.not_lt.mp q1, ?_⟩
      rcases pk_ix a (n := n + 1) (by omega) with c | c | ⟨i, hi, rfl⟩
      · exact absurd c q1
      · exact absurd c q2
      · exact nI_le (by omega) (by omega)
theorem d_isHouse {h L : Nat} {a : Int32} (hL : σ 64 18 = nI L) (hL2 : L < 2) (h74 : σ 74 L = nI h) (hh : h ≤ 7) : hCal G (m_X12_isHouse (hEq (some (.int (bI (isH h a)))) (rr 38 51 x y) σ τ)) [.ref (hgA G 64), .int a] shp (rr 38 51 x y) σ τ := by
  refine hv_enter pn_X12 rfl ?_
  refine hv_iload_n dX12_isHouse_0 rfl ?_
  refine hv_iconst (v := 0) dX12_isHouse_1 (by decide) ?_
  refine hv_aload_n dX12_isHouse_2 rfl ?_
  refine hv_getr dX12_isHouse_3 fl_X12_46 (by first | rfl | assumption) rfl (by first | rfl | assumption) ?_
  refine hv_aload_n dX12_isHouse_6 rfl ?_
  refine hv_geti dX12_isHouse_7 fl_X12_233 (by first | rfl | assumption) rfl ?_
  refine hv_iald dX12_isHouse_10 (by first | rfl | assumption) (j := L) hL (by omega) (by first | decide | assumption) ?_
  refine hv_iconst (v := 1) dX12_isHouse_11 (by decide) ?_
  refine hv_isub dX12_isHouse_12 ?_
  rw [h74]
  refine hv_cs3 (d_in) dX12_isHouse_13 ml_X12_319 mk_X12_in rfl rfl rfl ?_
  rintro _ _ _ _ ⟨rfl, rfl, rfl, rfl⟩
  rw [isH_in hh]
  refine hv_zret dX12_isHouse_16 rfl (bI_01 _) ?_
  exact ⟨rfl, rfl, rfl, rfl⟩
theorem d_copies {L : Nat} (hL : σ 64 18 = nI L) (hL2 : L < 2) : hCal G (m_X12_copies (hQp [64, 99] none (rr 38 51 x y) σ τ (fun σ' => σ' 64 = upd (σ 64) 53 (σ 85 L) ∧ ∀ j, j < 37 → σ' 99 j = σ 98 j))) [.ref (hgA G 64)] shp (rr 38 51 x y) σ τ := by
  refine hv_enter pn_X12 rfl ?_
  have loop : ∀ k i (σ' : hS), i + k = 37 → (∀ c, c ∉ [99] → σ' c = σ c) → (∀ j, j < i → σ' 99 j = σ 98 j) → hV G (m_X12_copies (hQp [64, 99] none (rr 38 51 x y) σ τ (fun σ' => σ' 64 = upd (σ 64) 53 (σ 85 L) ∧ ∀ j, j < 37 → σ' 99 j = σ 98 j))) 0 0 shp 2 [some (.ref (hgA G 64)), some (.int (nI i))] [] (rr 38 51 x y) σ' τ := by
    intro k
    induction k with
    | zero =>
      intro i σ' hi hσ hr
      obtain rfl : i = 37 := by omega
      refine hv_iload_n dX12_copies_2 rfl ?_
      refine hv_bipush (v := 37) dX12_copies_3 (by decide) ?_
      refine hv_icmp_ge (tgt := 26) dX12_copies_5 (by decide) (fun c_5 => ?_) (fun c_5 => absurd ((by decide)) c_5)
      refine hv_aload_n dX12_copies_26 rfl ?_
      refine hv_aload_n dX12_copies_27 rfl ?_
      refine hv_getr dX12_copies_28 fl_X12_79 (by first | rfl | assumption) rfl (by first | rfl | assumption) ?_
      refine hv_aload_n dX12_copies_31 rfl ?_
      refine hv_geti dX12_copies_32 fl_X12_233 (by first | rfl | assumption) rfl ?_
      refine hv_iald dX12_copies_35 (by first | rfl | assumption) (j := L) (by rw [hσ 64 (by decide)]; exact hL) (by omega) (by first | decide | assumption) ?_
      refine hv_puti dX12_copies_36 fl_X12_323 (by first | rfl | assumption) rfl rfl rfl ?_
      refine hv_vret dX12_copies_39 rfl ?_
      refine ⟨rfl, rfl, rfl, off_up (off_wk hσ (by decide)) (by decide), ?_, fun j hj => ?_⟩
      · rw [hup_eq, hσ 64 (by decide), hσ 85 (by decide)]
      · rw [hva_ne (by decide)]; exact hr j hj
    | succ k ih =>
      intro i σ' hi hσ hr
      refine hv_iload_n dX12_copies_2 rfl ?_
      refine hv_bipush (v := 37) dX12_copies_3 (by decide) ?_
      refine hv_icmp_ge (tgt := 26) dX12_copies_5 (by decide) (fun c_5 => absurd c_5 ((nI_ge (b := 37) (by omega) (by decide)))) (fun c_5 => ?_)
      refine hv_aload_n dX12_copies_8 rfl ?_
      refine hv_getr dX12_copies_9 fl_X12_122 (by first | rfl | assumption) rfl (by first | rfl | assumption) ?_
      refine hv_iload_n dX12_copies_12 rfl ?_
      refine hv_aload_n dX12_copies_13 rfl ?_
      refine hv_getr dX12_copies_14 fl_X12_119 (by first | rfl | assumption) rfl (by first | rfl | assumption) ?_
      refine hv_iload_n dX12_copies_17 rfl ?_
      refine hv_iald dX12_copies_18 (by first | rfl | assumption) rfl (by first | assumption | omega) (by first | decide | assumption) ?_
      refine hv_iast dX12_copies_19 (by first | rfl | assumption) rfl (by first | assumption | omega) (by first | decide | assumption) ?_
      refine hv_iinc dX12_copies_20 rfl (nI_1 i) rfl rfl ?_
      refine hv_goto (tgt := 2) dX12_copies_23 (by decide) ?_
      refine ih (i + 1) _ (by omega) (off_up hσ (by decide)) (fun j hj => ?_)
      rw [hup_eq]
      exact upd_lt hr (by rw [hσ 98 (by decide)]) j hj
  refine hv_iconst (v := 0) dX12_copies_0 (by decide) ?_
  refine hv_istore_n dX12_copies_1 rfl rfl ?_
  exact loop 37 0 σ (by omega) (fun _ _ => rfl) (fun j hj => absurd hj (by omega))
theorem d_keepsRow : hCal G (m_X12_keepsRow (hQp [98] none (rr 38 51 x y) σ τ (fun σ' => ∀ j, j < 37 → σ' 98 j = σ 99 j))) [.ref (hgA G 64)] shp (rr 38 51 x y) σ τ := by
  refine hv_enter pn_X12 rfl ?_
  have loop : ∀ k i (σ' : hS), i + k = 37 → (∀ c, c ∉ [98] → σ' c = σ c) → (∀ j, j < i → σ' 98 j = σ 99 j) → hV G (m_X12_keepsRow (hQp [98] none (rr 38 51 x y) σ τ (fun σ' => ∀ j, j < 37 → σ' 98 j = σ 99 j))) 0 0 shp 2 [some (.ref (hgA G 64)), some (.int (nI i))] [] (rr 38 51 x y) σ' τ := by
    intro k
    induction k with
    | zero =>
      intro i σ' hi hσ hr
      obtain rfl : i = 37 := by omega
      refine hv_iload_n dX12_keepsRow_2 rfl ?_
      refine hv_bipush (v := 37) dX12_keepsRow_3 (by decide) ?_
      refine hv_icmp_ge (tgt := 26) dX12_keepsRow_5 (by decide) (fun c_5 => ?_) (fun c_5 => absurd ((by decide)) c_5)
      refine hv_vret dX12_keepsRow_26 rfl ?_
      exact ⟨rfl, rfl, rfl, hσ, hr⟩
    | succ k ih =>
      intro i σ' hi hσ hr
      refine hv_iload_n dX12_keepsRow_2 rfl ?_
      refine hv_bipush (v := 37) dX12_keepsRow_3 (by decide) ?_
      refine hv_icmp_ge (tgt := 26) dX12_keepsRow_5 (by decide) (fun c_5 => absurd c_5 ((nI_ge (b := 37) (by omega) (by decide)))) (fun c_5 => ?_)
      refine hv_aload_n dX12_keepsRow_8 rfl ?_
      refine hv_getr dX12_keepsRow_9 fl_X12_119 (by first | rfl | assumption) rfl (by first | rfl | assumption) ?_
      refine hv_iload_n dX12_keepsRow_12 rfl ?_
      refine hv_aload_n dX12_keepsRow_13 rfl ?_
      refine hv_getr dX12_keepsRow_14 fl_X12_122 (by first | rfl | assumption) rfl (by first | rfl | assumption) ?_
      refine hv_iload_n dX12_keepsRow_17 rfl ?_
      refine hv_iald dX12_keepsRow_18 (by first | rfl | assumption) rfl (by first | assumption | omega) (by first | decide | assumption) ?_
      refine hv_iast dX12_keepsRow_19 (by first | rfl | assumption) rfl (by first | assumption | omega) (by first | decide | assumption) ?_
      refine hv_iinc dX12_keepsRow_20 rfl (nI_1 i) rfl rfl ?_
      refine hv_goto (tgt := 2) dX12_keepsRow_23 (by decide) ?_
      refine ih (i + 1) _ (by omega) (off_up hσ (by decide)) (fun j hj => ?_)
      rw [hup_eq]
      exact upd_lt hr (by rw [hσ 99 (by decide)]) j hj
  refine hv_iconst (v := 0) dX12_keepsRow_0 (by decide) ?_
  refine hv_istore_n dX12_keepsRow_1 rfl rfl ?_
  exact loop 37 0 σ (by omega) (fun _ _ => rfl) (fun j hj => absurd hj (by omega))
theorem d_mixed {a b : Int32} {r : hR} : hCal G (m_X12_mixed (hEq (some (.int (fMix a b))) r σ τ)) [.int a, .int b] shp r σ τ := by
  refine hv_enter pn_X12 rfl ?_
  refine hv_iload_n dX12_mixed_0 rfl ?_
  refine hv_iload_n dX12_mixed_1 rfl ?_
  refine hv_ixor dX12_mixed_2 ?_
  refine hv_ldcw dX12_mixed_3 cn_X12_326 ?_
  refine hv_imul dX12_mixed_6 ?_
  refine hv_sipush (v := 12345) dX12_mixed_7 (by decide) ?_
  refine hv_iadd dX12_mixed_10 ?_
  refine hv_istore_n dX12_mixed_11 rfl rfl ?_
  refine hv_iload_n dX12_mixed_12 rfl ?_
  refine hv_iload_n dX12_mixed_13 rfl ?_
  refine hv_bipush (v := 15) dX12_mixed_14 (by decide) ?_
  refine hv_iushr dX12_mixed_16 ?_
  refine hv_ixor dX12_mixed_17 ?_
  refine hv_iret dX12_mixed_18 rfl ?_
  exact ⟨rfl, rfl, rfl, rfl⟩
theorem d_isGlut {L : Nat} {t : hTw} (hL : σ 64 18 = nI L) (hL2 : L < 2) (hO : tO t = σ 84 L) : hCal G (m_X12_isGlut (hEq (some (.int (bI (fGl t (σ 64 53) (σ 99 36))))) (rr 38 51 x y) σ τ)) [.ref (hgA G 64)] shp (rr 38 51 x y) σ τ := by
  refine hv_enter pn_X12 rfl ?_
  refine hv_aload_n dX12_isGlut_0 rfl ?_
  refine hv_geti dX12_isGlut_1 fl_X12_323 (by first | rfl | assumption) rfl ?_
  refine hv_bipush (v := 115) dX12_isGlut_4 (by decide) ?_
  refine hv_cs2 (d_mixed) dX12_isGlut_6 ml_X12_327 mk_X12_mixed rfl rfl rfl ?_
  rintro _ _ _ _ ⟨rfl, rfl, rfl, rfl⟩
  refine hv_iconst (v := 4) dX12_isGlut_9 (by decide) ?_
  refine hv_aload_n dX12_isGlut_10 rfl ?_
  refine hv_getr dX12_isGlut_11 fl_X12_122 (by first | rfl | assumption) rfl (by first | rfl | assumption) ?_
  refine hv_bipush (v := 36) dX12_isGlut_14 (by decide) ?_
  refine hv_iald dX12_isGlut_16 (by first | rfl | assumption) (j := 36) rfl (by decide) (by first | decide | assumption) ?_
  refine hv_imul dX12_isGlut_17 ?_
  refine hv_cs2 (d_mixed) dX12_isGlut_18 ml_X12_327 mk_X12_mixed rfl rfl rfl ?_
  rintro _ _ _ _ ⟨rfl, rfl, rfl, rfl⟩
  refine hv_iconst (v := 1) dX12_isGlut_21 (by decide) ?_
  refine hv_iushr dX12_isGlut_22 ?_
  refine hv_bipush (v := 100) dX12_isGlut_23 (by decide) ?_
  refine hv_irem dX12_isGlut_25 (by decide) ?_
  refine hv_aload_n dX12_isGlut_26 rfl ?_
  refine hv_getr dX12_isGlut_27 fl_X12_76 (by first | rfl | assumption) rfl (by first | rfl | assumption) ?_
  refine hv_aload_n dX12_isGlut_30 rfl ?_
  refine hv_geti dX12_isGlut_31 fl_X12_233 (by first | rfl | assumption) rfl ?_
  refine hv_iald dX12_isGlut_34 (by first | rfl | assumption) (j := L) hL (by omega) (by first | decide | assumption) ?_
  refine hv_icmp_ge (tgt := 42) dX12_isGlut_35 (by decide) (fun c_35 => ?_) (fun c_35 => ?_)
  · have hgg : fGl t (σ 64 53) (σ 99 36) = false := by unfold fGl; rw [hO]; exact decide_eq_false (Int32.not_lt.mpr c_35)
    refine hv_iconst (v := 0) dX12_isGlut_42 (by decide) ?_
    refine hv_zret dX12_isGlut_43 rfl (by first | exact Or.inl rfl | exact Or.inr rfl | assumption) ?_
    rw [hgg]; exact ⟨rfl, rfl, rfl, rfl⟩
  · have hgg : fGl t (σ 64 53) (σ 99 36) = true := by unfold fGl; rw [hO]; exact decide_eq_true (Int32.not_le.mp c_35)
    refine hv_iconst (v := 1) dX12_isGlut_38 (by decide) ?_
    refine hv_goto (tgt := 43) dX12_isGlut_39 (by decide) ?_
    refine hv_zret dX12_isGlut_43 rfl (by first | exact Or.inl rfl | exact Or.inr rfl | assumption) ?_
    rw [hgg]; exact ⟨rfl, rfl, rfl, rfl⟩
theorem d_sumOf {f : Nat} (hf : f + 7 ≤ 37) : hCal G (m_X12_sumOf (hEq (some (.int (hsum (fun a => σ 99 (f + a)) 7))) (rr 38 51 x y) σ τ)) [.ref (hgA G 64), .int (nI f)] shp (rr 38 51 x y) σ τ := by
  refine hv_enter pn_X12 rfl ?_
  have loop : ∀ k i, i + k = 7 → hV G (m_X12_sumOf (hEq (some (.int (hsum (fun a => σ 99 (f + a)) 7))) (rr 38 51 x y) σ τ)) 0 0 shp 4 [some (.ref (hgA G 64)), some (.int (nI f)), some (.int (hsum (fun a => σ 99 (f + a)) i)), some (.int (nI i))] [] (rr 38 51 x y) σ τ := by
    intro k
    induction k with
    | zero =>
      intro i hi
      obtain rfl : i = 7 := by omega
      refine hv_iload_n dX12_sumOf_4 rfl ?_
      refine hv_bipush (v := 7) dX12_sumOf_5 (by decide) ?_
      refine hv_icmp_ge (tgt := 27) dX12_sumOf_7 (by decide) (fun c_7 => ?_) (fun c_7 => absurd ((by decide)) c_7)
      refine hv_iload_n dX12_sumOf_27 rfl ?_
      refine hv_iret dX12_sumOf_28 rfl ?_
      exact ⟨rfl, rfl, rfl, rfl⟩
    | succ k ih =>
      intro i hi
      refine hv_iload_n dX12_sumOf_4 rfl ?_
      refine hv_bipush (v := 7) dX12_sumOf_5 (by decide) ?_
      refine hv_icmp_ge (tgt := 27) dX12_sumOf_7 (by decide) (fun c_7 => absurd c_7 ((nI_ge (b := 7) (by omega) (by decide)))) (fun c_7 => ?_)
      refine hv_iload_n dX12_sumOf_10 rfl ?_
      refine hv_aload_n dX12_sumOf_11 rfl ?_
      refine hv_getr dX12_sumOf_12 fl_X12_122 (by first | rfl | assumption) rfl (by first | rfl | assumption) ?_
      refine hv_iload_n dX12_sumOf_15 rfl ?_
      refine hv_iload_n dX12_sumOf_16 rfl ?_
      refine hv_iadd dX12_sumOf_17 ?_
      refine hv_iald dX12_sumOf_18 (by first | rfl | assumption) (j := f + i) (nI_add f i) (by omega) (by first | decide | assumption) ?_
      refine hv_iadd dX12_sumOf_19 ?_
      refine hv_istore_n dX12_sumOf_20 rfl rfl ?_
      refine hv_iinc dX12_sumOf_21 rfl (nI_1 i) rfl rfl ?_
      refine hv_goto (tgt := 4) dX12_sumOf_24 (by decide) ?_
      exact ih (i + 1) (by omega)
  refine hv_iconst (v := 0) dX12_sumOf_0 (by decide) ?_
  refine hv_istore_n dX12_sumOf_1 rfl rfl ?_
  refine hv_iconst (v := 0) dX12_sumOf_2 (by decide) ?_
  refine hv_istore_n dX12_sumOf_3 rfl rfl ?_
  exact loop 7 0 (by omega)
theorem d_looks : hCal G (m_X12_looks (hQp [96] none (rr 38 51 x y) σ τ (fun σ' => ∀ j, j < 9 → σ' 96 j = vAll (hsum (fun a => σ 99 (0 + a)) 7) (σ 99 36) j))) [.ref (hgA G 64)] shp (rr 38 51 x y) σ τ := by
  refine hv_enter pn_X12 rfl ?_
  have loop : ∀ k i (σ' : hS), i + k = 9 → (∀ c, c ∉ [96] → σ' c = σ c) → (∀ j, j < i → σ' 96 j = 0) → hV G (m_X12_looks (hQp [96] none (rr 38 51 x y) σ τ (fun σ' => ∀ j, j < 9 → σ' 96 j = vAll (hsum (fun a => σ 99 (0 + a)) 7) (σ 99 36) j))) 0 0 shp 2 [some (.ref (hgA G 64)), some (.int (nI i))] [] (rr 38 51 x y) σ' τ := by
    intro k
    induction k with
    | zero =>
      intro i σ' hi hσ h0
      obtain rfl : i = 9 := by omega
      have e99 := hσ 99 (by decide)
      refine hv_iload_n dX12_looks_2 rfl ?_
      refine hv_bipush (v := 9) dX12_looks_3 (by decide) ?_
      refine hv_icmp_ge (tgt := 21) dX12_looks_5 (by decide) (fun c_5 => ?_) (fun c_5 => absurd ((by decide)) c_5)
      refine hv_aload_n dX12_looks_21 rfl ?_
      refine hv_getr dX12_looks_22 fl_X12_113 (by first | rfl | assumption) rfl (by first | rfl | assumption) ?_
      refine hv_iconst (v := 1) dX12_looks_25 (by decide) ?_
      refine hv_aload_n dX12_looks_26 rfl ?_
      refine hv_iconst (v := 0) dX12_looks_27 (by decide) ?_
      refine hv_cv1 (d_sumOf (f := 0) (by decide)) dX12_looks_28 ml_X12_330 mk_X12_sumOf (by first | rfl | assumption) rfl rfl rfl rfl rfl ?_
      rintro _ _ _ _ ⟨rfl, rfl, rfl, rfl⟩
      rw [e99]
      refine hv_iast dX12_looks_31 (by first | rfl | assumption) (j := 1) rfl (by decide) (by first | decide | assumption) ?_
      refine hv_aload_n dX12_looks_32 rfl ?_
      refine hv_getr dX12_looks_33 fl_X12_113 (by first | rfl | assumption) rfl (by first | rfl | assumption) ?_
      refine hv_iconst (v := 2) dX12_looks_36 (by decide) ?_
      refine hv_aload_n dX12_looks_37 rfl ?_
      refine hv_getr dX12_looks_38 fl_X12_122 (by first | rfl | assumption) rfl (by first | rfl | assumption) ?_
      refine hv_bipush (v := 36) dX12_looks_41 (by decide) ?_
      refine hv_iald dX12_looks_43 (by first | rfl | assumption) (j := 36) rfl (by decide) (by first | decide | assumption) ?_
      refine hv_iast dX12_looks_44 (by first | rfl | assumption) (j := 2) rfl (by decide) (by first | decide | assumption) ?_
      refine hv_vret dX12_looks_45 rfl ?_
      refine ⟨rfl, rfl, rfl, off_up (off_up hσ (by decide)) (by decide), ?_⟩
      rw [hva_ne (show (99 : Nat) ≠ 96 by decide), e99]
      refine lt9 ?_ ?_ ?_ ?_ ?_ ?_ ?_ ?_ ?_ <;> simp [va_up, upd, vAll, h0]
    | succ k ih =>
      intro i σ' hi hσ h0
      refine hv_iload_n dX12_looks_2 rfl ?_
      refine hv_bipush (v := 9) dX12_looks_3 (by decide) ?_
      refine hv_icmp_ge (tgt := 21) dX12_looks_5 (by decide) (fun c_5 => absurd c_5 ((nI_ge (b := 9) (by omega) (by decide)))) (fun c_5 => ?_)
      refine hv_aload_n dX12_looks_8 rfl ?_
      refine hv_getr dX12_looks_9 fl_X12_113 (by first | rfl | assumption) rfl (by first | rfl | assumption) ?_
      refine hv_iload_n dX12_looks_12 rfl ?_
      refine hv_iconst (v := 0) dX12_looks_13 (by decide) ?_
      refine hv_iast dX12_looks_14 (by first | rfl | assumption) rfl (by first | assumption | omega) (by first | decide | assumption) ?_
      refine hv_iinc dX12_looks_15 rfl (nI_1 i) rfl rfl ?_
      refine hv_goto (tgt := 2) dX12_looks_18 (by decide) ?_
      refine ih (i + 1) _ (by omega) (off_up hσ (by decide)) (fun j hj => ?_)
      rw [hup_eq]
      exact upd_lt (g := fun _ => 0) h0 rfl j hj
  refine hv_iconst (v := 0) dX12_looks_0 (by decide) ?_
  refine hv_istore_n dX12_looks_1 rfl rfl ?_
  exact loop 9 0 σ (by omega) (fun _ _ => rfl) (fun j hj => absurd hj (by omega))
end S40

