abbrev m_X6_sum (Q : hPo) : hMe := (hrm 0, 0, 0, yX6_sum, cX6_sum, 4, (some FieldType.int), shp, none, Q)
abbrev m_X6_allFish (Q : hPo) : hMe := (hrm 1, 0, 0, yX6_allFish, cX6_allFish, 1, (some FieldType.int), shp, none, Q)
abbrev m_X6_fresh (Q : hPo) : hMe := (hrm 0, 0, 0, yX6_fresh, cX6_fresh, 2, (some FieldType.int), shp, none, Q)
abbrev m_X6_consume (Q : hPo) : hMe := (hrm 1, 0, 0, yX6_consume, cX6_consume, 3, (none : Option FieldType), shp, none, Q)
abbrev m_X6_move (Q : hPo) : hMe := (hrm 1, 0, 0, yX6_move, cX6_move, 5, (none : Option FieldType), shp, none, Q)
abbrev m_X6_hasProxy (Q : hPo) : hMe := (hrm 0, 0, 0, yX6_hasProxy, cX6_hasProxy, 4, (some FieldType.boolean), shp, none, Q)
abbrev m_X6_fewestFish (Q : hPo) : hMe := (hrm 0, 0, 0, yX6_fewestFish, cX6_fewestFish, 3, (some FieldType.int), shp, none, Q)
abbrev m_X6_copy (Q : hPo) : hMe := (hrm 1, 0, 0, yX6_copy, cX6_copy, 2, (none : Option FieldType), shp, none, Q)
abbrev m_X2_within (Q : hPo) : hMe := (hrm 1, 0, 0, yX2_within, cX2_within, 3, (some FieldType.int), shp, none, Q)
/-- the sum of the first n of a row -/
def hsum (f : Nat → Int32) : Nat → Int32
  | 0 => 0
  | n + 1 => hsum f n + f n
def hmin (x y : Int32) : Int32 := if x > y then y else x
def hmax (x y : Int32) : Int32 := if x < y then y else x
/-- the first n places of g, the others of f -/
def hmx (g f : Nat → Int32) (n : Nat) : Nat → Int32 := fun a => if a < n then g a else f a
theorem hmx_0 (g f : Nat → Int32) : hmx g f 0 = f := by funext a; simp [hmx]
theorem hmx_s (g f : Nat → Int32) (n : Nat) : upd (hmx g f n) n (g n) = hmx g f (n + 1) := by
  funext a
  unfold upd hmx
  by_cases h : a = n
  · subst h; simp
  · rw [if_neg h]
    by_cases h2 : a < n
    · rw [if_pos h2, if_pos (by omega)]
    · rw [if_neg h2, if_neg (by omega)]
theorem hva_ne {α : Type} {f : Nat → α} {k j : Nat} {v : α} (h : j ≠ k) : va_up f k v j = f j := by simp [va_up, h]
/-- nothing but the cells X may have changed -/
def hQx (X : List Nat) (v : Option Value) (r : hR) (σ : hS) (τ : hT) : hPo := fun v' r' σ' τ' => v = v' ∧ r = r' ∧ τ = τ' ∧ ∀ k, k ∉ X → σ' k = σ k
section S10
variable {G : hGl} {σ : hS} {τ : hT} {x y : Option Nat}
theorem c_sum {S row n h : Nat} {r : hR} (hS : hkd shp S = (0, 6)) (hr : hkd shp row = (1, n)) (hn : n < 2 ^ 31) (hh : σ S 5 = nI h) (hhn : h ≤ n) : hCal G (m_X6_sum (hEq (some (.int (hsum (σ row) h))) r σ τ)) [.ref (hgA G S), .ref (hgA G row)] shp r σ τ := by
  refine hv_enter pn_X6 rfl ?_
  have loop : ∀ k i, i + k = h → hV G (m_X6_sum (hEq (some (.int (hsum (σ row) h))) r σ τ)) 0 0 shp 4 [some (.ref (hgA G S)), some (.ref (hgA G row)), some (.int (hsum (σ row) i)), some (.int (nI i))] [] r σ τ := by
    intro k
    induction k with
    | zero =>
      intro i hi
      refine hv_iload_n dX6_sum_4 rfl ?_
      refine hv_aload_n dX6_sum_5 rfl ?_
      refine hv_geti dX6_sum_6 fl_X6_33 (by first | rfl | assumption) rfl ?_
      refine hv_icmp_ge (tgt := 24) dX6_sum_9 (by decide) (fun c_9 => ?_) (fun c_9 => absurd ((by rw [hh, ← hi]; exact nI_le (Nat.le_refl _) (by omega))) c_9)
      refine hv_iload_n dX6_sum_24 rfl ?_
      refine hv_iret dX6_sum_25 rfl ?_
      subst hi; exact ⟨rfl, rfl, rfl, rfl⟩
    | succ k ih =>
      intro i hi
      refine hv_iload_n dX6_sum_4 rfl ?_
      refine hv_aload_n dX6_sum_5 rfl ?_
      refine hv_geti dX6_sum_6 fl_X6_33 (by first | rfl | assumption) rfl ?_
      refine hv_icmp_ge (tgt := 24) dX6_sum_9 (by decide) (fun c_9 => absurd c_9 ((by rw [hh]; exact nI_ge (by omega) (by omega)))) (fun c_9 => ?_)
      refine hv_iload_n dX6_sum_12 rfl ?_
      refine hv_aload_n dX6_sum_13 rfl ?_
      refine hv_iload_n dX6_sum_14 rfl ?_
      refine hv_iald dX6_sum_15 (by first | rfl | assumption) rfl (by first | assumption | omega) (by first | decide | assumption) ?_
      refine hv_iadd dX6_sum_16 ?_
      refine hv_istore_n dX6_sum_17 rfl rfl ?_
      refine hv_iinc dX6_sum_18 rfl (nI_1 i) rfl rfl ?_
      refine hv_goto (tgt := 4) dX6_sum_21 (by decide) ?_
      exact ih (i + 1) (by omega)
  refine hv_iconst (v := 0) dX6_sum_0 (by decide) ?_
  refine hv_istore_n dX6_sum_1 rfl rfl ?_
  refine hv_iconst (v := 0) dX6_sum_2 (by decide) ?_
  refine hv_istore_n dX6_sum_3 rfl rfl ?_
  exact loop h 0 (by omega)
theorem c_allFish_11 {h : Nat} (hh : σ 11 5 = nI h) (hhn : h ≤ 7) : hCal G (m_X6_allFish (hEq (some (.int (hsum (σ 12) h))) (rr 38 51 x y) σ τ)) [.ref (hgA G 11)] shp (rr 38 51 x y) σ τ := by
  refine hv_enter pn_X6 rfl ?_
  refine hv_aload_n dX6_allFish_0 rfl ?_
  refine hv_aload_n dX6_allFish_1 rfl ?_
  refine hv_getr dX6_allFish_2 fl_X6_9 (by first | rfl | assumption) rfl (by first | rfl | assumption) ?_
  refine hv_cv1 (c_sum rfl rfl (by decide) hh hhn) dX6_allFish_5 ml_X6_49 mk_X6_sum (by first | rfl | assumption) rfl rfl rfl rfl rfl ?_
  rintro _ _ _ _ ⟨rfl, rfl, rfl, rfl⟩
  refine hv_iret dX6_allFish_8 rfl ?_
  exact ⟨rfl, rfl, rfl, rfl⟩
theorem c_fresh_11 {a : Nat} (ha : a < 7) : hCal G (m_X6_fresh (hEq (some (.int (σ 12 a - σ 14 a))) (rr 38 51 x y) σ τ)) [.ref (hgA G 11), .int (nI a)] shp (rr 38 51 x y) σ τ := by
  refine hv_enter pn_X6 rfl ?_
  refine hv_aload_n dX6_fresh_0 rfl ?_
  refine hv_getr dX6_fresh_1 fl_X6_9 (by first | rfl | assumption) rfl (by first | rfl | assumption) ?_
  refine hv_iload_n dX6_fresh_4 rfl ?_
  refine hv_iald dX6_fresh_5 (by first | rfl | assumption) rfl (by first | assumption | omega) (by first | decide | assumption) ?_
  refine hv_aload_n dX6_fresh_6 rfl ?_
  refine hv_getr dX6_fresh_7 fl_X6_18 (by first | rfl | assumption) rfl (by first | rfl | assumption) ?_
  refine hv_iload_n dX6_fresh_10 rfl ?_
  refine hv_iald dX6_fresh_11 (by first | rfl | assumption) rfl (by first | assumption | omega) (by first | decide | assumption) ?_
  refine hv_isub dX6_fresh_12 ?_
  refine hv_iret dX6_fresh_13 rfl ?_
  exact ⟨rfl, rfl, rfl, rfl⟩
/-- what a HOUSE eats -/
def sConsume_11 (a : Nat) (n : Int32) (σ : hS) : hS := va_up (va_up (va_up σ 12 (upd (σ 12) a (σ 12 a - n))) 14 (upd (σ 14) a (hmin (σ 14 a) (σ 12 a - n)))) 15 (upd (σ 15) a (σ 15 a + n))
theorem c_consume_11 {a : Nat} {n : Int32} (ha : a < 7) : hCal G (m_X6_consume (hEq none (rr 38 51 x y) (sConsume_11 a n σ) τ)) [.ref (hgA G 11), .int (nI a), .int n] shp (rr 38 51 x y) σ τ := by
  refine hv_enter pn_X6 rfl ?_
  refine hv_aload_n dX6_consume_0 rfl ?_
  refine hv_getr dX6_consume_1 fl_X6_9 (by first | rfl | assumption) rfl (by first | rfl | assumption) ?_
  refine hv_iload_n dX6_consume_4 rfl ?_
  refine hv_dup2 dX6_consume_5 rfl rfl ?_
  refine hv_iald dX6_consume_6 (by first | rfl | assumption) rfl (by first | assumption | omega) (by first | decide | assumption) ?_
  refine hv_iload_n dX6_consume_7 rfl ?_
  refine hv_isub dX6_consume_8 ?_
  refine hv_iast dX6_consume_9 (by first | rfl | assumption) rfl (by first | assumption | omega) (by first | decide | assumption) ?_
  refine hv_aload_n dX6_consume_10 rfl ?_
  refine hv_getr dX6_consume_11 fl_X6_18 (by first | rfl | assumption) rfl (by first | rfl | assumption) ?_
  refine hv_iload_n dX6_consume_14 rfl ?_
  refine hv_aload_n dX6_consume_15 rfl ?_
  refine hv_getr dX6_consume_16 fl_X6_18 (by first | rfl | assumption) rfl (by first | rfl | assumption) ?_
  refine hv_iload_n dX6_consume_19 rfl ?_
  refine hv_iald dX6_consume_20 (by first | rfl | assumption) rfl (by first | assumption | omega) (by first | decide | assumption) ?_
  refine hv_aload_n dX6_consume_21 rfl ?_
  refine hv_getr dX6_consume_22 fl_X6_9 (by first | rfl | assumption) rfl (by first | rfl | assumption) ?_
  refine hv_iload_n dX6_consume_25 rfl ?_
  refine hv_iald dX6_consume_26 (by first | rfl | assumption) rfl (by first | assumption | omega) (by first | decide | assumption) ?_
  refine hv_min dX6_consume_27 ml_X6_53 rfl rfl rfl rfl ?_
  refine hv_iast dX6_consume_30 (by first | rfl | assumption) rfl (by first | assumption | omega) (by first | decide | assumption) ?_
  refine hv_aload_n dX6_consume_31 rfl ?_
  refine hv_getr dX6_consume_32 fl_X6_21 (by first | rfl | assumption) rfl (by first | rfl | assumption) ?_
  refine hv_iload_n dX6_consume_35 rfl ?_
  refine hv_dup2 dX6_consume_36 rfl rfl ?_
  refine hv_iald dX6_consume_37 (by first | rfl | assumption) rfl (by first | assumption | omega) (by first | decide | assumption) ?_
  refine hv_iload_n dX6_consume_38 rfl ?_
  refine hv_iadd dX6_consume_39 ?_
  refine hv_iast dX6_consume_40 (by first | rfl | assumption) rfl (by first | assumption | omega) (by first | decide | assumption) ?_
  refine hv_vret dX6_consume_41 rfl ?_
  refine ⟨rfl, rfl, ?_, rfl⟩
  simp [sConsume_11, hmin, va_up, pk_us]
theorem c_allFish_22 {h : Nat} (hh : σ 22 5 = nI h) (hhn : h ≤ 7) : hCal G (m_X6_allFish (hEq (some (.int (hsum (σ 23) h))) (rr 38 51 x y) σ τ)) [.ref (hgA G 22)] shp (rr 38 51 x y) σ τ := by
  refine hv_enter pn_X6 rfl ?_
  refine hv_aload_n dX6_allFish_0 rfl ?_
  refine hv_aload_n dX6_allFish_1 rfl ?_
  refine hv_getr dX6_allFish_2 fl_X6_9 (by first | rfl | assumption) rfl (by first | rfl | assumption) ?_
  refine hv_cv1 (c_sum rfl rfl (by decide) hh hhn) dX6_allFish_5 ml_X6_49 mk_X6_sum (by first | rfl | assumption) rfl rfl rfl rfl rfl ?_
  rintro _ _ _ _ ⟨rfl, rfl, rfl, rfl⟩
  refine hv_iret dX6_allFish_8 rfl ?_
  exact ⟨rfl, rfl, rfl, rfl⟩
theorem c_fresh_22 {a : Nat} (ha : a < 7) : hCal G (m_X6_fresh (hEq (some (.int (σ 23 a - σ 25 a))) (rr 38 51 x y) σ τ)) [.ref (hgA G 22), .int (nI a)] shp (rr 38 51 x y) σ τ := by
  refine hv_enter pn_X6 rfl ?_
  refine hv_aload_n dX6_fresh_0 rfl ?_
  refine hv_getr dX6_fresh_1 fl_X6_9 (by first | rfl | assumption) rfl (by first | rfl | assumption) ?_
  refine hv_iload_n dX6_fresh_4 rfl ?_
  refine hv_iald dX6_fresh_5 (by first | rfl | assumption) rfl (by first | assumption | omega) (by first | decide | assumption) ?_
  refine hv_aload_n dX6_fresh_6 rfl ?_
  refine hv_getr dX6_fresh_7 fl_X6_18 (by first | rfl | assumption) rfl (by first | rfl | assumption) ?_
  refine hv_iload_n dX6_fresh_10 rfl ?_
  refine hv_iald dX6_fresh_11 (by first | rfl | assumption) rfl (by first | assumption | omega) (by first | decide | assumption) ?_
  refine hv_isub dX6_fresh_12 ?_
  refine hv_iret dX6_fresh_13 rfl ?_
  exact ⟨rfl, rfl, rfl, rfl⟩
/-- what a HOUSE eats -/
def sConsume_22 (a : Nat) (n : Int32) (σ : hS) : hS := va_up (va_up (va_up σ 23 (upd (σ 23) a (σ 23 a - n))) 25 (upd (σ 25) a (hmin (σ 25 a) (σ 23 a - n)))) 26 (upd (σ 26) a (σ 26 a + n))
theorem c_consume_22 {a : Nat} {n : Int32} (ha : a < 7) : hCal G (m_X6_consume (hEq none (rr 38 51 x y) (sConsume_22 a n σ) τ)) [.ref (hgA G 22), .int (nI a), .int n] shp (rr 38 51 x y) σ τ := by
  refine hv_enter pn_X6 rfl ?_
  refine hv_aload_n dX6_consume_0 rfl ?_
  refine hv_getr dX6_consume_1 fl_X6_9 (by first | rfl | assumption) rfl (by first | rfl | assumption) ?_
  refine hv_iload_n dX6_consume_4 rfl ?_
  refine hv_dup2 dX6_consume_5 rfl rfl ?_
  refine hv_iald dX6_consume_6 (by first | rfl | assumption) rfl (by first | assumption | omega) (by first | decide | assumption) ?_
  refine hv_iload_n dX6_consume_7 rfl ?_
  refine hv_isub dX6_consume_8 ?_
  refine hv_iast dX6_consume_9 (by first | rfl | assumption) rfl (by first | assumption | omega) (by first | decide | assumption) ?_
  refine hv_aload_n dX6_consume_10 rfl ?_
  refine hv_getr dX6_consume_11 fl_X6_18 (by first | rfl | assumption) rfl (by first | rfl | assumption) ?_
  refine hv_iload_n dX6_consume_14 rfl ?_
  refine hv_aload_n dX6_consume_15 rfl ?_
  refine hv_getr dX6_consume_16 fl_X6_18 (by first | rfl | assumption) rfl (by first | rfl | assumption) ?_
  refine hv_iload_n dX6_consume_19 rfl ?_
  refine hv_iald dX6_consume_20 (by first | rfl | assumption) rfl (by first | assumption | omega) (by first | decide | assumption) ?_
  refine hv_aload_n dX6_consume_21 rfl ?_
  refine hv_getr dX6_consume_22 fl_X6_9 (by first | rfl | assumption) rfl (by first | rfl | assumption) ?_
  refine hv_iload_n dX6_consume_25 rfl ?_
  refine hv_iald dX6_consume_26 (by first | rfl | assumption) rfl (by first | assumption | omega) (by first | decide | assumption) ?_
  refine hv_min dX6_consume_27 ml_X6_53 rfl rfl rfl rfl ?_
  refine hv_iast dX6_consume_30 (by first | rfl | assumption) rfl (by first | assumption | omega) (by first | decide | assumption) ?_
  refine hv_aload_n dX6_consume_31 rfl ?_
  refine hv_getr dX6_consume_32 fl_X6_21 (by first | rfl | assumption) rfl (by first | rfl | assumption) ?_
  refine hv_iload_n dX6_consume_35 rfl ?_
  refine hv_dup2 dX6_consume_36 rfl rfl ?_
  refine hv_iald dX6_consume_37 (by first | rfl | assumption) rfl (by first | assumption | omega) (by first | decide | assumption) ?_
  refine hv_iload_n dX6_consume_38 rfl ?_
  refine hv_iadd dX6_consume_39 ?_
  refine hv_iast dX6_consume_40 (by first | rfl | assumption) rfl (by first | assumption | omega) (by first | decide | assumption) ?_
  refine hv_vret dX6_consume_41 rfl ?_
  refine ⟨rfl, rfl, ?_, rfl⟩
  simp [sConsume_22, hmin, va_up, pk_us]
def sMove (a b : Nat) (n : Int32) (σ : hS) : hS := va_up (va_up σ 12 (upd (upd (σ 12) a (σ 12 a - n)) b (upd (σ 12) a (σ 12 a - n) b + n))) 14 (upd (upd (σ 14) a (σ 14 a - hmax 0 (n - (σ 12 a - σ 14 a)))) b (upd (σ 14) a (σ 14 a - hmax 0 (n - (σ 12 a - σ 14 a))) b + hmax 0 (n - (σ 12 a - σ 14 a))))
theorem c_move {a b : Nat} {n : Int32} (ha : a < 7) (hb : b < 7) : hCal G (m_X6_move (hEq none (rr 38 51 x y) (sMove a b n σ) τ)) [.ref (hgA G 11), .int (nI a), .int (nI b), .int n] shp (rr 38 51 x y) σ τ := by
  refine hv_enter pn_X6 rfl ?_
  refine hv_iconst (v := 0) dX6_move_0 (by decide) ?_
  refine hv_iload_n dX6_move_1 rfl ?_
  refine hv_aload_n dX6_move_2 rfl ?_
  refine hv_iload_n dX6_move_3 rfl ?_
  refine hv_cv1 (c_fresh_11 ha) dX6_move_4 ml_X6_59 mk_X6_fresh (by first | rfl | assumption) rfl rfl rfl rfl rfl ?_
  rintro _ _ _ _ ⟨rfl, rfl, rfl, rfl⟩
  refine hv_isub dX6_move_7 ?_
  refine hv_max dX6_move_8 ml_X6_63 rfl rfl rfl rfl ?_
  refine hv_istore dX6_move_11 rfl rfl ?_
  refine hv_aload_n dX6_move_13 rfl ?_
  refine hv_getr dX6_move_14 fl_X6_9 (by first | rfl | assumption) rfl (by first | rfl | assumption) ?_
  refine hv_iload_n dX6_move_17 rfl ?_
  refine hv_dup2 dX6_move_18 rfl rfl ?_
  refine hv_iald dX6_move_19 (by first | rfl | assumption) rfl (by first | assumption | omega) (by first | decide | assumption) ?_
  refine hv_iload_n dX6_move_20 rfl ?_
  refine hv_isub dX6_move_21 ?_
  refine hv_iast dX6_move_22 (by first | rfl | assumption) rfl (by first | assumption | omega) (by first | decide | assumption) ?_
  refine hv_aload_n dX6_move_23 rfl ?_
  refine hv_getr dX6_move_24 fl_X6_18 (by first | rfl | assumption) rfl (by first | rfl | assumption) ?_
  refine hv_iload_n dX6_move_27 rfl ?_
  refine hv_dup2 dX6_move_28 rfl rfl ?_
  refine hv_iald dX6_move_29 (by first | rfl | assumption) rfl (by first | assumption | omega) (by first | decide | assumption) ?_
  refine hv_iload dX6_move_30 rfl ?_
  refine hv_isub dX6_move_32 ?_
  refine hv_iast dX6_move_33 (by first | rfl | assumption) rfl (by first | assumption | omega) (by first | decide | assumption) ?_
  refine hv_aload_n dX6_move_34 rfl ?_
  refine hv_getr dX6_move_35 fl_X6_9 (by first | rfl | assumption) rfl (by first | rfl | assumption) ?_
  refine hv_iload_n dX6_move_38 rfl ?_
  refine hv_dup2 dX6_move_39 rfl rfl ?_
  refine hv_iald dX6_move_40 (by first | rfl | assumption) rfl (by first | assumption | omega) (by first | decide | assumption) ?_
  refine hv_iload_n dX6_move_41 rfl ?_
  refine hv_iadd dX6_move_42 ?_
  refine hv_iast dX6_move_43 (by first | rfl | assumption) rfl (by first | assumption | omega) (by first | decide | assumption) ?_
  refine hv_aload_n dX6_move_44 rfl ?_
  refine hv_getr dX6_move_45 fl_X6_18 (by first | rfl | assumption) rfl (by first | rfl | assumption) ?_
  refine hv_iload_n dX6_move_48 rfl ?_
  refine hv_dup2 dX6_move_49 rfl rfl ?_
  refine hv_iald dX6_move_50 (by first | rfl | assumption) rfl (by first | assumption | omega) (by first | decide | assumption) ?_
  refine hv_iload dX6_move_51 rfl ?_
  refine hv_iadd dX6_move_53 ?_
  refine hv_iast dX6_move_54 (by first | rfl | assumption) rfl (by first | assumption | omega) (by first | decide | assumption) ?_
  refine hv_vret dX6_move_55 rfl ?_
  refine ⟨rfl, rfl, ?_, rfl⟩
  funext k j
  simp only [sMove, hmax, va_up]
  by_cases h1 : k = 12 <;> by_cases h2 : k = 14 <;> simp_all
theorem c_within {v lo hi : Int32} {r : hR} : hCal G (m_X2_within (hEq (some (.int (hmax lo (hmin hi v)))) r σ τ)) [.int v, .int lo, .int hi] shp r σ τ := by
  refine hv_enter pn_X2 rfl ?_
  refine hv_iload_n dX2_within_0 rfl ?_
  refine hv_iload_n dX2_within_1 rfl ?_
  refine hv_iload_n dX2_within_2 rfl ?_
  refine hv_min dX2_within_3 ml_X2_28 rfl rfl rfl rfl ?_
  refine hv_max dX2_within_6 ml_X2_34 rfl rfl rfl rfl ?_
  refine hv_iret dX2_within_9 rfl ?_
  exact ⟨rfl, rfl, rfl, rfl⟩
end S10

