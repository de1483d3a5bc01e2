abbrev m_X4_fail (Q : hPo) : hMe := (hrm 0, 0, 0, yX4_fail, cX4_fail, 2, (none : Option FieldType), shp, none, Q)
abbrev m_X4_take (Q : hPo) : hMe := (hrm 1, 0, 0, yX4_take, cX4_take, 2, (none : Option FieldType), shp, none, Q)
abbrev m_X4_isOne (Q : hPo) : hMe := (hrm 0, 0, 0, yX4_isOne, cX4_isOne, 3, (some FieldType.boolean), shp, none, Q)
abbrev m_X4_takeSort (Q : hPo) : hMe := (hrm 2, 0, 0, yX4_takeSort, cX4_takeSort, 3, (none : Option FieldType), shp, none, Q)
abbrev m_X1_put (Q : hPo) : hMe := (hrm 0, 0, 0, yX1_put, cX1_put, 3, (some FieldType.int), shp, none, Q)
abbrev m_X1_startHere (Q : hPo) : hMe := (hrm 0, 0, 0, yX1_startHere, cX1_startHere, 2, (none : Option FieldType), shp, none, Q)
abbrev m_X1_leadHere (Q : hPo) : hMe := (hrm 0, 0, 0, yX1_leadHere, cX1_leadHere, 2, (none : Option FieldType), shp, none, Q)
abbrev m_parseUnit_0 (Q : hPo) : hMe := (hrm 20, 0, 0, yX4_parseUnit, cX4_parseUnit, 2, (none : Option FieldType), shp, none, Q)
abbrev m_parseProduct_0 (Q : hPo) : hMe := (hrm 21, 0, 0, yX4_parseProduct, cX4_parseProduct, 4, (none : Option FieldType), shp, none, Q)
abbrev m_parseSum_0 (Q : hPo) : hMe := (hrm 22, 0, 0, yX4_parseSum, cX4_parseSum, 4, (none : Option FieldType), shp, none, Q)
abbrev m_parseUnit_1 (Q : hPo) : hMe := (hrm 17, 0, 0, yX4_parseUnit, cX4_parseUnit, 2, (none : Option FieldType), shp, none, Q)
abbrev m_parseProduct_1 (Q : hPo) : hMe := (hrm 18, 0, 0, yX4_parseProduct, cX4_parseProduct, 4, (none : Option FieldType), shp, none, Q)
abbrev m_parseSum_1 (Q : hPo) : hMe := (hrm 19, 0, 0, yX4_parseSum, cX4_parseSum, 4, (none : Option FieldType), shp, none, Q)
abbrev m_parseUnit_2 (Q : hPo) : hMe := (hrm 14, 0, 0, yX4_parseUnit, cX4_parseUnit, 2, (none : Option FieldType), shp, none, Q)
abbrev m_parseProduct_2 (Q : hPo) : hMe := (hrm 15, 0, 0, yX4_parseProduct, cX4_parseProduct, 4, (none : Option FieldType), shp, none, Q)
abbrev m_parseSum_2 (Q : hPo) : hMe := (hrm 16, 0, 0, yX4_parseSum, cX4_parseSum, 4, (none : Option FieldType), shp, none, Q)
abbrev m_parseUnit_3 (Q : hPo) : hMe := (hrm 11, 0, 0, yX4_parseUnit, cX4_parseUnit, 2, (none : Option FieldType), shp, none, Q)
abbrev m_parseProduct_3 (Q : hPo) : hMe := (hrm 12, 0, 0, yX4_parseProduct, cX4_parseProduct, 4, (none : Option FieldType), shp, none, Q)
abbrev m_parseSum_3 (Q : hPo) : hMe := (hrm 13, 0, 0, yX4_parseSum, cX4_parseSum, 4, (none : Option FieldType), shp, none, Q)
abbrev m_parseUnit_4 (Q : hPo) : hMe := (hrm 8, 0, 0, yX4_parseUnit, cX4_parseUnit, 2, (none : Option FieldType), shp, none, Q)
abbrev m_parseProduct_4 (Q : hPo) : hMe := (hrm 9, 0, 0, yX4_parseProduct, cX4_parseProduct, 4, (none : Option FieldType), shp, none, Q)
abbrev m_parseSum_4 (Q : hPo) : hMe := (hrm 10, 0, 0, yX4_parseSum, cX4_parseSum, 4, (none : Option FieldType), shp, none, Q)
abbrev m_parseUnit_5 (Q : hPo) : hMe := (hrm 5, 0, 0, yX4_parseUnit, cX4_parseUnit, 2, (none : Option FieldType), shp, none, Q)
abbrev m_parseProduct_5 (Q : hPo) : hMe := (hrm 6, 0, 0, yX4_parseProduct, cX4_parseProduct, 4, (none : Option FieldType), shp, none, Q)
abbrev m_parseSum_5 (Q : hPo) : hMe := (hrm 7, 0, 0, yX4_parseSum, cX4_parseSum, 4, (none : Option FieldType), shp, none, Q)
abbrev m_parseUnit_6 (Q : hPo) : hMe := (hrm 2, 0, 0, yX4_parseUnit, cX4_parseUnit, 2, (none : Option FieldType), shp, none, Q)
abbrev m_parseProduct_6 (Q : hPo) : hMe := (hrm 3, 0, 0, yX4_parseProduct, cX4_parseProduct, 4, (none : Option FieldType), shp, none, Q)
abbrev m_parseSum_6 (Q : hPo) : hMe := (hrm 4, 0, 0, yX4_parseSum, cX4_parseSum, 4, (none : Option FieldType), shp, none, Q)
/-- how the parser stands: a fault, or the token that comes next -/
def pSt (f : hF) (n : Nat) : hPR Unit → hS → Prop
  | .inl (x, t), σ => σ 7 7 = nI x ∧ (x = 1 ∨ x = 2) ∧ σ 7 2 = nI t ∧ rel f n t
  | .inr (a, _), σ => σ 7 7 = 0 ∧ σ 7 2 = nI a ∧ σ 7 6 = nI (kd f n a) ∧ rel f n a
def k7 (σ σ' : hS) : Prop := ∀ j, j ≠ 2 → j ≠ 6 → j ≠ 7 → σ' 7 j = σ 7 j
theorem k7_rf {σ : hS} : k7 σ σ := fun _ _ _ _ => rfl
theorem k7_tr {σ σ1 σ2 : hS} (h : k7 σ σ1) (h2 : k7 σ1 σ2) : k7 σ σ2 := fun j a b c => (h2 j a b c).trans (h j a b c)
theorem pSt_of {f : hF} {n : Nat} {s : hPR Unit} {σ σ' : hS} (h : pSt f n s σ) (e : σ' 7 = σ 7) : pSt f n s σ' := by
  rcases s with ⟨x, t⟩ | ⟨a, u⟩
  · obtain ⟨h1, h2, h3, h4⟩ := h
    exact ⟨by rw [e]; exact h1, h2, by rw [e]; exact h3, h4⟩
  · obtain ⟨h1, h2, h3, h4⟩ := h
    exact ⟨by rw [e]; exact h1, by rw [e]; exact h2, by rw [e]; exact h3, h4⟩
theorem tokC_of {X : List Nat} {f : hF} {n : Nat} {σ σ' : hS} (h : tokC f n σ) (hσ : ∀ k, k ∉ X → σ' k = σ k) (hX : hdj X [3, 4, 5, 6] = true) : tokC f n σ' := by
  have e := hdj_at hσ hX
  unfold tokC
  rw [e 3 (by simp), e 4 (by simp), e 5 (by simp), e 6 (by simp)]
  exact h
theorem rel_s {f : hF} {n a : Nat} (h : rel f n a) (ha : a < 400) (hk : kd f n a ≠ 25 ∧ kd f n a ≠ 26) : rel f n (a + 1) := ⟨by omega, fun j hj => if c : j < a then h.2 j c else by rw [show j = a by omega]; exact hk⟩
section S75
variable {G : hGl} {σ : hS} {τ : hT} {x y : Option Nat}
theorem c_pfail {v : Int32} : hCal G (m_X4_fail (hEq none (rr 38 51 x y) (va_up σ 7 (upd (σ 7) 7 (if σ 7 7 = 0 then v else σ 7 7))) τ)) [.ref (hgA G 7), .int v] shp (rr 38 51 x y) σ τ := by
  refine hv_enter pn_X4 rfl ?_
  refine hv_aload_n dX4_fail_0 rfl ?_
  refine hv_aload_n dX4_fail_1 rfl ?_
  refine hv_geti dX4_fail_2 fl_X4_41 (by first | rfl | assumption) rfl ?_
  refine hv_if_ne (tgt := 12) dX4_fail_5 (by decide) (fun c_5 => ?_) (fun c_5 => ?_)
  · refine hv_aload_n dX4_fail_12 rfl ?_
    refine hv_geti dX4_fail_13 fl_X4_41 (by first | rfl | assumption) rfl ?_
    refine hv_puti dX4_fail_16 fl_X4_41 (by first | rfl | assumption) rfl rfl rfl ?_
    refine hv_vret dX4_fail_19 rfl ?_
    first
      | (rw [if_pos c_5]; exact ⟨rfl, rfl, rfl, rfl⟩)
      | (rw [if_neg c_5]; exact ⟨rfl, rfl, rfl, rfl⟩)
  · refine hv_iload_n dX4_fail_8 rfl ?_
    refine hv_goto (tgt := 16) dX4_fail_9 (by decide) ?_
    refine hv_puti dX4_fail_16 fl_X4_41 (by first | rfl | assumption) rfl rfl rfl ?_
    refine hv_vret dX4_fail_19 rfl ?_
    first
      | (rw [if_pos c_5]; exact ⟨rfl, rfl, rfl, rfl⟩)
      | (rw [if_neg c_5]; exact ⟨rfl, rfl, rfl, rfl⟩)
/-- the next token is passed: the end of take -/
theorem v_take13 {f : hF} {n : Nat} {s R : hPR Unit} {v : Int32} {σ0 : hS} (ht : tokC f n σ) (hs : pSt f n s σ) (hk : ∀ a u, s = .inr (a, u) → kd f n a ≠ 25 ∧ kd f n a ≠ 26) (h0 : ∀ c, c ∉ [7] → σ c = σ0 c) (h7 : k7 σ0 σ) (hR : bd s (fun a _ => pass a) = R) : hV G (m_X4_take (hQp [7] none (rr 38 51 x y) σ0 τ (fun σ' => k7 σ0 σ' ∧ pSt f n R σ'))) 0 0 shp 13 [some (.ref (hgA G 7)), some (.int v)] [] (rr 38 51 x y) σ τ := by
  subst hR
  rcases s with ⟨z, t⟩ | ⟨a, u⟩
  · obtain ⟨h1, h2, h3, h4⟩ := hs
    have hne : ¬ σ 7 7 = 0 := by rw [h1]; exact nI_ne0 (by omega) (by omega)
    refine hv_aload_n dX4_take_13 rfl ?_
    refine hv_geti dX4_take_14 fl_X4_19 (by first | rfl | assumption) rfl ?_
    refine hv_sipush (v := 400) dX4_take_17 (by decide) ?_
    refine hv_icmp_lt (tgt := 28) dX4_take_20 (by decide) (fun c_20 => ?_) (fun c_20 => ?_)
    · refine hv_aload_n dX4_take_28 rfl ?_
      refine hv_geti dX4_take_29 fl_X4_41 (by first | rfl | assumption) rfl ?_
      refine hv_if_ne (tgt := 60) dX4_take_32 (by decide) (fun c_32 => ?_) (fun c_32 => absurd c_32 (hne))
      refine hv_vret dX4_take_60 rfl ?_
      exact ⟨rfl, rfl, rfl, h0, h7, h1, h2, h3, h4⟩
    · refine hv_aload_n dX4_take_23 rfl ?_
      refine hv_iconst (v := 2) dX4_take_24 (by decide) ?_
      refine hv_cv1 (c_pfail) dX4_take_25 ml_X4_60 mk_X4_fail (by first | rfl | assumption) rfl rfl rfl rfl rfl ?_
      rintro _ _ _ _ ⟨rfl, rfl, rfl, rfl⟩
      rw [if_neg hne, upd_self rfl, show va_up σ 7 (σ 7) = σ from funext fun k => by unfold va_up; split <;> simp_all]
      refine hv_aload_n dX4_take_28 rfl ?_
      refine hv_geti dX4_take_29 fl_X4_41 (by first | rfl | assumption) rfl ?_
      refine hv_if_ne (tgt := 60) dX4_take_32 (by decide) (fun c_32 => ?_) (fun c_32 => absurd c_32 (hne))
      refine hv_vret dX4_take_60 rfl ?_
      exact ⟨rfl, rfl, rfl, h0, h7, h1, h2, h3, h4⟩
  · obtain ⟨h1, h2, h3, h4⟩ := hs
    have ha := h4.1
    by_cases c : a < 400
    · rw [show bd (Sum.inr (a, u) : hPR Unit) (fun a _ => pass a) = .inr (a + 1, ()) from if_pos c]
      refine hv_aload_n dX4_take_13 rfl ?_
      refine hv_geti dX4_take_14 fl_X4_19 (by first | rfl | assumption) rfl ?_
      refine hv_sipush (v := 400) dX4_take_17 (by decide) ?_
      rw [h2]
      refine hv_icmp_lt (tgt := 28) dX4_take_20 (by decide) (fun c_20 => ?_) (fun c_20 => absurd ((nI_lt (b := 400) c (by decide))) c_20)
      refine hv_aload_n dX4_take_28 rfl ?_
      refine hv_geti dX4_take_29 fl_X4_41 (by first | rfl | assumption) rfl ?_
      refine hv_if_ne (tgt := 60) dX4_take_32 (by decide) (fun c_32 => absurd (h1) c_32) (fun c_32 => ?_)
      refine hv_aload_n dX4_take_35 rfl ?_
      refine hv_dup dX4_take_36 rfl ?_
      refine hv_geti dX4_take_37 fl_X4_19 (by first | rfl | assumption) rfl ?_
      rw [h2]
      refine hv_iconst (v := 1) dX4_take_40 (by decide) ?_
      refine hv_iadd dX4_take_41 ?_
      rw [nI_1]
      refine hv_puti dX4_take_42 fl_X4_19 (by first | rfl | assumption) rfl rfl rfl ?_
      refine hv_aload_n dX4_take_45 rfl ?_
      refine hv_aload_n dX4_take_46 rfl ?_
      refine hv_getr dX4_take_47 fl_X4_9 (by first | rfl | assumption) rfl (by first | rfl | assumption) ?_
      refine hv_aload_n dX4_take_50 rfl ?_
      refine hv_geti dX4_take_51 fl_X4_19 (by first | rfl | assumption) rfl ?_
      rw [hup_eq, pk_us]
      refine hv_cv1 (c_kind (f := f) (n := n) (i := a + 1) (tokC_of ht (off_up (fun _ _ => rfl) (show [7].contains 7 = true by decide)) rfl) (rel_s h4 c (hk a u rfl))) dX4_take_54 ml_X4_23 mk_X9_kind (by first | rfl | assumption) rfl rfl rfl rfl rfl ?_
      rintro _ _ _ _ ⟨rfl, rfl, rfl, rfl⟩
      refine hv_puti dX4_take_57 fl_X4_29 (by first | rfl | assumption) rfl rfl rfl ?_
      refine hv_vret dX4_take_60 rfl ?_
      refine ⟨rfl, rfl, rfl, off_up (off_up h0 (by decide)) (by decide), fun j j1 j2 j3 => ?_, ?_, ?_, ?_, rel_s h4 c (hk a u rfl)⟩
      · rw [hup_eq, pk_un j2, hup_eq, pk_un j1]; exact h7 j j1 j2 j3
      · rw [hup_eq, pk_un (by decide), hup_eq, pk_un (by decide)]; exact h1
      · rw [hup_eq, pk_un (by decide), hup_eq, pk_us]
      · rw [hup_eq, pk_us]
    · rw [show bd (Sum.inr (a, u) : hPR Unit) (fun a _ => pass a) = .inl (2, a) from if_neg c]
      refine hv_aload_n dX4_take_13 rfl ?_
      refine hv_geti dX4_take_14 fl_X4_19 (by first | rfl | assumption) rfl ?_
      refine hv_sipush (v := 400) dX4_take_17 (by decide) ?_
      rw [h2]
      refine hv_icmp_lt (tgt := 28) dX4_take_20 (by decide) (fun c_20 => absurd c_20 ((nI_nlt (b := 400) (by omega) (by omega)))) (fun c_20 => ?_)
      refine hv_aload_n dX4_take_23 rfl ?_
      refine hv_iconst (v := 2) dX4_take_24 (by decide) ?_
      refine hv_cv1 (c_pfail) dX4_take_25 ml_X4_60 mk_X4_fail (by first | rfl | assumption) rfl rfl rfl rfl rfl ?_
      rintro _ _ _ _ ⟨rfl, rfl, rfl, rfl⟩
      rw [if_pos h1]
      refine hv_aload_n dX4_take_28 rfl ?_
      refine hv_geti dX4_take_29 fl_X4_41 (by first | rfl | assumption) rfl ?_
      refine hv_if_ne (tgt := 60) dX4_take_32 (by decide) (fun c_32 => ?_) (fun c_32 => absurd c_32 ((by rw [hup_eq, pk_us]; decide)))
      refine hv_vret dX4_take_60 rfl ?_
      refine ⟨rfl, rfl, rfl, off_up h0 (by decide), fun j j1 j2 j3 => by rw [hup_eq, pk_un j3]; exact h7 j j1 j2 j3, by rw [hup_eq, pk_us]; rfl, Or.inr rfl, by rw [hup_eq, pk_un (by decide)]; exact h2, h4⟩
/-- take(next): whatever comes next is passed -/
theorem c_pass {f : hF} {n : Nat} {s : hPR Unit} (ht : tokC f n σ) (hs : pSt f n s σ) (hk : ∀ a u, s = .inr (a, u) → kd f n a ≠ 25 ∧ kd f n a ≠ 26) : hCal G (m_X4_take (hQp [7] none (rr 38 51 x y) σ τ (fun σ' => k7 σ σ' ∧ pSt f n (bd s (fun a _ => pass a)) σ'))) [.ref (hgA G 7), .int (σ 7 6)] shp (rr 38 51 x y) σ τ := by
  refine hv_enter pn_X4 rfl ?_
  refine hv_aload_n dX4_take_0 rfl ?_
  refine hv_geti dX4_take_1 fl_X4_29 (by first | rfl | assumption) rfl ?_
  refine hv_iload_n dX4_take_4 rfl ?_
  refine hv_icmp_eq (tgt := 13) dX4_take_5 (by decide) (fun c_5 => ?_) (fun c_5 => absurd (rfl) c_5)
  exact v_take13 ht hs hk (fun _ _ => rfl) k7_rf rfl
theorem c_take {f : hF} {n k : Nat} {s : hPR Unit} (ht : tokC f n σ) (hs : pSt f n s σ) (hk : k ≠ 25 ∧ k ≠ 26) (hk2 : k < 36) : hCal G (m_X4_take (hQp [7] none (rr 38 51 x y) σ τ (fun σ' => k7 σ σ' ∧ pSt f n (bd s (fun a _ => tk (kd f n) k a)) σ'))) [.ref (hgA G 7), .int (nI k)] shp (rr 38 51 x y) σ τ := by
  refine hv_enter pn_X4 rfl ?_
  rcases s with ⟨z, t⟩ | ⟨a, u⟩
  · have hs' := hs
    obtain ⟨h1, h2, h3, h4⟩ := hs
    have hne : ¬ σ 7 7 = 0 := by rw [h1]; exact nI_ne0 (by omega) (by omega)
    refine hv_aload_n dX4_take_0 rfl ?_
    refine hv_geti dX4_take_1 fl_X4_29 (by first | rfl | assumption) rfl ?_
    refine hv_iload_n dX4_take_4 rfl ?_
    refine hv_icmp_eq (tgt := 13) dX4_take_5 (by decide) (fun c_5 => ?_) (fun c_5 => ?_)
    · exact v_take13 (s := .inl (z, t)) ht hs' (fun _ _ q => nomatch q) (fun _ _ => rfl) k7_rf rfl
    · refine hv_aload_n dX4_take_8 rfl ?_
      refine hv_iconst (v := 1) dX4_take_9 (by decide) ?_
      refine hv_cv1 (c_pfail) dX4_take_10 ml_X4_60 mk_X4_fail (by first | rfl | assumption) rfl rfl rfl rfl rfl ?_
      rintro _ _ _ _ ⟨rfl, rfl, rfl, rfl⟩
      rw [if_neg hne, upd_self rfl, show va_up σ 7 (σ 7) = σ from funext fun k => by unfold va_up; split <;> simp_all]
      exact v_take13 (s := .inl (z, t)) ht hs' (fun _ _ q => nomatch q) (fun _ _ => rfl) k7_rf rfl
  · have hs' := hs
    obtain ⟨h1, h2, h3, h4⟩ := hs
    have hkl := kd_le f n a
    by_cases c : kd f n a = k
    · rw [show bd (Sum.inr (a, u) : hPR Unit) (fun a _ => tk (kd f n) k a) = bd (Sum.inr (a, u) : hPR Unit) (fun a _ => pass a) from if_pos c]
      refine hv_aload_n dX4_take_0 rfl ?_
      refine hv_geti dX4_take_1 fl_X4_29 (by first | rfl | assumption) rfl ?_
      refine hv_iload_n dX4_take_4 rfl ?_
      refine hv_icmp_eq (tgt := 13) dX4_take_5 (by decide) (fun c_5 => ?_) (fun c_5 => absurd ((by rw [h3, c])) c_5)
      exact v_take13 (s := .inr (a, u)) ht hs' (fun b w q => by cases q; rw [c]; exact hk) (fun _ _ => rfl) k7_rf rfl
    · rw [show bd (Sum.inr (a, u) : hPR Unit) (fun a _ => tk (kd f n) k a) = .inl (1, a) from if_neg c]
      have hst : pSt f n (.inl (1, a)) (va_up σ 7 (upd (σ 7) 7 1)) := ⟨by rw [hup_eq, pk_us]; rfl, Or.inl rfl, by rw [hup_eq, pk_un (by decide)]; exact h2, h4⟩
      refine hv_aload_n dX4_take_0 rfl ?_
      refine hv_geti dX4_take_1 fl_X4_29 (by first | rfl | assumption) rfl ?_
      refine hv_iload_n dX4_take_4 rfl ?_
      refine hv_icmp_eq (tgt := 13) dX4_take_5 (by decide) (fun c_5 => absurd c_5 ((by rw [h3]; exact fun q => c ((nI_eq (by omega) (by omega)).mp q)))) (fun c_5 => ?_)
      refine hv_aload_n dX4_take_8 rfl ?_
      refine hv_iconst (v := 1) dX4_take_9 (by decide) ?_
      refine hv_cv1 (c_pfail) dX4_take_10 ml_X4_60 mk_X4_fail (by first | rfl | assumption) rfl rfl rfl rfl rfl ?_
      rintro _ _ _ _ ⟨rfl, rfl, rfl, rfl⟩
      rw [if_pos h1]
      exact v_take13 (s := .inl (1, a)) (tokC_of ht (off_up (fun _ _ => rfl) (show [7].contains 7 = true by decide)) rfl) hst (fun _ _ q => nomatch q) (off_up (fun _ _ => rfl) (by decide)) (fun j j1 j2 j3 => by rw [hup_eq, pk_un j3]) rfl
theorem c_isOne {a b : Int32} : hCal G (m_X4_isOne (hEq (some (.int (bI (decide (σ 7 6 = a ∨ σ 7 6 = b))))) (rr 38 51 x y) σ τ)) [.ref (hgA G 7), .int a, .int b] shp (rr 38 51 x y) σ τ := by
  refine hv_enter pn_X4 rfl ?_
  refine hv_aload_n dX4_isOne_0 rfl ?_
  refine hv_geti dX4_isOne_1 fl_X4_29 (by first | rfl | assumption) rfl ?_
  refine hv_iload_n dX4_isOne_4 rfl ?_
  refine hv_icmp_eq (tgt := 16) dX4_isOne_5 (by decide) (fun c_5 => ?_) (fun c_5 => ?_)
  · refine hv_iconst (v := 1) dX4_isOne_16 (by decide) ?_
    refine hv_goto (tgt := 21) dX4_isOne_17 (by decide) ?_
    refine hv_zret dX4_isOne_21 rfl (by first | exact Or.inl rfl | exact Or.inr rfl | assumption) ?_
    first
      | (rw [decide_eq_false (fun q => q.elim c_5 c_13)]; exact ⟨rfl, rfl, rfl, rfl⟩)
      | (rw [decide_eq_true (Or.inr c_13)]; exact ⟨rfl, rfl, rfl, rfl⟩)
      | (rw [decide_eq_true (Or.inl c_5)]; exact ⟨rfl, rfl, rfl, rfl⟩)
  · refine hv_aload_n dX4_isOne_8 rfl ?_
    refine hv_geti dX4_isOne_9 fl_X4_29 (by first | rfl | assumption) rfl ?_
    refine hv_iload_n dX4_isOne_12 rfl ?_
    refine hv_icmp_ne (tgt := 20) dX4_isOne_13 (by decide) (fun c_13 => ?_) (fun c_13 => ?_)
    · refine hv_iconst (v := 0) dX4_isOne_20 (by decide) ?_
      refine hv_zret dX4_isOne_21 rfl (by first | exact Or.inl rfl | exact Or.inr rfl | assumption) ?_
      first
        | (rw [decide_eq_false (fun q => q.elim c_5 c_13)]; exact ⟨rfl, rfl, rfl, rfl⟩)
        | (rw [decide_eq_true (Or.inr c_13)]; exact ⟨rfl, rfl, rfl, rfl⟩)
        | (rw [decide_eq_true (Or.inl c_5)]; exact ⟨rfl, rfl, rfl, rfl⟩)
    · refine hv_iconst (v := 1) dX4_isOne_16 (by decide) ?_
      refine hv_goto (tgt := 21) dX4_isOne_17 (by decide) ?_
      refine hv_zret dX4_isOne_21 rfl (by first | exact Or.inl rfl | exact Or.inr rfl | assumption) ?_
      first
        | (rw [decide_eq_false (fun q => q.elim c_5 c_13)]; exact ⟨rfl, rfl, rfl, rfl⟩)
        | (rw [decide_eq_true (Or.inr c_13)]; exact ⟨rfl, rfl, rfl, rfl⟩)
        | (rw [decide_eq_true (Or.inl c_5)]; exact ⟨rfl, rfl, rfl, rfl⟩)
def pPut (sz : Nat) (k o : Int32) (σ σ' : hS) : Prop := (∀ j, j ≠ 5 → σ' 58 j = σ 58 j) ∧ (sz < 410 → σ' 59 = upd (σ 59) sz k ∧ σ' 60 = upd (σ 60) sz o ∧ σ' 58 5 = nI (sz + 1)) ∧ (¬ sz < 410 → σ' = σ)
theorem c_lput {sz : Nat} {k o : Int32} (h5 : σ 58 5 = nI sz) (hsz : sz ≤ 410) : hCal G (m_X1_put (hQp [58, 59, 60] (some (.int (if sz < 410 then nI sz else nI 409))) (rr 38 51 x y) σ τ (pPut sz k o σ))) [.ref (hgA G 58), .int k, .int o] shp (rr 38 51 x y) σ τ := by
  refine hv_enter pn_X1 rfl ?_
  by_cases c : sz < 410
  · rw [if_pos c]
    refine hv_aload_n dX1_put_0 rfl ?_
    refine hv_geti dX1_put_1 fl_X1_27 (by first | rfl | assumption) rfl ?_
    refine hv_sipush (v := 410) dX1_put_4 (by decide) ?_
    refine hv_icmp_ge (tgt := 40) dX1_put_7 (by decide) (fun c_7 => absurd c_7 ((by rw [h5]; exact nI_ge (b := 410) c (by decide)))) (fun c_7 => ?_)
    refine hv_aload_n dX1_put_10 rfl ?_
    refine hv_getr dX1_put_11 fl_X1_11 (by first | rfl | assumption) rfl (by first | rfl | assumption) ?_
    refine hv_aload_n dX1_put_14 rfl ?_
    refine hv_geti dX1_put_15 fl_X1_27 (by first | rfl | assumption) rfl ?_
    refine hv_iload_n dX1_put_18 rfl ?_
    refine hv_iast dX1_put_19 (by first | rfl | assumption) (j := sz) h5 (by omega) (by first | decide | assumption) ?_
    refine hv_aload_n dX1_put_20 rfl ?_
    refine hv_getr dX1_put_21 fl_X1_15 (by first | rfl | assumption) rfl (by first | rfl | assumption) ?_
    refine hv_aload_n dX1_put_24 rfl ?_
    refine hv_geti dX1_put_25 fl_X1_27 (by first | rfl | assumption) rfl ?_
    refine hv_iload_n dX1_put_28 rfl ?_
    refine hv_iast dX1_put_29 (by first | rfl | assumption) (j := sz) h5 (by omega) (by first | decide | assumption) ?_
    refine hv_aload_n dX1_put_30 rfl ?_
    refine hv_dup dX1_put_31 rfl ?_
    refine hv_geti dX1_put_32 fl_X1_27 (by first | rfl | assumption) rfl ?_
    refine hv_iconst (v := 1) dX1_put_35 (by decide) ?_
    rw [hva_ne (show 58 ≠ 60 by decide), hva_ne (show 58 ≠ 59 by decide), h5]
    refine hv_iadd dX1_put_36 ?_
    rw [nI_1]
    refine hv_puti dX1_put_37 fl_X1_27 (by first | rfl | assumption) rfl rfl rfl ?_
    refine hv_aload_n dX1_put_40 rfl ?_
    refine hv_geti dX1_put_41 fl_X1_27 (by first | rfl | assumption) rfl ?_
    refine hv_iconst (v := 1) dX1_put_44 (by decide) ?_
    rw [hup_eq, pk_us]
    refine hv_isub dX1_put_45 ?_
    rw [nI_pred]
    refine hv_iret dX1_put_46 rfl ?_
    refine ⟨rfl, rfl, rfl, off_up (off_up (off_up (fun _ _ => rfl) (by decide)) (by decide)) (by decide), fun j hj => ?_, fun _ => ⟨?_, ?_, ?_⟩, fun q => absurd c q⟩
    · rw [hup_eq, pk_un hj, hva_ne (by decide), hva_ne (by decide)]
    all_goals simp [va_up, upd]
  · obtain rfl : sz = 410 := by omega
    rw [if_neg c]
    refine hv_aload_n dX1_put_0 rfl ?_
    refine hv_geti dX1_put_1 fl_X1_27 (by first | rfl | assumption) rfl ?_
    refine hv_sipush (v := 410) dX1_put_4 (by decide) ?_
    refine hv_icmp_ge (tgt := 40) dX1_put_7 (by decide) (fun c_7 => ?_) (fun c_7 => absurd ((by rw [h5]; decide)) c_7)
    refine hv_aload_n dX1_put_40 rfl ?_
    refine hv_geti dX1_put_41 fl_X1_27 (by first | rfl | assumption) rfl ?_
    refine hv_iconst (v := 1) dX1_put_44 (by decide) ?_
    rw [h5]
    refine hv_isub dX1_put_45 ?_
    rw [nI_pred]
    refine hv_iret dX1_put_46 rfl ?_
    exact ⟨rfl, rfl, rfl, fun _ _ => rfl, fun _ _ => rfl, fun q => absurd q c, fun _ => rfl⟩
/-- code put behind the first sz steps -/
def pLw (sz : Nat) (c : hCd) (σ σ' : hS) : Prop := (∀ j, j ≠ 5 → σ' 58 j = σ 58 j) ∧ σ' 58 5 = nI (sz + c.length) ∧ cdAt (σ' 59) (σ' 60) sz c ∧ ∀ j, j < sz → σ' 59 j = σ 59 j ∧ σ' 60 j = σ 60 j
/-- behind a fault -/
def pLg (σ σ' : hS) : Prop := (∀ j, j ≠ 5 → σ' 58 j = σ 58 j) ∧ ∃ z, z ≤ 410 ∧ σ' 58 5 = nI z
def stR {α : Type} (r : hPR α) : hPR Unit := bd r (fun a _ => .inr (a, ()))
/-- what an expression leaves -/
def pEx (f : hF) (n sz : Nat) (r : hPR hCd) (σ σ' : hS) : Prop := pSt f n (stR r) σ' ∧ match r with
  | .inl _ => pLg σ σ'
  | .inr (a, c) => pLw sz c σ σ' ∧ sz + c.length ≤ 10 + a
def szOk (sz : Nat) (s : hPR Unit) (σ : hS) : Prop := σ 58 5 = nI sz ∧ sz ≤ 410 ∧ ∀ a u, s = .inr (a, u) → sz ≤ 10 + a
theorem pLw_0 {sz : Nat} {σ σ' : hS} (h : σ 58 5 = nI sz) (h1 : σ' 58 = σ 58) (h2 : σ' 59 = σ 59) (h3 : σ' 60 = σ 60) : pLw sz [] σ σ' := ⟨fun j _ => by rw [h1], by rw [h1]; exact h, trivial, fun j _ => by rw [h2, h3]; exact ⟨rfl, rfl⟩⟩
theorem pLw_of {sz : Nat} {c : hCd} {σ σ1 σ2 : hS} (h : pLw sz c σ σ1) (h1 : σ2 58 = σ1 58) (h2 : σ2 59 = σ1 59) (h3 : σ2 60 = σ1 60) : pLw sz c σ σ2 := by
  unfold pLw; rw [h1, h2, h3]; exact h
theorem pLg_of {σ σ1 σ2 : hS} (h : pLg σ σ1) (h1 : σ2 58 = σ1 58) : pLg σ σ2 := by
  unfold pLg; rw [h1]; exact h
theorem pLg_tr {σ σ1 σ2 : hS} (h : ∀ j, j ≠ 5 → σ1 58 j = σ 58 j) (h2 : pLg σ1 σ2) : pLg σ σ2 := ⟨fun j hj => (h2.1 j hj).trans (h j hj), h2.2⟩
theorem pLw_lg {sz : Nat} {c : hCd} {σ σ' : hS} (h : pLw sz c σ σ') (hl : sz + c.length ≤ 410) : pLg σ σ' := ⟨h.1, _, hl, h.2.1⟩
theorem cdAt_one {st op : hF} {p : Nat} {k o : Int32} : cdAt (upd st p k) (upd op p o) p [(k, o)] := ⟨pk_us, pk_us, trivial⟩
theorem pLw_tr {sz : Nat} {c c' : hCd} {σ σ1 σ2 : hS} (h : pLw sz c σ σ1) (h' : pLw (sz + c.length) c' σ1 σ2) : pLw sz (c ++ c') σ σ2 := by
  obtain ⟨h0, h2, h4, h5⟩ := h
  obtain ⟨k0, k2, k4, k5⟩ := h'
  refine ⟨fun j hj => (k0 j hj).trans (h0 j hj), ?_, ?_, fun j hj => ?_⟩
  · rw [k2, List.length_append, Nat.add_assoc]
  · exact (cdAt_app c c' sz).mpr ⟨cdAt_ext c sz (sz + c.length) (Nat.le_refl _) (fun j hj => (k5 j hj).1) (fun j hj => (k5 j hj).2) h4, k4⟩
  · exact ⟨(k5 j (by omega)).1.trans (h5 j hj).1, (k5 j (by omega)).2.trans (h5 j hj).2⟩
theorem pLw_p1 {z : Nat} {k o : Int32} {σ σ' : hS} (hz : z < 410) (hp : pPut z k o σ σ') : pLw z [(k, o)] σ σ' := by
  obtain ⟨p1, p2, p3⟩ := hp
  obtain ⟨p4, p5, p6⟩ := p2 hz
  exact ⟨p1, p6, by rw [p4, p5]; exact cdAt_one, fun j hj => by rw [p4, p5, pk_un (by omega), pk_un (by omega)]; exact ⟨rfl, rfl⟩⟩
theorem pLg_p {z : Nat} {k o : Int32} {σ σ' : hS} (h5 : σ 58 5 = nI z) (hz : z ≤ 410) (hp : pPut z k o σ σ') : pLg σ σ' := by
  by_cases c : z < 410
  · exact pLw_lg (pLw_p1 c hp) (by simp; omega)
  · refine ⟨hp.1, z, hz, ?_⟩
    rw [hp.2.2 c]; exact h5
end S75

