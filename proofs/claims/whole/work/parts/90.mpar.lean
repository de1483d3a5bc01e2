abbrev m_X12_is (Q : hPo) : hMe := (hrm 0, 0, 0, yX12_is, cX12_is, 2, (some FieldType.boolean), shp, none, Q)
abbrev m_X12_fail (Q : hPo) : hMe := (hrm 0, 0, 0, yX12_fail, cX12_fail, 2, (none : Option FieldType), shp, none, Q)
abbrev m_X12_goesOn (Q : hPo) : hMe := (hrm 1, 0, 0, yX12_goesOn, cX12_goesOn, 1, (none : Option FieldType), shp, none, Q)
abbrev m_X12_must (Q : hPo) : hMe := (hrm 2, 0, 0, yX12_must, cX12_must, 2, (none : Option FieldType), shp, none, Q)
abbrev m_X12_emit (Q : hPo) : hMe := (hrm 0, 0, 0, yX12_emit, cX12_emit, 3, (none : Option FieldType), shp, none, Q)
abbrev m_X12_comesOut (Q : hPo) : hMe := (hrm 1, 0, 0, yX12_comesOut, cX12_comesOut, 3, (none : Option FieldType), shp, none, Q)
abbrev m_X12_unit (Q : hPo) : hMe := (hrm 2, 0, 0, yX12_unit, cX12_unit, 1, (none : Option FieldType), shp, none, Q)
abbrev m_X12_expression (Q : hPo) : hMe := (hrm 3, 0, 0, yX12_expression, cX12_expression, 3, (none : Option FieldType), shp, none, Q)
abbrev m_X12_term (Q : hPo) : hMe := (hrm 4, 0, 0, yX12_term, cX12_term, 1, (none : Option FieldType), shp, none, Q)
abbrev m_X12_wrong (Q : hPo) : hMe := (hrm 0, 0, 0, yX12_wrong, cX12_wrong, 4, (none : Option FieldType), shp, none, Q)
/-- how the reference stands in the text -/
def mSt (f : hF) (n : Nat) : hPR Unit → hS → Prop
  | .inl (x, t), σ => σ 64 13 = nI x ∧ (x = 1 ∨ x = 2) ∧ σ 64 14 = nI (tq f n t)
  | .inr (a, _), σ => σ 64 13 = 0 ∧ σ 64 11 = nI a ∧ rel f n a
theorem mSt_of {f : hF} {n : Nat} {s : hPR Unit} {σ σ' : hS} (h : mSt f n s σ) (h1 : σ' 64 11 = σ 64 11) (h2 : σ' 64 13 = σ 64 13) (h3 : σ' 64 14 = σ 64 14) : mSt f n s σ' := by
  rcases s with ⟨x, t⟩ | ⟨a, u⟩
  · exact ⟨by rw [h2]; exact h.1, h.2.1, by rw [h3]; exact h.2.2⟩
  · exact ⟨by rw [h2]; exact h.1, by rw [h1]; exact h.2.1, h.2.2⟩
/-- the reference's own fields but X are as they were -/
def kM (X : List Nat) (σ σ' : hS) : Prop := ∀ j, j ∉ X → σ' 64 j = σ 64 j
theorem kM_rf {X : List Nat} {σ : hS} : kM X σ σ := fun _ _ => rfl
theorem kM_tr {X Y Z : List Nat} {σ σ1 σ2 : hS} (h1 : kM X σ σ1) (h2 : kM Y σ1 σ2) (hX : X.all (fun c => Z.contains c) = true) (hY : Y.all (fun c => Z.contains c) = true) : kM Z σ σ2 := by
  intro k hk
  have e1 : k ∉ X := fun q => hk (by have := List.all_eq_true.mp hX k q; simpa using this)
  have e2 : k ∉ Y := fun q => hk (by have := List.all_eq_true.mp hY k q; simpa using this)
  rw [h2 k e2, h1 k e1]
theorem kM_up {X : List Nat} {σ : hS} {c : Nat} {v : Int32} (hX : X.contains c = true) : kM X σ (va_up σ 64 (upd (σ 64) c v)) := by
  intro j hj
  rw [hup_eq, pk_un (fun e => hj (by subst e; simpa using hX))]
theorem kM_c {X : List Nat} {σ σ' : hS} {k : Nat} {g : hF} (h : kM X σ σ') (hk : 64 ≠ k) : kM X σ (va_up σ' k g) := fun j hj => by rw [hva_ne hk]; exact h j hj
theorem tokM_of {X : List Nat} {f : hF} {n : Nat} {σ σ' : hS} {τ : hT} (h : tokM f n σ τ) (hσ : ∀ k, k ∉ X → σ' k = σ k) (hX : hdj X [67, 68, 69] = true) : tokM f n σ' τ := by
  have e := hdj_at hσ hX
  unfold tokM
  rw [e 67 (by simp), e 68 (by simp), e 69 (by simp)]
  exact h
def isM (f : hF) (n k : Nat) : hPR Unit → Bool
  | .inl _ => false
  | .inr (a, _) => decide (kd f n a = k)
section S90
variable {G : hGl} {σ : hS} {τ : hT} {x y : Option Nat}
theorem d_is {f : hF} {n k : Nat} {s : hPR Unit} {v : Int32} (hv : v = nI (kap k)) (hk : k < 36) (ht : tokM f n σ τ) (hs : mSt f n s σ) : hCal G (m_X12_is (hEq (some (.int (bI (isM f n k s)))) (rr 38 51 x y) σ τ)) [.ref (hgA G 64), .int v] shp (rr 38 51 x y) σ τ := by
  subst hv
  refine hv_enter pn_X12 rfl ?_
  rcases s with ⟨z, t⟩ | ⟨a, u⟩
  · obtain ⟨h1, h2, h3⟩ := hs
    refine hv_aload_n dX12_is_0 rfl ?_
    refine hv_geti dX12_is_1 fl_X12_203 (by first | rfl | assumption) rfl ?_
    refine hv_if_ne (tgt := 24) dX12_is_4 (by decide) (fun c_4 => ?_) (fun c_4 => absurd c_4 ((by rw [h1]; exact nI_ne0 (by omega) (by omega))))
    refine hv_iconst (v := 0) dX12_is_24 (by decide) ?_
    refine hv_zret dX12_is_25 rfl (by first | exact Or.inl rfl | exact Or.inr rfl | assumption) ?_
    exact ⟨rfl, rfl, rfl, rfl⟩
  · obtain ⟨h1, h2, h3⟩ := hs
    have hkl := kd_le f n a
    have h4 := kap_lt _ (show kd f n a < 36 by omega)
    have h5 := kap_lt _ hk
    have ha := h3.1
    by_cases c : kd f n a = k
    · rw [show isM f n k (.inr (a, u)) = true from decide_eq_true c]
      refine hv_aload_n dX12_is_0 rfl ?_
      refine hv_geti dX12_is_1 fl_X12_203 (by first | rfl | assumption) rfl ?_
      refine hv_if_ne (tgt := 24) dX12_is_4 (by decide) (fun c_4 => absurd (h1) c_4) (fun c_4 => ?_)
      refine hv_aload_n dX12_is_7 rfl ?_
      refine hv_getr dX12_is_8 fl_X12_20 (by first | rfl | assumption) rfl (by first | rfl | assumption) ?_
      refine hv_aload_n dX12_is_11 rfl ?_
      refine hv_geti dX12_is_12 fl_X12_206 (by first | rfl | assumption) rfl ?_
      refine hv_iald dX12_is_15 (by first | rfl | assumption) (j := a) h2 (by omega) (by first | decide | assumption) ?_
      refine hv_iload_n dX12_is_16 rfl ?_
      refine hv_icmp_ne (tgt := 24) dX12_is_17 (by decide) (fun c_17 => absurd ((by rw [(ht a h3).1, c])) c_17) (fun c_17 => ?_)
      refine hv_iconst (v := 1) dX12_is_20 (by decide) ?_
      refine hv_goto (tgt := 25) dX12_is_21 (by decide) ?_
      refine hv_zret dX12_is_25 rfl (by first | exact Or.inl rfl | exact Or.inr rfl | assumption) ?_
      exact ⟨rfl, rfl, rfl, rfl⟩
    · rw [show isM f n k (.inr (a, u)) = false from decide_eq_false c]
      refine hv_aload_n dX12_is_0 rfl ?_
      refine hv_geti dX12_is_1 fl_X12_203 (by first | rfl | assumption) rfl ?_
      refine hv_if_ne (tgt := 24) dX12_is_4 (by decide) (fun c_4 => absurd (h1) c_4) (fun c_4 => ?_)
      refine hv_aload_n dX12_is_7 rfl ?_
      refine hv_getr dX12_is_8 fl_X12_20 (by first | rfl | assumption) rfl (by first | rfl | assumption) ?_
      refine hv_aload_n dX12_is_11 rfl ?_
      refine hv_geti dX12_is_12 fl_X12_206 (by first | rfl | assumption) rfl ?_
      refine hv_iald dX12_is_15 (by first | rfl | assumption) (j := a) h2 (by omega) (by first | decide | assumption) ?_
      refine hv_iload_n dX12_is_16 rfl ?_
      refine hv_icmp_ne (tgt := 24) dX12_is_17 (by decide) (fun c_17 => ?_) (fun c_17 => absurd c_17 ((by rw [(ht a h3).1]; exact fun q => c (kap_inj _ (by omega) _ hk ((nI_eq (by omega) (by omega)).mp q)))))
      refine hv_iconst (v := 0) dX12_is_24 (by decide) ?_
      refine hv_zret dX12_is_25 rfl (by first | exact Or.inl rfl | exact Or.inr rfl | assumption) ?_
      exact ⟨rfl, rfl, rfl, rfl⟩
theorem d_fail {f : hF} {n k : Nat} {s : hPR Unit} {v : Int32} (hv : v = nI k) (hk : k = 1 ∨ k = 2) (ht : tokM f n σ τ) (hs : mSt f n s σ) : hCal G (m_X12_fail (hQp [64] none (rr 38 51 x y) σ τ (fun σ' => kM [13, 14] σ σ' ∧ mSt f n (bd s (fun a _ => .inl (k, a))) σ'))) [.ref (hgA G 64), .int v] shp (rr 38 51 x y) σ τ := by
  subst hv
  refine hv_enter pn_X12 rfl ?_
  rcases s with ⟨z, t⟩ | ⟨a, u⟩
  · obtain ⟨h1, h2, h3⟩ := hs
    refine hv_aload_n dX12_fail_0 rfl ?_
    refine hv_geti dX12_fail_1 fl_X12_203 (by first | rfl | assumption) rfl ?_
    refine hv_if_le (tgt := 8) dX12_fail_4 (by decide) (fun c_4 => absurd c_4 ((by rw [h1]; rcases h2 with rfl | rfl <;> decide))) (fun c_4 => ?_)
    refine hv_vret dX12_fail_7 rfl ?_
    exact ⟨rfl, rfl, rfl, fun _ _ => rfl, kM_rf, h1, h2, h3⟩
  · obtain ⟨h1, h2, h3⟩ := hs
    have ha := h3.1
    refine hv_aload_n dX12_fail_0 rfl ?_
    refine hv_geti dX12_fail_1 fl_X12_203 (by first | rfl | assumption) rfl ?_
    refine hv_if_le (tgt := 8) dX12_fail_4 (by decide) (fun c_4 => ?_) (fun c_4 => absurd ((by rw [h1]; decide)) c_4)
    refine hv_aload_n dX12_fail_8 rfl ?_
    refine hv_iload_n dX12_fail_9 rfl ?_
    refine hv_puti dX12_fail_10 fl_X12_203 (by first | rfl | assumption) rfl rfl rfl ?_
    refine hv_aload_n dX12_fail_13 rfl ?_
    refine hv_aload_n dX12_fail_14 rfl ?_
    refine hv_getr dX12_fail_15 fl_X12_24 (by first | rfl | assumption) rfl (by first | rfl | assumption) ?_
    refine hv_aload_n dX12_fail_18 rfl ?_
    refine hv_geti dX12_fail_19 fl_X12_206 (by first | rfl | assumption) rfl ?_
    refine hv_iald dX12_fail_22 (by first | rfl | assumption) (j := a) h2 (by omega) (by first | decide | assumption) ?_
    refine hv_puti dX12_fail_23 fl_X12_209 (by first | rfl | assumption) rfl rfl rfl ?_
    refine hv_vret dX12_fail_26 rfl ?_
    refine ⟨rfl, rfl, rfl, off_up (off_up (fun _ _ => rfl) (by decide)) (by decide), ?_, ?_, hk, ?_⟩
    · exact kM_tr (kM_up (X := [13, 14]) (by decide)) (kM_up (X := [13, 14]) (by decide)) (by decide) (by decide)
    · rw [hup_eq, pk_un (by decide), hup_eq, pk_us]
    · rw [hup_eq, pk_us]; exact (ht a h3).2.1
theorem d_goesOn {f : hF} {n : Nat} {s : hPR Unit} (ht : tokM f n σ τ) (hs : mSt f n s σ) (hk : ∀ a u, s = .inr (a, u) → kd f n a ≠ 25 ∧ kd f n a ≠ 26) : hCal G (m_X12_goesOn (hQp [64] none (rr 38 51 x y) σ τ (fun σ' => kM [11, 13, 14] σ σ' ∧ mSt f n (bd s (fun a _ => pass a)) σ'))) [.ref (hgA G 64)] shp (rr 38 51 x y) σ τ := by
  refine hv_enter pn_X12 rfl ?_
  rcases s with ⟨z, t⟩ | ⟨a, u⟩
  · have hs' := hs
    obtain ⟨h1, h2, h3⟩ := hs
    refine hv_aload_n dX12_goesOn_0 rfl ?_
    refine hv_geti dX12_goesOn_1 fl_X12_206 (by first | rfl | assumption) rfl ?_
    refine hv_sipush (v := 400) dX12_goesOn_4 (by decide) ?_
    refine hv_icmp_ne (tgt := 18) dX12_goesOn_7 (by decide) (fun c_7 => ?_) (fun c_7 => ?_)
    · refine hv_aload_n dX12_goesOn_18 rfl ?_
      refine hv_dup dX12_goesOn_19 rfl ?_
      refine hv_geti dX12_goesOn_20 fl_X12_206 (by first | rfl | assumption) rfl ?_
      refine hv_iconst (v := 1) dX12_goesOn_23 (by decide) ?_
      refine hv_iadd dX12_goesOn_24 ?_
      refine hv_puti dX12_goesOn_25 fl_X12_206 (by first | rfl | assumption) rfl rfl rfl ?_
      refine hv_vret dX12_goesOn_28 rfl ?_
      first
        | exact ⟨rfl, rfl, rfl, a1, kM_tr a2 kM_rf (Y := []) (by decide) (by decide), a3⟩
        | exact ⟨rfl, rfl, rfl, off_up (fun _ _ => rfl) (by decide), kM_up (by decide), by rw [hup_eq, pk_un (by decide)]; exact h1, h2, by rw [hup_eq, pk_un (by decide)]; exact h3⟩
    · refine hv_aload_n dX12_goesOn_10 rfl ?_
      refine hv_iconst (v := 2) dX12_goesOn_11 (by decide) ?_
      refine hv_cv1 (d_fail (k := 2) rfl (Or.inr rfl) ht hs') dX12_goesOn_12 ml_X12_218 mk_X12_fail (by first | rfl | assumption) rfl rfl rfl rfl rfl ?_
      rintro _ _ σ1 _ ⟨rfl, rfl, rfl, a1, a2, a3⟩
      refine hv_goto (tgt := 28) dX12_goesOn_15 (by decide) ?_
      refine hv_vret dX12_goesOn_28 rfl ?_
      first
        | exact ⟨rfl, rfl, rfl, a1, kM_tr a2 kM_rf (Y := []) (by decide) (by decide), a3⟩
        | exact ⟨rfl, rfl, rfl, off_up (fun _ _ => rfl) (by decide), kM_up (by decide), by rw [hup_eq, pk_un (by decide)]; exact h1, h2, by rw [hup_eq, pk_un (by decide)]; exact h3⟩
  · have hs' := hs
    obtain ⟨h1, h2, h3⟩ := hs
    have ha := h3.1
    by_cases c : a < 400
    · rw [show bd (Sum.inr (a, u) : hPR Unit) (fun a _ => pass a) = .inr (a + 1, ()) from if_pos c]
      refine hv_aload_n dX12_goesOn_0 rfl ?_
      refine hv_geti dX12_goesOn_1 fl_X12_206 (by first | rfl | assumption) rfl ?_
      refine hv_sipush (v := 400) dX12_goesOn_4 (by decide) ?_
      refine hv_icmp_ne (tgt := 18) dX12_goesOn_7 (by decide) (fun c_7 => ?_) (fun c_7 => absurd c_7 ((by rw [h2]; exact fun q => by have := (nI_eq (b := 400) (by omega) (by decide)).mp q; omega)))
      refine hv_aload_n dX12_goesOn_18 rfl ?_
      refine hv_dup dX12_goesOn_19 rfl ?_
      refine hv_geti dX12_goesOn_20 fl_X12_206 (by first | rfl | assumption) rfl ?_
      refine hv_iconst (v := 1) dX12_goesOn_23 (by decide) ?_
      refine hv_iadd dX12_goesOn_24 ?_
      refine hv_puti dX12_goesOn_25 fl_X12_206 (by first | rfl | assumption) rfl rfl rfl ?_
      refine hv_vret dX12_goesOn_28 rfl ?_
      refine ⟨rfl, rfl, rfl, off_up (fun _ _ => rfl) (by decide), kM_up (by decide), by rw [hup_eq, pk_un (by decide)]; exact h1, by rw [hup_eq, pk_us, h2, nI_1], rel_s h3 c (hk a u rfl)⟩
    · obtain rfl : a = 400 := by omega
      rw [show bd (Sum.inr (400, u) : hPR Unit) (fun a _ => pass a) = .inl (2, 400) from rfl]
      refine hv_aload_n dX12_goesOn_0 rfl ?_
      refine hv_geti dX12_goesOn_1 fl_X12_206 (by first | rfl | assumption) rfl ?_
      refine hv_sipush (v := 400) dX12_goesOn_4 (by decide) ?_
      refine hv_icmp_ne (tgt := 18) dX12_goesOn_7 (by decide) (fun c_7 => absurd ((by rw [h2]; rfl)) c_7) (fun c_7 => ?_)
      refine hv_aload_n dX12_goesOn_10 rfl ?_
      refine hv_iconst (v := 2) dX12_goesOn_11 (by decide) ?_
      refine hv_cv1 (d_fail (k := 2) (s := .inr (400, u)) rfl (Or.inr rfl) ht hs') dX12_goesOn_12 ml_X12_218 mk_X12_fail (by first | rfl | assumption) rfl rfl rfl rfl rfl ?_
      rintro _ _ σ1 _ ⟨rfl, rfl, rfl, a1, a2, a3⟩
      refine hv_goto (tgt := 28) dX12_goesOn_15 (by decide) ?_
      refine hv_vret dX12_goesOn_28 rfl ?_
      exact ⟨rfl, rfl, rfl, a1, kM_tr a2 kM_rf (Y := []) (by decide) (by decide), a3⟩
theorem d_must {f : hF} {n k : Nat} {s : hPR Unit} {v : Int32} (hv : v = nI (kap k)) (hk : k < 36) (hk2 : k ≠ 25 ∧ k ≠ 26) (ht : tokM f n σ τ) (hs : mSt f n s σ) : hCal G (m_X12_must (hQp [64] none (rr 38 51 x y) σ τ (fun σ' => kM [11, 13, 14] σ σ' ∧ mSt f n (bd s (fun a _ => tk (kd f n) k a)) σ'))) [.ref (hgA G 64), .int v] shp (rr 38 51 x y) σ τ := by
  refine hv_enter pn_X12 rfl ?_
  by_cases c : isM f n k s = true
  · rcases s with ⟨z, t⟩ | ⟨a, u⟩
    · cases c
    have ck : kd f n a = k := of_decide_eq_true c
    rw [show bd (Sum.inr (a, u) : hPR Unit) (fun a _ => tk (kd f n) k a) = bd (Sum.inr (a, u) : hPR Unit) (fun a _ => pass a) from if_pos ck]
    refine hv_aload_n dX12_must_0 rfl ?_
    refine hv_iload_n dX12_must_1 rfl ?_
    refine hv_cv1 (d_is hv hk ht hs) dX12_must_2 ml_X12_221 mk_X12_is (by first | rfl | assumption) rfl rfl rfl rfl rfl ?_
    rintro _ _ _ _ ⟨rfl, rfl, rfl, rfl⟩
    rw [c]
    refine hv_if_eq (tgt := 15) dX12_must_5 (by decide) (fun c_5 => absurd c_5 ((show ¬ bI true = 0 by decide))) (fun c_5 => ?_)
    refine hv_aload_n dX12_must_8 rfl ?_
    refine hv_cv0 (d_goesOn ht hs (fun b w q => by cases q; rw [ck]; exact hk2)) dX12_must_9 ml_X12_224 mk_X12_goesOn (by first | rfl | assumption) rfl rfl rfl rfl rfl ?_
    rintro _ _ σ1 _ ⟨rfl, rfl, rfl, a1, a2, a3⟩
    refine hv_goto (tgt := 20) dX12_must_12 (by decide) ?_
    refine hv_vret dX12_must_20 rfl ?_
    exact ⟨rfl, rfl, rfl, a1, a2, a3⟩
  · have c2 : isM f n k s = false := by simpa using c
    have es : bd s (fun a _ => tk (kd f n) k a) = bd s (fun a _ => .inl (1, a)) := by
      rcases s with e | ⟨a, u⟩
      · rfl
      · exact if_neg (of_decide_eq_false c2)
    rw [es]
    refine hv_aload_n dX12_must_0 rfl ?_
    refine hv_iload_n dX12_must_1 rfl ?_
    refine hv_cv1 (d_is hv hk ht hs) dX12_must_2 ml_X12_221 mk_X12_is (by first | rfl | assumption) rfl rfl rfl rfl rfl ?_
    rintro _ _ _ _ ⟨rfl, rfl, rfl, rfl⟩
    rw [c2]
    refine hv_if_eq (tgt := 15) dX12_must_5 (by decide) (fun c_5 => ?_) (fun c_5 => absurd ((show bI false = 0 by decide)) c_5)
    refine hv_aload_n dX12_must_15 rfl ?_
    refine hv_iconst (v := 1) dX12_must_16 (by decide) ?_
    refine hv_cv1 (d_fail (k := 1) rfl (Or.inl rfl) ht hs) dX12_must_17 ml_X12_218 mk_X12_fail (by first | rfl | assumption) rfl rfl rfl rfl rfl ?_
    rintro _ _ σ1 _ ⟨rfl, rfl, rfl, a1, a2, a3⟩
    refine hv_vret dX12_must_20 rfl ?_
    exact ⟨rfl, rfl, rfl, a1, kM_tr a2 kM_rf (Y := []) (by decide) (by decide), a3⟩
def emS (q : Nat) (k o : Int32) (σ : hS) : hS := va_up (va_up (va_up σ 93 (upd (σ 93) q k)) 94 (upd (σ 94) q o)) 64 (upd (σ 64) 43 (nI (q + 1)))
theorem d_emit {q : Nat} {k o : Int32} (h : σ 64 43 = nI q) (hq : q < 840) : hCal G (m_X12_emit (hEq none (rr 38 51 x y) (emS q k o σ) τ)) [.ref (hgA G 64), .int k, .int o] shp (rr 38 51 x y) σ τ := by
  refine hv_enter pn_X12 rfl ?_
  refine hv_aload_n dX12_emit_0 rfl ?_
  refine hv_getr dX12_emit_1 fl_X12_104 (by first | rfl | assumption) rfl (by first | rfl | assumption) ?_
  refine hv_aload_n dX12_emit_4 rfl ?_
  refine hv_geti dX12_emit_5 fl_X12_245 (by first | rfl | assumption) rfl ?_
  refine hv_iload_n dX12_emit_8 rfl ?_
  refine hv_iast dX12_emit_9 (by first | rfl | assumption) (j := q) h hq (by first | decide | assumption) ?_
  refine hv_aload_n dX12_emit_10 rfl ?_
  refine hv_getr dX12_emit_11 fl_X12_107 (by first | rfl | assumption) rfl (by first | rfl | assumption) ?_
  refine hv_aload_n dX12_emit_14 rfl ?_
  refine hv_geti dX12_emit_15 fl_X12_245 (by first | rfl | assumption) rfl ?_
  refine hv_iload_n dX12_emit_18 rfl ?_
  refine hv_iast dX12_emit_19 (by first | rfl | assumption) (j := q) h hq (by first | decide | assumption) ?_
  refine hv_aload_n dX12_emit_20 rfl ?_
  refine hv_dup dX12_emit_21 rfl ?_
  refine hv_geti dX12_emit_22 fl_X12_245 (by first | rfl | assumption) rfl ?_
  refine hv_iconst (v := 1) dX12_emit_25 (by decide) ?_
  refine hv_iadd dX12_emit_26 ?_
  refine hv_puti dX12_emit_27 fl_X12_245 (by first | rfl | assumption) rfl rfl rfl ?_
  refine hv_vret dX12_emit_30 rfl ?_
  refine ⟨rfl, rfl, ?_, rfl⟩
  unfold emS
  rw [hva_ne (show 64 ≠ 94 by decide), hva_ne (show 64 ≠ 93 by decide), h, nI_1]
  rfl
/-- the row of signs that wait, and the code so far -/
def wAt (A : hF) : List Nat → Prop
  | [] => True
  | w :: W => A W.length = nI (kap w) ∧ wAt A W
def yW (p0 : Nat) (W : List Nat) (c : hCd) (σ : hS) : Prop := σ 64 47 = nI W.length ∧ wAt (σ 95) W ∧ σ 64 43 = nI (p0 + c.length) ∧ cdAt (σ 93) (σ 94) p0 c
def isW (w : Nat) : Prop := w = 29 ∨ w = 30 ∨ w = 31 ∨ w = 32 ∨ w = 34
def cdF (lo hi : Nat) (σ σ' : hS) : Prop := ∀ j, j < lo ∨ hi ≤ j → σ' 93 j = σ 93 j ∧ σ' 94 j = σ 94 j
theorem cdF_rf {lo hi : Nat} {σ : hS} : cdF lo hi σ σ := fun _ _ => ⟨rfl, rfl⟩
theorem cdF_tr {lo lo' hi : Nat} {σ σ1 σ2 : hS} (h1 : cdF lo hi σ σ1) (h2 : cdF lo' hi σ1 σ2) (hl : lo ≤ lo') : cdF lo hi σ σ2 := fun j hj => by
  have a := h1 j hj
  have b := h2 j (by omega)
  exact ⟨b.1.trans a.1, b.2.trans a.2⟩
theorem cdF_e {lo hi : Nat} {σ σ' : hS} (h1 : σ' 93 = σ 93) (h2 : σ' 94 = σ 94) : cdF lo hi σ σ' := fun j _ => by rw [h1, h2]; exact ⟨rfl, rfl⟩
theorem yW_em {p0 hi : Nat} {W : List Nat} {c : hCd} {k o : Int32} {σ : hS} (h : yW p0 W c σ) (hi2 : p0 + c.length < hi) : yW p0 W (c ++ [(k, o)]) (emS (p0 + c.length) k o σ) ∧ cdF (p0 + c.length) hi σ (emS (p0 + c.length) k o σ) ∧ kM [43] σ (emS (p0 + c.length) k o σ) := by
  obtain ⟨h1, h2, h3, h4⟩ := h
  have e93 : emS (p0 + c.length) k o σ 93 = upd (σ 93) (p0 + c.length) k := rfl
  have e94 : emS (p0 + c.length) k o σ 94 = upd (σ 94) (p0 + c.length) o := rfl
  have e64 : emS (p0 + c.length) k o σ 64 = upd (σ 64) 43 (nI (p0 + c.length + 1)) := rfl
  have e95 : emS (p0 + c.length) k o σ 95 = σ 95 := rfl
  refine ⟨⟨?_, ?_, ?_, ?_⟩, ?_, ?_⟩
  · rw [e64, pk_un (by decide)]; exact h1
  · rw [e95]; exact h2
  · rw [e64, pk_us, List.length_append]; rfl
  · rw [cdAt_app, e93, e94]
    exact ⟨cdAt_ext c p0 (p0 + c.length) (Nat.le_refl _) (fun i hi => pk_un (by omega)) (fun i hi => pk_un (by omega)) h4, pk_us, pk_us, trivial⟩
  · intro j hj
    rw [e93, e94, pk_un (by omega), pk_un (by omega)]
    exact ⟨rfl, rfl⟩
  · intro j hj
    rw [e64, pk_un (by simpa using hj)]
theorem d_comesOut {p0 hi : Nat} {b : Bool} {W : List Nat} {c : hCd} (hy : yW p0 W c σ) (hw : ∀ w, w ∈ W → isW w) (h64 : W.length ≤ 64) (hb : p0 + c.length + W.length ≤ hi) (hh : hi ≤ 840) : hCal G (m_X12_comesOut (hQp [64, 93, 94] none (rr 38 51 x y) σ τ (fun σ' => kM [43, 47] σ σ' ∧ yW p0 (flA b W c).1 (flA b W c).2 σ' ∧ cdF (p0 + c.length) hi σ σ'))) [.ref (hgA G 64), .int (bI b)] shp (rr 38 51 x y) σ τ := by
  refine hv_enter pn_X12 rfl ?_
  generalize hQ : hQp [64, 93, 94] none (rr 38 51 x y) σ τ (fun σ' => kM [43, 47] σ σ' ∧ yW p0 (flA b W c).1 (flA b W c).2 σ' ∧ cdF (p0 + c.length) hi σ σ') = Q
  have loop : ∀ (W1 : List Nat) (c1 : hCd) (σ1 : hS) (l2 : Option Value), flA b W1 c1 = flA b W c → yW p0 W1 c1 σ1 → (∀ w, w ∈ W1 → isW w) → W1.length ≤ 64 → p0 + c1.length + W1.length ≤ hi → c.length ≤ c1.length → (∀ k, k ∉ [64, 93, 94] → σ1 k = σ k) → kM [43, 47] σ σ1 → cdF (p0 + c.length) hi σ σ1 → hV G (m_X12_comesOut Q) 0 0 shp 0 [some (.ref (hgA G 64)), some (.int (bI b)), l2] [] (rr 38 51 x y) σ1 τ := by
    intro W1
    induction W1 with
    | nil =>
      intro c1 σ1 l2 hf hy hw h64 hb hc hσ hk hd
      refine hv_aload_n dX12_comesOut_0 rfl ?_
      refine hv_geti dX12_comesOut_1 fl_X12_302 (by first | rfl | assumption) rfl ?_
      refine hv_if_le (tgt := 91) dX12_comesOut_4 (by decide) (fun c_4 => ?_) (fun c_4 => absurd ((by rw [hy.1]; decide)) c_4)
      refine hv_vret dX12_comesOut_91 rfl ?_
      rw [← hQ, ← hf]; exact ⟨rfl, rfl, rfl, hσ, hk, hy, hd⟩
    | cons w W1 ih =>
      intro c1 σ1 l2 hf hy hw h64 hb hc hσ hk hd
      have hy' := hy
      obtain ⟨h1, ⟨h2, h2b⟩, h3, h4⟩ := hy
      rw [List.length_cons] at h1 h64 hb
      have hww := hw w (List.mem_cons_self ..)
      have stop : flA b (w :: W1) c1 = (w :: W1, c1) → Q none (rr 38 51 x y) σ1 τ := by
        intro e
        rw [← hQ, ← hf, e]
        exact ⟨rfl, rfl, rfl, hσ, hk, hy', hd⟩
      have hy2 : yW p0 W1 c1 (va_up σ1 64 (upd (σ1 64) 47 (nI W1.length))) := ⟨by rw [hup_eq, pk_us], h2b, by rw [hup_eq, pk_un (by decide)]; exact h3, h4⟩
      have go : flA b (w :: W1) c1 = flA b W1 (c1 ++ [opc w]) → ∀ l2, hV G (m_X12_comesOut Q) 0 0 shp 0 [some (.ref (hgA G 64)), some (.int (bI b)), l2] [] (rr 38 51 x y) (emS (p0 + c1.length) (opc w).1 0 (va_up σ1 64 (upd (σ1 64) 47 (nI W1.length)))) τ := by
        intro e l2
        have g := yW_em (hi := hi) (k := (opc w).1) (o := 0) hy2 (by omega)
        refine ih (c1 ++ [opc w]) _ l2 (e ▸ hf) g.1 (fun z hz => hw z (List.mem_cons_of_mem _ hz)) (by omega) (by rw [List.length_append, List.length_singleton]; omega) (by rw [List.length_append]; omega) ?_ ?_ ?_
        · exact off_up (off_up (off_up (off_up hσ (by decide)) (by decide)) (by decide)) (by decide)
        · exact kM_tr (kM_tr hk (kM_up (X := [47]) (by decide)) (Z := [43, 47]) (by decide) (by decide)) g.2.2 (by decide) (by decide)
        · exact cdF_tr (cdF_tr hd (cdF_e (σ' := va_up σ1 64 (upd (σ1 64) 47 (nI W1.length))) rfl rfl) (Nat.le_refl _)) g.2.1 (by omega)
      have q43 : va_up σ1 64 (upd (σ1 64) 47 (nI W1.length)) 64 43 = nI (p0 + c1.length) := by rw [hup_eq, pk_un (by decide)]; exact h3
      rcases hww with rfl | rfl | rfl | rfl | rfl
      · cases b with
        | true =>
          refine hv_aload_n dX12_comesOut_0 rfl ?_
          refine hv_geti dX12_comesOut_1 fl_X12_302 (by first | rfl | assumption) rfl ?_
          refine hv_if_le (tgt := 91) dX12_comesOut_4 (by decide) (fun c_4 => absurd c_4 ((by rw [h1]; exact nI_nle (by omega) (by omega)))) (fun c_4 => ?_)
          refine hv_aload_n dX12_comesOut_7 rfl ?_
          refine hv_getr dX12_comesOut_8 fl_X12_110 (by first | rfl | assumption) rfl (by first | rfl | assumption) ?_
          refine hv_aload_n dX12_comesOut_11 rfl ?_
          refine hv_geti dX12_comesOut_12 fl_X12_302 (by first | rfl | assumption) rfl ?_
          refine hv_iconst (v := 1) dX12_comesOut_15 (by decide) ?_
          refine hv_isub dX12_comesOut_16 ?_
          refine hv_iald dX12_comesOut_17 (by first | rfl | assumption) (j := W1.length) (by rw [h1]; exact nI_pred _) (by omega) (by first | decide | assumption) ?_
          rw [h2]
          refine hv_istore_n dX12_comesOut_18 rfl rfl ?_
          refine hv_iload_n dX12_comesOut_19 rfl ?_
          refine hv_bipush (v := 6) dX12_comesOut_20 (by decide) ?_
          refine hv_icmp_eq (tgt := 41) dX12_comesOut_22 (by decide) (fun c_22 => absurd c_22 ((by decide))) (fun c_22 => ?_)
          refine hv_iload_n dX12_comesOut_25 rfl ?_
          refine hv_if_eq (tgt := 42) dX12_comesOut_26 (by decide) (fun c_26 => absurd c_26 ((show ¬ bI true = 0 by decide))) (fun c_26 => ?_)
          refine hv_iload_n dX12_comesOut_29 rfl ?_
          refine hv_bipush (v := 8) dX12_comesOut_30 (by decide) ?_
          refine hv_icmp_eq (tgt := 41) dX12_comesOut_32 (by decide) (fun c_32 => ?_) (fun c_32 => absurd ((by decide)) c_32)
          refine hv_vret dX12_comesOut_41 rfl ?_
          exact stop rfl
        | false =>
          refine hv_aload_n dX12_comesOut_0 rfl ?_
          refine hv_geti dX12_comesOut_1 fl_X12_302 (by first | rfl | assumption) rfl ?_
          refine hv_if_le (tgt := 91) dX12_comesOut_4 (by decide) (fun c_4 => absurd c_4 ((by rw [h1]; exact nI_nle (by omega) (by omega)))) (fun c_4 => ?_)
          refine hv_aload_n dX12_comesOut_7 rfl ?_
          refine hv_getr dX12_comesOut_8 fl_X12_110 (by first | rfl | assumption) rfl (by first | rfl | assumption) ?_
          refine hv_aload_n dX12_comesOut_11 rfl ?_
          refine hv_geti dX12_comesOut_12 fl_X12_302 (by first | rfl | assumption) rfl ?_
          refine hv_iconst (v := 1) dX12_comesOut_15 (by decide) ?_
          refine hv_isub dX12_comesOut_16 ?_
          refine hv_iald dX12_comesOut_17 (by first | rfl | assumption) (j := W1.length) (by rw [h1]; exact nI_pred _) (by omega) (by first | decide | assumption) ?_
          rw [h2]
          refine hv_istore_n dX12_comesOut_18 rfl rfl ?_
          refine hv_iload_n dX12_comesOut_19 rfl ?_
          refine hv_bipush (v := 6) dX12_comesOut_20 (by decide) ?_
          refine hv_icmp_eq (tgt := 41) dX12_comesOut_22 (by decide) (fun c_22 => absurd c_22 ((by decide))) (fun c_22 => ?_)
          refine hv_iload_n dX12_comesOut_25 rfl ?_
          refine hv_if_eq (tgt := 42) dX12_comesOut_26 (by decide) (fun c_26 => ?_) (fun c_26 => absurd ((show bI false = 0 by decide)) c_26)
          refine hv_aload_n dX12_comesOut_42 rfl ?_
          refine hv_dup dX12_comesOut_43 rfl ?_
          refine hv_geti dX12_comesOut_44 fl_X12_302 (by first | rfl | assumption) rfl ?_
          refine hv_iconst (v := 1) dX12_comesOut_47 (by decide) ?_
          refine hv_isub dX12_comesOut_48 ?_
          rw [h1, nI_pred]
          refine hv_puti dX12_comesOut_49 fl_X12_302 (by first | rfl | assumption) rfl rfl rfl ?_
          refine hv_aload_n dX12_comesOut_52 rfl ?_
          refine hv_iload_n dX12_comesOut_53 rfl ?_
          refine hv_bipush (v := 8) dX12_comesOut_54 (by decide) ?_
          refine hv_icmp_ne (tgt := 63) dX12_comesOut_56 (by decide) (fun c_56 => absurd (rfl) c_56) (fun c_56 => ?_)
          refine hv_iconst (v := 2) dX12_comesOut_59 (by decide) ?_
          refine hv_goto (tgt := 84) dX12_comesOut_60 (by decide) ?_
          refine hv_iconst (v := 0) dX12_comesOut_84 (by decide) ?_
          refine hv_cv2 (d_emit q43 (by omega)) dX12_comesOut_85 ml_X12_305 mk_X12_emit (by first | rfl | assumption) rfl rfl rfl rfl rfl ?_
          rintro _ _ _ _ ⟨rfl, rfl, rfl, rfl⟩
          refine hv_goto (tgt := 0) dX12_comesOut_88 (by decide) ?_
          exact go rfl _
      · cases b with
        | true =>
          refine hv_aload_n dX12_comesOut_0 rfl ?_
          refine hv_geti dX12_comesOut_1 fl_X12_302 (by first | rfl | assumption) rfl ?_
          refine hv_if_le (tgt := 91) dX12_comesOut_4 (by decide) (fun c_4 => absurd c_4 ((by rw [h1]; exact nI_nle (by omega) (by omega)))) (fun c_4 => ?_)
          refine hv_aload_n dX12_comesOut_7 rfl ?_
          refine hv_getr dX12_comesOut_8 fl_X12_110 (by first | rfl | assumption) rfl (by first | rfl | assumption) ?_
          refine hv_aload_n dX12_comesOut_11 rfl ?_
          refine hv_geti dX12_comesOut_12 fl_X12_302 (by first | rfl | assumption) rfl ?_
          refine hv_iconst (v := 1) dX12_comesOut_15 (by decide) ?_
          refine hv_isub dX12_comesOut_16 ?_
          refine hv_iald dX12_comesOut_17 (by first | rfl | assumption) (j := W1.length) (by rw [h1]; exact nI_pred _) (by omega) (by first | decide | assumption) ?_
          rw [h2]
          refine hv_istore_n dX12_comesOut_18 rfl rfl ?_
          refine hv_iload_n dX12_comesOut_19 rfl ?_
          refine hv_bipush (v := 6) dX12_comesOut_20 (by decide) ?_
          refine hv_icmp_eq (tgt := 41) dX12_comesOut_22 (by decide) (fun c_22 => absurd c_22 ((by decide))) (fun c_22 => ?_)
          refine hv_iload_n dX12_comesOut_25 rfl ?_
          refine hv_if_eq (tgt := 42) dX12_comesOut_26 (by decide) (fun c_26 => absurd c_26 ((show ¬ bI true = 0 by decide))) (fun c_26 => ?_)
          refine hv_iload_n dX12_comesOut_29 rfl ?_
          refine hv_bipush (v := 8) dX12_comesOut_30 (by decide) ?_
          refine hv_icmp_eq (tgt := 41) dX12_comesOut_32 (by decide) (fun c_32 => absurd c_32 ((by decide))) (fun c_32 => ?_)
          refine hv_iload_n dX12_comesOut_35 rfl ?_
          refine hv_bipush (v := 9) dX12_comesOut_36 (by decide) ?_
          refine hv_icmp_ne (tgt := 42) dX12_comesOut_38 (by decide) (fun c_38 => absurd (rfl) c_38) (fun c_38 => ?_)
          refine hv_vret dX12_comesOut_41 rfl ?_
          exact stop rfl
        | false =>
          refine hv_aload_n dX12_comesOut_0 rfl ?_
          refine hv_geti dX12_comesOut_1 fl_X12_302 (by first | rfl | assumption) rfl ?_
          refine hv_if_le (tgt := 91) dX12_comesOut_4 (by decide) (fun c_4 => absurd c_4 ((by rw [h1]; exact nI_nle (by omega) (by omega)))) (fun c_4 => ?_)
          refine hv_aload_n dX12_comesOut_7 rfl ?_
          refine hv_getr dX12_comesOut_8 fl_X12_110 (by first | rfl | assumption) rfl (by first | rfl | assumption) ?_
          refine hv_aload_n dX12_comesOut_11 rfl ?_
          refine hv_geti dX12_comesOut_12 fl_X12_302 (by first | rfl | assumption) rfl ?_
          refine hv_iconst (v := 1) dX12_comesOut_15 (by decide) ?_
          refine hv_isub dX12_comesOut_16 ?_
          refine hv_iald dX12_comesOut_17 (by first | rfl | assumption) (j := W1.length) (by rw [h1]; exact nI_pred _) (by omega) (by first | decide | assumption) ?_
          rw [h2]
          refine hv_istore_n dX12_comesOut_18 rfl rfl ?_
          refine hv_iload_n dX12_comesOut_19 rfl ?_
          refine hv_bipush (v := 6) dX12_comesOut_20 (by decide) ?_
          refine hv_icmp_eq (tgt := 41) dX12_comesOut_22 (by decide) (fun c_22 => absurd c_22 ((by decide))) (fun c_22 => ?_)
          refine hv_iload_n dX12_comesOut_25 rfl ?_
          refine hv_if_eq (tgt := 42) dX12_comesOut_26 (by decide) (fun c_26 => ?_) (fun c_26 => absurd ((show bI false = 0 by decide)) c_26)
          refine hv_aload_n dX12_comesOut_42 rfl ?_
          refine hv_dup dX12_comesOut_43 rfl ?_
          refine hv_geti dX12_comesOut_44 fl_X12_302 (by first | rfl | assumption) rfl ?_
          refine hv_iconst (v := 1) dX12_comesOut_47 (by decide) ?_
          refine hv_isub dX12_comesOut_48 ?_
          rw [h1, nI_pred]
          refine hv_puti dX12_comesOut_49 fl_X12_302 (by first | rfl | assumption) rfl rfl rfl ?_
          refine hv_aload_n dX12_comesOut_52 rfl ?_
          refine hv_iload_n dX12_comesOut_53 rfl ?_
          refine hv_bipush (v := 8) dX12_comesOut_54 (by decide) ?_
          refine hv_icmp_ne (tgt := 63) dX12_comesOut_56 (by decide) (fun c_56 => ?_) (fun c_56 => absurd c_56 ((by decide)))
          refine hv_iload_n dX12_comesOut_63 rfl ?_
          refine hv_bipush (v := 9) dX12_comesOut_64 (by decide) ?_
          refine hv_icmp_ne (tgt := 73) dX12_comesOut_66 (by decide) (fun c_66 => absurd (rfl) c_66) (fun c_66 => ?_)
          refine hv_iconst (v := 3) dX12_comesOut_69 (by decide) ?_
          refine hv_goto (tgt := 84) dX12_comesOut_70 (by decide) ?_
          refine hv_iconst (v := 0) dX12_comesOut_84 (by decide) ?_
          refine hv_cv2 (d_emit q43 (by omega)) dX12_comesOut_85 ml_X12_305 mk_X12_emit (by first | rfl | assumption) rfl rfl rfl rfl rfl ?_
          rintro _ _ _ _ ⟨rfl, rfl, rfl, rfl⟩
          refine hv_goto (tgt := 0) dX12_comesOut_88 (by decide) ?_
          exact go rfl _
      · skip
        refine hv_aload_n dX12_comesOut_0 rfl ?_
        refine hv_geti dX12_comesOut_1 fl_X12_302 (by first | rfl | assumption) rfl ?_
        refine hv_if_le (tgt := 91) dX12_comesOut_4 (by decide) (fun c_4 => absurd c_4 ((by rw [h1]; exact nI_nle (by omega) (by omega)))) (fun c_4 => ?_)
        refine hv_aload_n dX12_comesOut_7 rfl ?_
        refine hv_getr dX12_comesOut_8 fl_X12_110 (by first | rfl | assumption) rfl (by first | rfl | assumption) ?_
        refine hv_aload_n dX12_comesOut_11 rfl ?_
        refine hv_geti dX12_comesOut_12 fl_X12_302 (by first | rfl | assumption) rfl ?_
        refine hv_iconst (v := 1) dX12_comesOut_15 (by decide) ?_
        refine hv_isub dX12_comesOut_16 ?_
        refine hv_iald dX12_comesOut_17 (by first | rfl | assumption) (j := W1.length) (by rw [h1]; exact nI_pred _) (by omega) (by first | decide | assumption) ?_
        rw [h2]
        refine hv_istore_n dX12_comesOut_18 rfl rfl ?_
        refine hv_iload_n dX12_comesOut_19 rfl ?_
        refine hv_bipush (v := 6) dX12_comesOut_20 (by decide) ?_
        refine hv_icmp_eq (tgt := 41) dX12_comesOut_22 (by decide) (fun c_22 => absurd c_22 ((by decide))) (fun c_22 => ?_)
        refine hv_iload_n dX12_comesOut_25 rfl ?_
        refine hv_if_eq (tgt := 42) dX12_comesOut_26 (by decide) (fun c_26 => ?_) (fun c_26 => ?_)
        · refine hv_aload_n dX12_comesOut_42 rfl ?_
          refine hv_dup dX12_comesOut_43 rfl ?_
          refine hv_geti dX12_comesOut_44 fl_X12_302 (by first | rfl | assumption) rfl ?_
          refine hv_iconst (v := 1) dX12_comesOut_47 (by decide) ?_
          refine hv_isub dX12_comesOut_48 ?_
          rw [h1, nI_pred]
          refine hv_puti dX12_comesOut_49 fl_X12_302 (by first | rfl | assumption) rfl rfl rfl ?_
          refine hv_aload_n dX12_comesOut_52 rfl ?_
          refine hv_iload_n dX12_comesOut_53 rfl ?_
          refine hv_bipush (v := 8) dX12_comesOut_54 (by decide) ?_
          refine hv_icmp_ne (tgt := 63) dX12_comesOut_56 (by decide) (fun c_56 => ?_) (fun c_56 => absurd c_56 ((by decide)))
          refine hv_iload_n dX12_comesOut_63 rfl ?_
          refine hv_bipush (v := 9) dX12_comesOut_64 (by decide) ?_
          refine hv_icmp_ne (tgt := 73) dX12_comesOut_66 (by decide) (fun c_66 => ?_) (fun c_66 => absurd c_66 ((by decide)))
          refine hv_iload_n dX12_comesOut_73 rfl ?_
          refine hv_bipush (v := 10) dX12_comesOut_74 (by decide) ?_
          refine hv_icmp_ne (tgt := 83) dX12_comesOut_76 (by decide) (fun c_76 => absurd (rfl) c_76) (fun c_76 => ?_)
          refine hv_iconst (v := 4) dX12_comesOut_79 (by decide) ?_
          refine hv_goto (tgt := 84) dX12_comesOut_80 (by decide) ?_
          refine hv_iconst (v := 0) dX12_comesOut_84 (by decide) ?_
          refine hv_cv2 (d_emit q43 (by omega)) dX12_comesOut_85 ml_X12_305 mk_X12_emit (by first | rfl | assumption) rfl rfl rfl rfl rfl ?_
          rintro _ _ _ _ ⟨rfl, rfl, rfl, rfl⟩
          refine hv_goto (tgt := 0) dX12_comesOut_88 (by decide) ?_
          exact go (fl_md (by decide)) _
        · refine hv_iload_n dX12_comesOut_29 rfl ?_
          refine hv_bipush (v := 8) dX12_comesOut_30 (by decide) ?_
          refine hv_icmp_eq (tgt := 41) dX12_comesOut_32 (by decide) (fun c_32 => absurd c_32 ((by decide))) (fun c_32 => ?_)
          refine hv_iload_n dX12_comesOut_35 rfl ?_
          refine hv_bipush (v := 9) dX12_comesOut_36 (by decide) ?_
          refine hv_icmp_ne (tgt := 42) dX12_comesOut_38 (by decide) (fun c_38 => ?_) (fun c_38 => absurd c_38 ((by decide)))
          refine hv_aload_n dX12_comesOut_42 rfl ?_
          refine hv_dup dX12_comesOut_43 rfl ?_
          refine hv_geti dX12_comesOut_44 fl_X12_302 (by first | rfl | assumption) rfl ?_
          refine hv_iconst (v := 1) dX12_comesOut_47 (by decide) ?_
          refine hv_isub dX12_comesOut_48 ?_
          rw [h1, nI_pred]
          refine hv_puti dX12_comesOut_49 fl_X12_302 (by first | rfl | assumption) rfl rfl rfl ?_
          refine hv_aload_n dX12_comesOut_52 rfl ?_
          refine hv_iload_n dX12_comesOut_53 rfl ?_
          refine hv_bipush (v := 8) dX12_comesOut_54 (by decide) ?_
          refine hv_icmp_ne (tgt := 63) dX12_comesOut_56 (by decide) (fun c_56 => ?_) (fun c_56 => absurd c_56 ((by decide)))
          refine hv_iload_n dX12_comesOut_63 rfl ?_
          refine hv_bipush (v := 9) dX12_comesOut_64 (by decide) ?_
          refine hv_icmp_ne (tgt := 73) dX12_comesOut_66 (by decide) (fun c_66 => ?_) (fun c_66 => absurd c_66 ((by decide)))
          refine hv_iload_n dX12_comesOut_73 rfl ?_
          refine hv_bipush (v := 10) dX12_comesOut_74 (by decide) ?_
          refine hv_icmp_ne (tgt := 83) dX12_comesOut_76 (by decide) (fun c_76 => absurd (rfl) c_76) (fun c_76 => ?_)
          refine hv_iconst (v := 4) dX12_comesOut_79 (by decide) ?_
          refine hv_goto (tgt := 84) dX12_comesOut_80 (by decide) ?_
          refine hv_iconst (v := 0) dX12_comesOut_84 (by decide) ?_
          refine hv_cv2 (d_emit q43 (by omega)) dX12_comesOut_85 ml_X12_305 mk_X12_emit (by first | rfl | assumption) rfl rfl rfl rfl rfl ?_
          rintro _ _ _ _ ⟨rfl, rfl, rfl, rfl⟩
          refine hv_goto (tgt := 0) dX12_comesOut_88 (by decide) ?_
          exact go (fl_md (by decide)) _
      · skip
        refine hv_aload_n dX12_comesOut_0 rfl ?_
        refine hv_geti dX12_comesOut_1 fl_X12_302 (by first | rfl | assumption) rfl ?_
        refine hv_if_le (tgt := 91) dX12_comesOut_4 (by decide) (fun c_4 => absurd c_4 ((by rw [h1]; exact nI_nle (by omega) (by omega)))) (fun c_4 => ?_)
        refine hv_aload_n dX12_comesOut_7 rfl ?_
        refine hv_getr dX12_comesOut_8 fl_X12_110 (by first | rfl | assumption) rfl (by first | rfl | assumption) ?_
        refine hv_aload_n dX12_comesOut_11 rfl ?_
        refine hv_geti dX12_comesOut_12 fl_X12_302 (by first | rfl | assumption) rfl ?_
        refine hv_iconst (v := 1) dX12_comesOut_15 (by decide) ?_
        refine hv_isub dX12_comesOut_16 ?_
        refine hv_iald dX12_comesOut_17 (by first | rfl | assumption) (j := W1.length) (by rw [h1]; exact nI_pred _) (by omega) (by first | decide | assumption) ?_
        rw [h2]
        refine hv_istore_n dX12_comesOut_18 rfl rfl ?_
        refine hv_iload_n dX12_comesOut_19 rfl ?_
        refine hv_bipush (v := 6) dX12_comesOut_20 (by decide) ?_
        refine hv_icmp_eq (tgt := 41) dX12_comesOut_22 (by decide) (fun c_22 => absurd c_22 ((by decide))) (fun c_22 => ?_)
        refine hv_iload_n dX12_comesOut_25 rfl ?_
        refine hv_if_eq (tgt := 42) dX12_comesOut_26 (by decide) (fun c_26 => ?_) (fun c_26 => ?_)
        · refine hv_aload_n dX12_comesOut_42 rfl ?_
          refine hv_dup dX12_comesOut_43 rfl ?_
          refine hv_geti dX12_comesOut_44 fl_X12_302 (by first | rfl | assumption) rfl ?_
          refine hv_iconst (v := 1) dX12_comesOut_47 (by decide) ?_
          refine hv_isub dX12_comesOut_48 ?_
          rw [h1, nI_pred]
          refine hv_puti dX12_comesOut_49 fl_X12_302 (by first | rfl | assumption) rfl rfl rfl ?_
          refine hv_aload_n dX12_comesOut_52 rfl ?_
          refine hv_iload_n dX12_comesOut_53 rfl ?_
          refine hv_bipush (v := 8) dX12_comesOut_54 (by decide) ?_
          refine hv_icmp_ne (tgt := 63) dX12_comesOut_56 (by decide) (fun c_56 => ?_) (fun c_56 => absurd c_56 ((by decide)))
          refine hv_iload_n dX12_comesOut_63 rfl ?_
          refine hv_bipush (v := 9) dX12_comesOut_64 (by decide) ?_
          refine hv_icmp_ne (tgt := 73) dX12_comesOut_66 (by decide) (fun c_66 => ?_) (fun c_66 => absurd c_66 ((by decide)))
          refine hv_iload_n dX12_comesOut_73 rfl ?_
          refine hv_bipush (v := 10) dX12_comesOut_74 (by decide) ?_
          refine hv_icmp_ne (tgt := 83) dX12_comesOut_76 (by decide) (fun c_76 => ?_) (fun c_76 => absurd c_76 ((by decide)))
          refine hv_iconst (v := 5) dX12_comesOut_83 (by decide) ?_
          refine hv_iconst (v := 0) dX12_comesOut_84 (by decide) ?_
          refine hv_cv2 (d_emit q43 (by omega)) dX12_comesOut_85 ml_X12_305 mk_X12_emit (by first | rfl | assumption) rfl rfl rfl rfl rfl ?_
          rintro _ _ _ _ ⟨rfl, rfl, rfl, rfl⟩
          refine hv_goto (tgt := 0) dX12_comesOut_88 (by decide) ?_
          exact go (fl_md (by decide)) _
        · refine hv_iload_n dX12_comesOut_29 rfl ?_
          refine hv_bipush (v := 8) dX12_comesOut_30 (by decide) ?_
          refine hv_icmp_eq (tgt := 41) dX12_comesOut_32 (by decide) (fun c_32 => absurd c_32 ((by decide))) (fun c_32 => ?_)
          refine hv_iload_n dX12_comesOut_35 rfl ?_
          refine hv_bipush (v := 9) dX12_comesOut_36 (by decide) ?_
          refine hv_icmp_ne (tgt := 42) dX12_comesOut_38 (by decide) (fun c_38 => ?_) (fun c_38 => absurd c_38 ((by decide)))
          refine hv_aload_n dX12_comesOut_42 rfl ?_
          refine hv_dup dX12_comesOut_43 rfl ?_
          refine hv_geti dX12_comesOut_44 fl_X12_302 (by first | rfl | assumption) rfl ?_
          refine hv_iconst (v := 1) dX12_comesOut_47 (by decide) ?_
          refine hv_isub dX12_comesOut_48 ?_
          rw [h1, nI_pred]
          refine hv_puti dX12_comesOut_49 fl_X12_302 (by first | rfl | assumption) rfl rfl rfl ?_
          refine hv_aload_n dX12_comesOut_52 rfl ?_
          refine hv_iload_n dX12_comesOut_53 rfl ?_
          refine hv_bipush (v := 8) dX12_comesOut_54 (by decide) ?_
          refine hv_icmp_ne (tgt := 63) dX12_comesOut_56 (by decide) (fun c_56 => ?_) (fun c_56 => absurd c_56 ((by decide)))
          refine hv_iload_n dX12_comesOut_63 rfl ?_
          refine hv_bipush (v := 9) dX12_comesOut_64 (by decide) ?_
          refine hv_icmp_ne (tgt := 73) dX12_comesOut_66 (by decide) (fun c_66 => ?_) (fun c_66 => absurd c_66 ((by decide)))
          refine hv_iload_n dX12_comesOut_73 rfl ?_
          refine hv_bipush (v := 10) dX12_comesOut_74 (by decide) ?_
          refine hv_icmp_ne (tgt := 83) dX12_comesOut_76 (by decide) (fun c_76 => ?_) (fun c_76 => absurd c_76 ((by decide)))
          refine hv_iconst (v := 5) dX12_comesOut_83 (by decide) ?_
          refine hv_iconst (v := 0) dX12_comesOut_84 (by decide) ?_
          refine hv_cv2 (d_emit q43 (by omega)) dX12_comesOut_85 ml_X12_305 mk_X12_emit (by first | rfl | assumption) rfl rfl rfl rfl rfl ?_
          rintro _ _ _ _ ⟨rfl, rfl, rfl, rfl⟩
          refine hv_goto (tgt := 0) dX12_comesOut_88 (by decide) ?_
          exact go (fl_md (by decide)) _
      · skip
        refine hv_aload_n dX12_comesOut_0 rfl ?_
        refine hv_geti dX12_comesOut_1 fl_X12_302 (by first | rfl | assumption) rfl ?_
        refine hv_if_le (tgt := 91) dX12_comesOut_4 (by decide) (fun c_4 => absurd c_4 ((by rw [h1]; exact nI_nle (by omega) (by omega)))) (fun c_4 => ?_)
        refine hv_aload_n dX12_comesOut_7 rfl ?_
        refine hv_getr dX12_comesOut_8 fl_X12_110 (by first | rfl | assumption) rfl (by first | rfl | assumption) ?_
        refine hv_aload_n dX12_comesOut_11 rfl ?_
        refine hv_geti dX12_comesOut_12 fl_X12_302 (by first | rfl | assumption) rfl ?_
        refine hv_iconst (v := 1) dX12_comesOut_15 (by decide) ?_
        refine hv_isub dX12_comesOut_16 ?_
        refine hv_iald dX12_comesOut_17 (by first | rfl | assumption) (j := W1.length) (by rw [h1]; exact nI_pred _) (by omega) (by first | decide | assumption) ?_
        rw [h2]
        refine hv_istore_n dX12_comesOut_18 rfl rfl ?_
        refine hv_iload_n dX12_comesOut_19 rfl ?_
        refine hv_bipush (v := 6) dX12_comesOut_20 (by decide) ?_
        refine hv_icmp_eq (tgt := 41) dX12_comesOut_22 (by decide) (fun c_22 => ?_) (fun c_22 => absurd (rfl) c_22)
        refine hv_vret dX12_comesOut_41 rfl ?_
        exact stop (by cases b <;> rfl)
  exact loop W c σ _ rfl hy hw h64 hb (Nat.le_refl _) (fun _ _ => rfl) kM_rf cdF_rf
end S90

