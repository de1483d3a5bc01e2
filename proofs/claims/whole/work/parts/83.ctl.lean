abbrev m_X8_fail (Q : hPo) : hMe := (hrm 0, 0, 0, yX8_fail, cX8_fail, 3, (none : Option FieldType), shp, none, Q)
abbrev m_X8_houseNamed (Q : hPo) : hMe := (hrm 2, 0, 0, yX8_houseNamed, cX8_houseNamed, 3, (some FieldType.int), shp, none, Q)
abbrev m_X8_knownHouse (Q : hPo) : hMe := (hrm 3, 0, 0, yX8_knownHouse, cX8_knownHouse, 3, (some FieldType.int), shp, none, Q)
abbrev m_X8_checkNewName (Q : hPo) : hMe := (hrm 3, 0, 0, yX8_checkNewName, cX8_checkNewName, 4, (none : Option FieldType), shp, none, Q)
abbrev m_X8_number (Q : hPo) : hMe := (hrm 1, 0, 0, yX8_number, cX8_number, 4, (some FieldType.int), shp, none, Q)
abbrev m_X8_isTellEnd (Q : hPo) : hMe := (hrm 1, 0, 0, yX8_isTellEnd, cX8_isTellEnd, 2, (some FieldType.boolean), shp, none, Q)
abbrev m_X8_skipTell (Q : hPo) : hMe := (hrm 2, 0, 0, yX8_skipTell, cX8_skipTell, 2, (none : Option FieldType), shp, none, Q)
abbrev m_X8_fillHouse (Q : hPo) : hMe := (hrm 4, 0, 0, yX8_fillHouse, cX8_fillHouse, 2, (none : Option FieldType), shp, none, Q)
abbrev m_X8_fillHearing (Q : hPo) : hMe := (hrm 4, 0, 0, yX8_fillHearing, cX8_fillHearing, 4, (none : Option FieldType), shp, none, Q)
abbrev m_X8_addSupporter (Q : hPo) : hMe := (hrm 4, 0, 0, yX8_addSupporter, cX8_addSupporter, 5, (none : Option FieldType), shp, none, Q)
abbrev m_X8_fillMotion (Q : hPo) : hMe := (hrm 5, 0, 0, yX8_fillMotion, cX8_fillMotion, 3, (none : Option FieldType), shp, none, Q)
abbrev m_X8_fillNumber (Q : hPo) : hMe := (hrm 2, 0, 0, yX8_fillNumber, cX8_fillNumber, 2, (none : Option FieldType), shp, none, Q)
abbrev m_X8_fill (Q : hPo) : hMe := (hrm 6, 0, 0, yX8_fill, cX8_fill, 4, (none : Option FieldType), shp, none, Q)
def tSt : Option (Nat × Nat) → hS → Prop
  | none, σ => σ 8 5 = 0
  | some (k, t), σ => σ 8 5 = nI k ∧ (k = 3 ∨ k = 4 ∨ k = 5) ∧ σ 8 6 = nI t
def orE (o : Option (Nat × Nat)) (e : Nat × Nat) : Option (Nat × Nat) := match o with
  | none => some e
  | some x => some x
def k8 (σ σ' : hS) : Prop := ∀ j, j ≠ 5 → j ≠ 6 → σ' 8 j = σ 8 j
theorem k8_rf {σ : hS} : k8 σ σ := fun _ _ _ => rfl
theorem k8_tr {σ σ1 σ2 : hS} (h : k8 σ σ1) (h2 : k8 σ1 σ2) : k8 σ σ2 := fun j a b => (h2 j a b).trans (h j a b)
theorem tSt_of {o : Option (Nat × Nat)} {σ σ' : hS} (h : tSt o σ) (e : σ' 8 = σ 8) : tSt o σ' := by
  rcases o with _ | ⟨k, t⟩
  · show σ' 8 5 = 0; rw [e]; exact h
  · obtain ⟨h1, h2, h3⟩ := h
    exact ⟨by rw [e]; exact h1, h2, by rw [e]; exact h3⟩
/-- the names in the class -/
def nmC (f : hF) (n : Nat) (S : hSm) (σ : hS) : Prop := σ 51 7 = nI (sH S) ∧ sH S ≤ 7 ∧ σ 51 9 = nI (sM S) ∧ sM S ≤ 5 ∧ (∀ i, i < sH S → σ 9 i = nI (sHn S i) ∧ rel f n (sHn S i) ∧ kd f n (sHn S i) = 23) ∧ ∀ i, i < sM S → σ 10 i = nI (sMn S i) ∧ rel f n (sMn S i) ∧ kd f n (sMn S i) = 23
/-- what the Teller looks at -/
def tlC (f : hF) (n : Nat) (σ : hS) : Prop := σ 2 = f ∧ σ 1 1 = nI n ∧ n ≤ 2000 ∧ tokC f n σ
theorem tlC_of {X : List Nat} {f : hF} {n : Nat} {σ σ' : hS} (h : tlC f n σ) (hσ : ∀ k, k ∉ X → σ' k = σ k) (hX : hdj X [1, 2, 3, 4, 5, 6] = true) : tlC f n σ' := by
  have e := hdj_at hσ hX
  refine ⟨by rw [e 2 (by simp)]; exact h.1, by rw [e 1 (by simp)]; exact h.2.1, h.2.2.1, ?_⟩
  unfold tokC
  rw [e 3 (by simp), e 4 (by simp), e 5 (by simp), e 6 (by simp)]
  exact h.2.2.2
theorem nmC_of {f : hF} {n : Nat} {S : hSm} {σ σ' : hS} (h : nmC f n S σ) (h1 : σ' 51 = σ 51) (h2 : σ' 9 = σ 9) (h3 : σ' 10 = σ 10) : nmC f n S σ' := by
  unfold nmC; rw [h1, h2, h3]; exact h
theorem and_pow0 {m b : Nat} : m &&& 2 ^ b = 0 ↔ m.testBit b = false := by
  constructor
  · intro h
    have h2 := congrArg (fun z => z.testBit b) h
    simp only [Nat.testBit_and, Nat.testBit_two_pow, Nat.zero_testBit] at h2
    rw [show decide True = true from rfl, Bool.and_true] at h2
    exact h2
  · intro h
    apply Nat.eq_of_testBit_eq
    intro i
    rw [Nat.testBit_and, Nat.testBit_two_pow, Nat.zero_testBit]
    by_cases c : b = i
    · subst c; rw [h]; rfl
    · rw [decide_eq_false c, Bool.and_false]
section S83
variable {G : hGl} {σ : hS} {τ : hT} {x : Option Nat}
theorem c_tfail {o : Option (Nat × Nat)} {k t : Nat} (hs : tSt o σ) (hk : k = 3 ∨ k = 4 ∨ k = 5) {r : hR} : hCal G (m_X8_fail (hQp [8] none r σ τ (fun σ' => k8 σ σ' ∧ tSt (orE o (k, t)) σ'))) [.ref (hgA G 8), .int (nI k), .int (nI t)] shp r σ τ := by
  refine hv_enter pn_X8 rfl ?_
  rcases o with _ | ⟨k', t'⟩
  · skip
    refine hv_aload_n dX8_fail_0 rfl ?_
    refine hv_geti dX8_fail_1 fl_X8_30 (by first | rfl | assumption) rfl ?_
    refine hv_if_ne (tgt := 17) dX8_fail_4 (by decide) (fun c_4 => absurd (hs) c_4) (fun c_4 => ?_)
    refine hv_aload_n dX8_fail_7 rfl ?_
    refine hv_iload_n dX8_fail_8 rfl ?_
    refine hv_puti dX8_fail_9 fl_X8_30 (by first | rfl | assumption) rfl rfl rfl ?_
    refine hv_aload_n dX8_fail_12 rfl ?_
    refine hv_iload_n dX8_fail_13 rfl ?_
    refine hv_puti dX8_fail_14 fl_X8_55 (by first | rfl | assumption) rfl rfl rfl ?_
    refine hv_vret dX8_fail_17 rfl ?_
    refine ⟨rfl, rfl, rfl, off_up (off_up (fun _ _ => rfl) (by decide)) (by decide), fun j j1 j2 => ?_, ?_, hk, ?_⟩
    · rw [hup_eq, pk_un j2, hup_eq, pk_un j1]
    · rw [hup_eq, pk_un (by decide), hup_eq, pk_us]
    · rw [hup_eq, pk_us]
  · obtain ⟨h1, h2, h3⟩ := hs
    refine hv_aload_n dX8_fail_0 rfl ?_
    refine hv_geti dX8_fail_1 fl_X8_30 (by first | rfl | assumption) rfl ?_
    refine hv_if_ne (tgt := 17) dX8_fail_4 (by decide) (fun c_4 => ?_) (fun c_4 => absurd c_4 ((by rw [h1]; exact nI_ne0 (by omega) (by omega))))
    refine hv_vret dX8_fail_17 rfl ?_
    exact ⟨rfl, rfl, rfl, fun _ _ => rfl, k8_rf, h1, h2, h3⟩
theorem c_houseNamed {f : hF} {n i : Nat} {S : hSm} (ht : tlC f n σ) (hn : nmC f n S σ) (hr : rel f n i) (hk : kd f n i = 23) : hCal G (m_X8_houseNamed (hEq (some (.int (oN (fnd (dg f n) (sHn S) (dg f n i) (sH S))))) (rr 38 51 x (some 51)) σ τ)) [.ref (hgA G 8), .int (nI i)] shp (rr 38 51 x (some 51)) σ τ := by
  obtain ⟨n1, n2, n3, n4, n5, n6⟩ := hn
  refine hv_enter pn_X8 rfl ?_
  have loop : ∀ k j, j + k = sH S → fnd (dg f n) (sHn S) (dg f n i) j = none → hV G (m_X8_houseNamed (hEq (some (.int (oN (fnd (dg f n) (sHn S) (dg f n i) (sH S))))) (rr 38 51 x (some 51)) σ τ)) 0 0 shp 2 [some (.ref (hgA G 8)), some (.int (nI i)), some (.int (nI j))] [] (rr 38 51 x (some 51)) σ τ := by
    intro k
    induction k with
    | zero =>
      intro j hj hf
      obtain rfl : j = sH S := by omega
      refine hv_iload_n dX8_houseNamed_2 rfl ?_
      refine hv_aload_n dX8_houseNamed_3 rfl ?_
      refine hv_getr dX8_houseNamed_4 fl_X8_22 (by first | rfl | assumption) rfl (by first | rfl | assumption) ?_
      refine hv_geti dX8_houseNamed_7 fl_X8_84 (by first | rfl | assumption) rfl ?_
      refine hv_icmp_ge (tgt := 38) dX8_houseNamed_10 (by decide) (fun c_10 => ?_) (fun c_10 => absurd ((by rw [n1]; exact nI_le (Nat.le_refl _) (by omega))) c_10)
      refine hv_iconst (v := -1) dX8_houseNamed_38 (by decide) ?_
      refine hv_iret dX8_houseNamed_39 rfl ?_
      rw [hf]; exact ⟨rfl, rfl, rfl, rfl⟩
    | succ k ih =>
      intro j hj hf
      obtain ⟨a1, a2, a3⟩ := n5 j (by omega)
      refine hv_iload_n dX8_houseNamed_2 rfl ?_
      refine hv_aload_n dX8_houseNamed_3 rfl ?_
      refine hv_getr dX8_houseNamed_4 fl_X8_22 (by first | rfl | assumption) rfl (by first | rfl | assumption) ?_
      refine hv_geti dX8_houseNamed_7 fl_X8_84 (by first | rfl | assumption) rfl ?_
      refine hv_icmp_ge (tgt := 38) dX8_houseNamed_10 (by decide) (fun c_10 => absurd c_10 ((by rw [n1]; exact nI_ge (by omega) (by omega)))) (fun c_10 => ?_)
      refine hv_aload_n dX8_houseNamed_13 rfl ?_
      refine hv_getr dX8_houseNamed_14 fl_X8_18 (by first | rfl | assumption) rfl (by first | rfl | assumption) ?_
      refine hv_aload_n dX8_houseNamed_17 rfl ?_
      refine hv_getr dX8_houseNamed_18 fl_X8_9 (by first | rfl | assumption) rfl (by first | rfl | assumption) ?_
      refine hv_iload_n dX8_houseNamed_21 rfl ?_
      refine hv_iald dX8_houseNamed_22 (by first | rfl | assumption) rfl (by first | assumption | omega) (by first | decide | assumption) ?_
      refine hv_iload_n dX8_houseNamed_23 rfl ?_
      rw [a1]
      refine hv_cv2 (c_sameName (f := f) (n := n) ht.1 ht.2.1 ht.2.2.1 ht.2.2.2 a2 hr a3 hk) dX8_houseNamed_24 ml_X8_111 mk_X9_sameName (by first | rfl | assumption) rfl rfl rfl rfl rfl ?_
      rintro _ _ _ _ ⟨rfl, rfl, rfl, rfl⟩
      refine hv_if_eq (tgt := 32) dX8_houseNamed_27 (by decide) (fun c_27 => ?_) (fun c_27 => ?_)
      · refine hv_iinc dX8_houseNamed_32 rfl (nI_1 j) rfl rfl ?_
        refine hv_goto (tgt := 2) dX8_houseNamed_35 (by decide) ?_
        exact ih (j + 1) (by omega) (by rw [fnd, hf]; exact if_neg (of_decide_eq_false (bI_0 c_27)))
      · refine hv_iload_n dX8_houseNamed_30 rfl ?_
        refine hv_iret dX8_houseNamed_31 rfl ?_
        refine ⟨congrArg (fun z => some (Value.int z)) ?_, rfl, rfl, rfl⟩
        have hj1 : fnd (dg f n) (sHn S) (dg f n i) (j + 1) = some j := by rw [fnd, hf]; exact if_pos (of_decide_eq_true (bI_1 c_27))
        have hgo : ∀ q, fnd (dg f n) (sHn S) (dg f n i) (j + 1 + q) = some j := by
          intro q
          induction q with
          | zero => exact hj1
          | succ q ihq => rw [← Nat.add_assoc, fnd, ihq]
        have := hgo k
        rw [show j + 1 + k = sH S by omega] at this
        rw [this]
        rfl
  refine hv_iconst (v := 0) dX8_houseNamed_0 (by decide) ?_
  refine hv_istore_n dX8_houseNamed_1 rfl rfl ?_
  exact loop (sH S) 0 (by omega) rfl
theorem c_knownHouse {f : hF} {n i : Nat} {S : hSm} {o : Option (Nat × Nat)} (ht : tlC f n σ) (hn : nmC f n S σ) (hr : rel f n i) (hk : kd f n i = 23) (hs : tSt o σ) : hCal G (m_X8_knownHouse (hQp [8] (some (.int (oN (fnd (dg f n) (sHn S) (dg f n i) (sH S))))) (rr 38 51 x (some 51)) σ τ (fun σ' => k8 σ σ' ∧ tSt (if (fnd (dg f n) (sHn S) (dg f n i) (sH S)).isSome = true then o else orE o (4, i)) σ'))) [.ref (hgA G 8), .int (nI i)] shp (rr 38 51 x (some 51)) σ τ := by
  have hi := hr.1
  refine hv_enter pn_X8 rfl ?_
  cases hq : fnd (dg f n) (sHn S) (dg f n i) (sH S) with
  | none =>
    refine hv_aload_n dX8_knownHouse_0 rfl ?_
    refine hv_iload_n dX8_knownHouse_1 rfl ?_
    refine hv_cv1 (c_houseNamed ht hn hr hk) dX8_knownHouse_2 ml_X8_105 mk_X8_houseNamed (by first | rfl | assumption) rfl rfl rfl rfl rfl ?_
    rintro _ _ _ _ ⟨rfl, rfl, rfl, rfl⟩
    rw [hq]
    refine hv_istore_n dX8_knownHouse_5 rfl rfl ?_
    refine hv_iload_n dX8_knownHouse_6 rfl ?_
    refine hv_iconst (v := -1) dX8_knownHouse_7 (by decide) ?_
    refine hv_icmp_ne (tgt := 17) dX8_knownHouse_8 (by decide) (fun c_8 => absurd (rfl) c_8) (fun c_8 => ?_)
    refine hv_aload_n dX8_knownHouse_11 rfl ?_
    refine hv_iconst (v := 4) dX8_knownHouse_12 (by decide) ?_
    refine hv_iload_n dX8_knownHouse_13 rfl ?_
    refine hv_cv2 (c_tfail (k := 4) (t := i) hs (Or.inr (Or.inl rfl))) dX8_knownHouse_14 ml_X8_80 mk_X8_fail (by first | rfl | assumption) rfl rfl rfl rfl rfl ?_
    rintro _ _ σ1 _ ⟨rfl, rfl, rfl, a1, a2, a3⟩
    refine hv_iload_n dX8_knownHouse_17 rfl ?_
    refine hv_iret dX8_knownHouse_18 rfl ?_
    exact ⟨rfl, rfl, rfl, a1, a2, a3⟩
  | some j =>
    have hj := (fnd_lt _ j hq).1
    have h7 := hn.2.1
    refine hv_aload_n dX8_knownHouse_0 rfl ?_
    refine hv_iload_n dX8_knownHouse_1 rfl ?_
    refine hv_cv1 (c_houseNamed ht hn hr hk) dX8_knownHouse_2 ml_X8_105 mk_X8_houseNamed (by first | rfl | assumption) rfl rfl rfl rfl rfl ?_
    rintro _ _ _ _ ⟨rfl, rfl, rfl, rfl⟩
    rw [hq, show oN (some j) = nI j from rfl]
    refine hv_istore_n dX8_knownHouse_5 rfl rfl ?_
    refine hv_iload_n dX8_knownHouse_6 rfl ?_
    refine hv_iconst (v := -1) dX8_knownHouse_7 (by decide) ?_
    refine hv_icmp_ne (tgt := 17) dX8_knownHouse_8 (by decide) (fun c_8 => ?_) (fun c_8 => absurd c_8 ((fun q => nI_pos (n := j) (by omega) (by rw [q]; decide))))
    refine hv_iload_n dX8_knownHouse_17 rfl ?_
    refine hv_iret dX8_knownHouse_18 rfl ?_
    exact ⟨rfl, rfl, rfl, fun _ _ => rfl, k8_rf, hs⟩
theorem c_checkNewName {f : hF} {n i : Nat} {S : hSm} {o : Option (Nat × Nat)} (ht : tlC f n σ) (hn : nmC f n S σ) (hr : rel f n i) (hk : kd f n i = 23) (hs : tSt o σ) : hCal G (m_X8_checkNewName (hQp [8] none (rr 38 51 x (some 51)) σ τ (fun σ' => k8 σ σ' ∧ tSt (if tld (dg f n) S (dg f n i) = true then orE o (3, i) else o) σ'))) [.ref (hgA G 8), .int (nI i)] shp (rr 38 51 x (some 51)) σ τ := by
  have hi := hr.1
  have hn' := hn
  obtain ⟨n1, n2, n3, n4, n5, n6⟩ := hn
  refine hv_enter pn_X8 rfl ?_
  have tail : ∀ (b : Bool) (l3 : Int32), b = tld (dg f n) S (dg f n i) → hV G (m_X8_checkNewName (hQp [8] none (rr 38 51 x (some 51)) σ τ (fun σ' => k8 σ σ' ∧ tSt (if tld (dg f n) S (dg f n i) = true then orE o (3, i) else o) σ'))) 0 0 shp 53 [some (.ref (hgA G 8)), some (.int (nI i)), some (.int (bI b)), some (.int l3)] [] (rr 38 51 x (some 51)) σ τ := by
    intro b l3 hb
    rw [← hb]
    cases b with
    | true =>
      refine hv_iload_n dX8_checkNewName_53 rfl ?_
      refine hv_if_eq (tgt := 63) dX8_checkNewName_54 (by decide) (fun c_54 => absurd c_54 ((show ¬ bI true = 0 by decide))) (fun c_54 => ?_)
      refine hv_aload_n dX8_checkNewName_57 rfl ?_
      refine hv_iconst (v := 3) dX8_checkNewName_58 (by decide) ?_
      refine hv_iload_n dX8_checkNewName_59 rfl ?_
      refine hv_cv2 (c_tfail (k := 3) (t := i) hs (Or.inl rfl)) dX8_checkNewName_60 ml_X8_80 mk_X8_fail (by first | rfl | assumption) rfl rfl rfl rfl rfl ?_
      rintro _ _ σ1 _ ⟨rfl, rfl, rfl, a1, a2, a3⟩
      refine hv_vret dX8_checkNewName_63 rfl ?_
      exact ⟨rfl, rfl, rfl, a1, a2, a3⟩
    | false =>
      refine hv_iload_n dX8_checkNewName_53 rfl ?_
      refine hv_if_eq (tgt := 63) dX8_checkNewName_54 (by decide) (fun c_54 => ?_) (fun c_54 => absurd ((show bI false = 0 by decide)) c_54)
      refine hv_vret dX8_checkNewName_63 rfl ?_
      exact ⟨rfl, rfl, rfl, fun _ _ => rfl, k8_rf, hs⟩
  have loop : ∀ k j b, j + k = sM S → (b = ((fnd (dg f n) (sHn S) (dg f n i) (sH S)).isSome || (fnd (dg f n) (sMn S) (dg f n i) j).isSome)) → hV G (m_X8_checkNewName (hQp [8] none (rr 38 51 x (some 51)) σ τ (fun σ' => k8 σ σ' ∧ tSt (if tld (dg f n) S (dg f n i) = true then orE o (3, i) else o) σ'))) 0 0 shp 17 [some (.ref (hgA G 8)), some (.int (nI i)), some (.int (bI b)), some (.int (nI j))] [] (rr 38 51 x (some 51)) σ τ := by
    intro k
    induction k with
    | zero =>
      intro j b hj hb
      obtain rfl : j = sM S := by omega
      refine hv_iload_n dX8_checkNewName_17 rfl ?_
      refine hv_aload_n dX8_checkNewName_18 rfl ?_
      refine hv_getr dX8_checkNewName_19 fl_X8_22 (by first | rfl | assumption) rfl (by first | rfl | assumption) ?_
      refine hv_geti dX8_checkNewName_22 fl_X8_108 (by first | rfl | assumption) rfl ?_
      refine hv_icmp_ge (tgt := 53) dX8_checkNewName_25 (by decide) (fun c_25 => ?_) (fun c_25 => absurd ((by rw [n3]; exact nI_le (Nat.le_refl _) (by omega))) c_25)
      exact tail b _ hb
    | succ k ih =>
      intro j b hj hb
      obtain ⟨a1, a2, a3⟩ := n6 j (by omega)
      cases b with
      | true =>
        have hgo : ∀ q, (fnd (dg f n) (sMn S) (dg f n i) j).isSome = true → (fnd (dg f n) (sMn S) (dg f n i) (j + q)).isSome = true := by
          intro q hq
          induction q with
          | zero => exact hq
          | succ q ihq =>
            rw [← Nat.add_assoc, fnd]
            cases hz : fnd (dg f n) (sMn S) (dg f n i) (j + q) with
            | none => rw [hz] at ihq; cases ihq
            | some w => rfl
        refine hv_iload_n dX8_checkNewName_17 rfl ?_
        refine hv_aload_n dX8_checkNewName_18 rfl ?_
        refine hv_getr dX8_checkNewName_19 fl_X8_22 (by first | rfl | assumption) rfl (by first | rfl | assumption) ?_
        refine hv_geti dX8_checkNewName_22 fl_X8_108 (by first | rfl | assumption) rfl ?_
        refine hv_icmp_ge (tgt := 53) dX8_checkNewName_25 (by decide) (fun c_25 => absurd c_25 ((by rw [n3]; exact nI_ge (by omega) (by omega)))) (fun c_25 => ?_)
        refine hv_iload_n dX8_checkNewName_28 rfl ?_
        refine hv_if_ne (tgt := 53) dX8_checkNewName_29 (by decide) (fun c_29 => ?_) (fun c_29 => absurd c_29 ((show ¬ bI true = 0 by decide)))
        refine tail true _ ?_
        unfold tld
        rcases (Bool.or_eq_true _ _).mp hb.symm with q | q
        · rw [q]; rfl
        · have h1 := hgo (k + 1) q
          rw [show j + (k + 1) = sM S by omega] at h1
          rw [h1, Bool.or_true]
      | false =>
        obtain ⟨b1, b2⟩ := (Bool.or_eq_false_iff).mp hb.symm
        have b3 : fnd (dg f n) (sMn S) (dg f n i) j = none := Option.not_isSome_iff_eq_none.mp (by rw [b2]; decide)
        refine hv_iload_n dX8_checkNewName_17 rfl ?_
        refine hv_aload_n dX8_checkNewName_18 rfl ?_
        refine hv_getr dX8_checkNewName_19 fl_X8_22 (by first | rfl | assumption) rfl (by first | rfl | assumption) ?_
        refine hv_geti dX8_checkNewName_22 fl_X8_108 (by first | rfl | assumption) rfl ?_
        refine hv_icmp_ge (tgt := 53) dX8_checkNewName_25 (by decide) (fun c_25 => absurd c_25 ((by rw [n3]; exact nI_ge (by omega) (by omega)))) (fun c_25 => ?_)
        refine hv_iload_n dX8_checkNewName_28 rfl ?_
        refine hv_if_ne (tgt := 53) dX8_checkNewName_29 (by decide) (fun c_29 => absurd ((show bI false = 0 by decide)) c_29) (fun c_29 => ?_)
        refine hv_aload_n dX8_checkNewName_32 rfl ?_
        refine hv_getr dX8_checkNewName_33 fl_X8_18 (by first | rfl | assumption) rfl (by first | rfl | assumption) ?_
        refine hv_aload_n dX8_checkNewName_36 rfl ?_
        refine hv_getr dX8_checkNewName_37 fl_X8_15 (by first | rfl | assumption) rfl (by first | rfl | assumption) ?_
        refine hv_iload_n dX8_checkNewName_40 rfl ?_
        refine hv_iald dX8_checkNewName_41 (by first | rfl | assumption) rfl (by first | assumption | omega) (by first | decide | assumption) ?_
        refine hv_iload_n dX8_checkNewName_42 rfl ?_
        rw [a1]
        refine hv_cv2 (c_sameName (f := f) (n := n) ht.1 ht.2.1 ht.2.2.1 ht.2.2.2 a2 hr a3 hk) dX8_checkNewName_43 ml_X8_111 mk_X9_sameName (by first | rfl | assumption) rfl rfl rfl rfl rfl ?_
        rintro _ _ _ _ ⟨rfl, rfl, rfl, rfl⟩
        refine hv_istore_n dX8_checkNewName_46 rfl rfl ?_
        refine hv_iinc dX8_checkNewName_47 rfl (nI_1 j) rfl rfl ?_
        refine hv_goto (tgt := 17) dX8_checkNewName_50 (by decide) ?_
        refine ih (j + 1) _ (by omega) ?_
        rw [b1, Bool.false_or, fnd, b3]
        by_cases c : dg f n (sMn S j) = dg f n i
        · rw [decide_eq_true c]; dsimp only; rw [if_pos c]; rfl
        · rw [decide_eq_false c]; dsimp only; rw [if_neg c]; rfl
  cases hq : fnd (dg f n) (sHn S) (dg f n i) (sH S) with
  | none =>
    refine hv_aload_n dX8_checkNewName_0 rfl ?_
    refine hv_iload_n dX8_checkNewName_1 rfl ?_
    refine hv_cv1 (c_houseNamed ht hn' hr hk) dX8_checkNewName_2 ml_X8_105 mk_X8_houseNamed (by first | rfl | assumption) rfl rfl rfl rfl rfl ?_
    rintro _ _ _ _ ⟨rfl, rfl, rfl, rfl⟩
    rw [hq]
    refine hv_iconst (v := -1) dX8_checkNewName_5 (by decide) ?_
    refine hv_icmp_eq (tgt := 13) dX8_checkNewName_6 (by decide) (fun c_6 => ?_) (fun c_6 => absurd (rfl) c_6)
    refine hv_iconst (v := 0) dX8_checkNewName_13 (by decide) ?_
    refine hv_istore_n dX8_checkNewName_14 rfl rfl ?_
    refine hv_iconst (v := 0) dX8_checkNewName_15 (by decide) ?_
    refine hv_istore_n dX8_checkNewName_16 rfl rfl ?_
    exact loop (sM S) 0 false (by omega) (by rw [hq]; rfl)
  | some j =>
    have hj := (fnd_lt _ j hq).1
    refine hv_aload_n dX8_checkNewName_0 rfl ?_
    refine hv_iload_n dX8_checkNewName_1 rfl ?_
    refine hv_cv1 (c_houseNamed ht hn' hr hk) dX8_checkNewName_2 ml_X8_105 mk_X8_houseNamed (by first | rfl | assumption) rfl rfl rfl rfl rfl ?_
    rintro _ _ _ _ ⟨rfl, rfl, rfl, rfl⟩
    rw [hq, show oN (some j) = nI j from rfl]
    refine hv_iconst (v := -1) dX8_checkNewName_5 (by decide) ?_
    refine hv_icmp_eq (tgt := 13) dX8_checkNewName_6 (by decide) (fun c_6 => absurd c_6 ((fun q => nI_pos (n := j) (by omega) (by rw [q]; decide)))) (fun c_6 => ?_)
    refine hv_iconst (v := 1) dX8_checkNewName_9 (by decide) ?_
    refine hv_goto (tgt := 14) dX8_checkNewName_10 (by decide) ?_
    refine hv_istore_n dX8_checkNewName_14 rfl rfl ?_
    refine hv_iconst (v := 0) dX8_checkNewName_15 (by decide) ?_
    refine hv_istore_n dX8_checkNewName_16 rfl rfl ?_
    exact loop (sM S) 0 true (by omega) (by rw [hq]; rfl)
theorem c_number2 {f : hF} {n i most : Nat} {o : Option (Nat × Nat)} (ht : tlC f n σ) (hr : rel f n i) (hk : kd f n i = 24) (hm : most ≤ 9999) (hs : tSt o σ) : hCal G (m_X8_number (hQp [8] (some (.int (nI (vl f n i)))) (rr 38 51 x (some 51)) σ τ (fun σ' => k8 σ σ' ∧ tSt (if most < vl f n i then orE o (5, i) else o) σ'))) [.ref (hgA G 8), .int (nI i), .int (nI most)] shp (rr 38 51 x (some 51)) σ τ := by
  have hi := hr.1
  have hv := (kd_int hk).2
  refine hv_enter pn_X8 rfl ?_
  refine hv_aload_n dX8_number_0 rfl ?_
  refine hv_getr dX8_number_1 fl_X8_18 (by first | rfl | assumption) rfl (by first | rfl | assumption) ?_
  refine hv_iload_n dX8_number_4 rfl ?_
  refine hv_cv1 (c_tvalue ht.2.2.2 hr) dX8_number_5 ml_X8_77 mk_X9_value (by first | rfl | assumption) rfl rfl rfl rfl rfl ?_
  rintro _ _ _ _ ⟨rfl, rfl, rfl, rfl⟩
  refine hv_istore_n dX8_number_8 rfl rfl ?_
  refine hv_iload_n dX8_number_9 rfl ?_
  refine hv_iload_n dX8_number_10 rfl ?_
  refine hv_icmp_le (tgt := 20) dX8_number_11 (by decide) (fun c_11 => ?_) (fun c_11 => ?_)
  · rw [if_neg (show ¬ most < vl f n i from fun q => nI_ge q (by omega) c_11)]
    refine hv_iload_n dX8_number_20 rfl ?_
    refine hv_iret dX8_number_21 rfl ?_
    first
      | exact ⟨rfl, rfl, rfl, a1, a2, a3⟩
      | exact ⟨rfl, rfl, rfl, fun _ _ => rfl, k8_rf, hs⟩
  · rw [if_pos (show most < vl f n i from (nI_ltI (by omega) (by omega)).mp (Int32.not_le.mp c_11))]
    refine hv_aload_n dX8_number_14 rfl ?_
    refine hv_iconst (v := 5) dX8_number_15 (by decide) ?_
    refine hv_iload_n dX8_number_16 rfl ?_
    refine hv_cv2 (c_tfail (k := 5) (t := i) hs (Or.inr (Or.inr rfl))) dX8_number_17 ml_X8_80 mk_X8_fail (by first | rfl | assumption) rfl rfl rfl rfl rfl ?_
    rintro _ _ σ1 _ ⟨rfl, rfl, rfl, a1, a2, a3⟩
    refine hv_iload_n dX8_number_20 rfl ?_
    refine hv_iret dX8_number_21 rfl ?_
    first
      | exact ⟨rfl, rfl, rfl, a1, a2, a3⟩
      | exact ⟨rfl, rfl, rfl, fun _ _ => rfl, k8_rf, hs⟩
theorem c_isTellEnd {f : hF} {n i : Nat} (ht : tlC f n σ) (hr : rel f n i) : hCal G (m_X8_isTellEnd (hEq (some (.int (bI (decide (kd f n i = 27 ∨ kd f n i = 25))))) (rr 38 51 x (some 51)) σ τ)) [.ref (hgA G 8), .int (nI i)] shp (rr 38 51 x (some 51)) σ τ := by
  have hkl := kd_le f n i
  refine hv_enter pn_X8 rfl ?_
  refine hv_aload_n dX8_isTellEnd_0 rfl ?_
  refine hv_getr dX8_isTellEnd_1 fl_X8_18 (by first | rfl | assumption) rfl (by first | rfl | assumption) ?_
  refine hv_iload_n dX8_isTellEnd_4 rfl ?_
  refine hv_cv1 (c_kind ht.2.2.2 hr) dX8_isTellEnd_5 ml_X8_33 mk_X9_kind (by first | rfl | assumption) rfl rfl rfl rfl rfl ?_
  rintro _ _ _ _ ⟨rfl, rfl, rfl, rfl⟩
  refine hv_bipush (v := 27) dX8_isTellEnd_8 (by decide) ?_
  refine hv_icmp_eq (tgt := 26) dX8_isTellEnd_10 (by decide) (fun c_10 => ?_) (fun c_10 => ?_)
  · refine hv_iconst (v := 1) dX8_isTellEnd_26 (by decide) ?_
    refine hv_goto (tgt := 31) dX8_isTellEnd_27 (by decide) ?_
    refine hv_zret dX8_isTellEnd_31 rfl (by first | exact Or.inl rfl | exact Or.inr rfl | assumption) ?_
    first
      | (rw [decide_eq_false (fun q => q.elim (fun q => c_10 (by rw [q]; rfl)) (fun q => c_23 (by rw [q]; rfl)))]; exact ⟨rfl, rfl, rfl, rfl⟩)
      | (rw [decide_eq_true (Or.inr ((nI_eq (b := 25) (by omega) (by decide)).mp c_23))]; exact ⟨rfl, rfl, rfl, rfl⟩)
      | (rw [decide_eq_true (Or.inl ((nI_eq (b := 27) (by omega) (by decide)).mp c_10))]; exact ⟨rfl, rfl, rfl, rfl⟩)
  · refine hv_aload_n dX8_isTellEnd_13 rfl ?_
    refine hv_getr dX8_isTellEnd_14 fl_X8_18 (by first | rfl | assumption) rfl (by first | rfl | assumption) ?_
    refine hv_iload_n dX8_isTellEnd_17 rfl ?_
    refine hv_cv1 (c_kind ht.2.2.2 hr) dX8_isTellEnd_18 ml_X8_33 mk_X9_kind (by first | rfl | assumption) rfl rfl rfl rfl rfl ?_
    rintro _ _ _ _ ⟨rfl, rfl, rfl, rfl⟩
    refine hv_bipush (v := 25) dX8_isTellEnd_21 (by decide) ?_
    refine hv_icmp_ne (tgt := 30) dX8_isTellEnd_23 (by decide) (fun c_23 => ?_) (fun c_23 => ?_)
    · refine hv_iconst (v := 0) dX8_isTellEnd_30 (by decide) ?_
      refine hv_zret dX8_isTellEnd_31 rfl (by first | exact Or.inl rfl | exact Or.inr rfl | assumption) ?_
      first
        | (rw [decide_eq_false (fun q => q.elim (fun q => c_10 (by rw [q]; rfl)) (fun q => c_23 (by rw [q]; rfl)))]; exact ⟨rfl, rfl, rfl, rfl⟩)
        | (rw [decide_eq_true (Or.inr ((nI_eq (b := 25) (by omega) (by decide)).mp c_23))]; exact ⟨rfl, rfl, rfl, rfl⟩)
        | (rw [decide_eq_true (Or.inl ((nI_eq (b := 27) (by omega) (by decide)).mp c_10))]; exact ⟨rfl, rfl, rfl, rfl⟩)
    · refine hv_iconst (v := 1) dX8_isTellEnd_26 (by decide) ?_
      refine hv_goto (tgt := 31) dX8_isTellEnd_27 (by decide) ?_
      refine hv_zret dX8_isTellEnd_31 rfl (by first | exact Or.inl rfl | exact Or.inr rfl | assumption) ?_
      first
        | (rw [decide_eq_false (fun q => q.elim (fun q => c_10 (by rw [q]; rfl)) (fun q => c_23 (by rw [q]; rfl)))]; exact ⟨rfl, rfl, rfl, rfl⟩)
        | (rw [decide_eq_true (Or.inr ((nI_eq (b := 25) (by omega) (by decide)).mp c_23))]; exact ⟨rfl, rfl, rfl, rfl⟩)
        | (rw [decide_eq_true (Or.inl ((nI_eq (b := 27) (by omega) (by decide)).mp c_10))]; exact ⟨rfl, rfl, rfl, rfl⟩)
/-- from the word to behind the ; -/
theorem c_skipTell {f : hF} {n s e : Nat} (ht : tlC f n σ) (hr : rel f n s) (he : e ≤ 400) (hu : upT (kd f n) s e) (h4 : σ 8 4 = nI s) : hCal G (m_X8_skipTell (hQp [8] none (rr 38 51 x (some 51)) σ τ (fun σ' => σ' 8 = upd (σ 8) 4 (nI e)))) [.ref (hgA G 8)] shp (rr 38 51 x (some 51)) σ τ := by
  obtain ⟨u1, u2, u3⟩ := hu
  have hrl : ∀ j, s ≤ j → j ≤ e - 1 → rel f n j := fun j j1 j2 => ⟨by omega, fun i hi => if c : i < s then hr.2 i c else ⟨(u3 i (by omega) (by omega)).1, (u3 i (by omega) (by omega)).2.1⟩⟩
  refine hv_enter pn_X8 rfl ?_
  have loop : ∀ k i j (σ1 : hS), j + k = e - 1 → s ≤ j → i + s = j → (∀ c, c ∉ [8] → σ1 c = σ c) → σ1 8 = upd (σ 8) 4 (nI j) → hV G (m_X8_skipTell (hQp [8] none (rr 38 51 x (some 51)) σ τ (fun σ' => σ' 8 = upd (σ 8) 4 (nI e)))) 0 0 shp 2 [some (.ref (hgA G 8)), some (.int (nI i))] [] (rr 38 51 x (some 51)) σ1 τ := by
    intro k
    induction k with
    | zero =>
      intro i j σ1 hk hj hi hσ h8
      obtain rfl : j = e - 1 := by omega
      have e4 : σ1 8 4 = nI (e - 1) := by rw [h8, pk_us]
      refine hv_iload_n dX8_skipTell_2 rfl ?_
      refine hv_sipush (v := 400) dX8_skipTell_3 (by decide) ?_
      refine hv_icmp_gt (tgt := 36) dX8_skipTell_6 (by decide) (fun c_6 => absurd c_6 ((nI_nlt (a := 400) (by omega) (by decide)))) (fun c_6 => ?_)
      refine hv_aload_n dX8_skipTell_9 rfl ?_
      refine hv_aload_n dX8_skipTell_10 rfl ?_
      refine hv_geti dX8_skipTell_11 fl_X8_26 (by first | rfl | assumption) rfl ?_
      rw [e4]
      refine hv_cv1 (c_isTellEnd (tlC_of ht hσ rfl) (hrl (e - 1) hj (Nat.le_refl _))) dX8_skipTell_14 ml_X8_58 mk_X8_isTellEnd (by first | rfl | assumption) rfl rfl rfl rfl rfl ?_
      rintro _ _ _ _ ⟨rfl, rfl, rfl, rfl⟩
      rw [decide_eq_true (Or.inl u2)]
      refine hv_if_ne (tgt := 36) dX8_skipTell_17 (by decide) (fun c_17 => ?_) (fun c_17 => absurd c_17 ((show ¬ bI true = 0 by decide)))
      refine hv_aload_n dX8_skipTell_36 rfl ?_
      refine hv_dup dX8_skipTell_37 rfl ?_
      refine hv_geti dX8_skipTell_38 fl_X8_26 (by first | rfl | assumption) rfl ?_
      rw [e4]
      refine hv_iconst (v := 1) dX8_skipTell_41 (by decide) ?_
      refine hv_iadd dX8_skipTell_42 ?_
      rw [nI_1, show e - 1 + 1 = e by omega]
      refine hv_puti dX8_skipTell_43 fl_X8_26 (by first | rfl | assumption) rfl rfl rfl ?_
      refine hv_vret dX8_skipTell_46 rfl ?_
      exact ⟨rfl, rfl, rfl, off_up hσ (by decide), by show va_up σ1 8 _ 8 = _; rw [hup_eq, h8, upd_up]⟩
    | succ k ih =>
      intro i j σ1 hk hj hi hσ h8
      have e4 : σ1 8 4 = nI j := by rw [h8, pk_us]
      have hc := u3 j hj (by omega)
      refine hv_iload_n dX8_skipTell_2 rfl ?_
      refine hv_sipush (v := 400) dX8_skipTell_3 (by decide) ?_
      refine hv_icmp_gt (tgt := 36) dX8_skipTell_6 (by decide) (fun c_6 => absurd c_6 ((nI_nlt (a := 400) (by omega) (by decide)))) (fun c_6 => ?_)
      refine hv_aload_n dX8_skipTell_9 rfl ?_
      refine hv_aload_n dX8_skipTell_10 rfl ?_
      refine hv_geti dX8_skipTell_11 fl_X8_26 (by first | rfl | assumption) rfl ?_
      rw [e4]
      refine hv_cv1 (c_isTellEnd (tlC_of ht hσ rfl) (hrl j hj (by omega))) dX8_skipTell_14 ml_X8_58 mk_X8_isTellEnd (by first | rfl | assumption) rfl rfl rfl rfl rfl ?_
      rintro _ _ _ _ ⟨rfl, rfl, rfl, rfl⟩
      rw [decide_eq_false (fun q => q.elim hc.2.2 hc.1)]
      refine hv_if_ne (tgt := 36) dX8_skipTell_17 (by decide) (fun c_17 => absurd ((show bI false = 0 by decide)) c_17) (fun c_17 => ?_)
      refine hv_aload_n dX8_skipTell_20 rfl ?_
      refine hv_dup dX8_skipTell_21 rfl ?_
      refine hv_geti dX8_skipTell_22 fl_X8_26 (by first | rfl | assumption) rfl ?_
      rw [e4]
      refine hv_iconst (v := 1) dX8_skipTell_25 (by decide) ?_
      refine hv_iadd dX8_skipTell_26 ?_
      rw [nI_1]
      refine hv_puti dX8_skipTell_27 fl_X8_26 (by first | rfl | assumption) rfl rfl rfl ?_
      refine hv_iinc dX8_skipTell_30 rfl (nI_1 i) rfl rfl ?_
      refine hv_goto (tgt := 2) dX8_skipTell_33 (by decide) ?_
      exact ih (i + 1) (j + 1) _ (by omega) (by omega) (by omega) (off_up hσ (by decide)) (by rw [hup_eq, h8, upd_up])
  refine hv_iconst (v := 0) dX8_skipTell_0 (by decide) ?_
  refine hv_istore_n dX8_skipTell_1 rfl rfl ?_
  exact loop (e - 1 - s) 0 s σ (by omega) (Nat.le_refl _) (by omega) (fun _ _ => rfl) (upd_self h4).symm
end S83

