abbrev m_X12_plain (Q : hPo) : hMe := (hrm 0, 0, 0, yX12_plain, cX12_plain, 3, (none : Option FieldType), shp, none, Q)
section S9a
variable {G : hGl} {σ : hS} {τ : hT} {x y : Option Nat}
/-- a run of a row is c, the rest as it was -/
def rowZ (k lo n : Nat) (c : Int32) (σ σ' : hS) : Prop := (∀ i, i < n → σ' k (lo + i) = c) ∧ ∀ q, q < lo ∨ lo + n ≤ q → σ' k q = σ k q
theorem rowZ_s {k lo n : Nat} {c : Int32} {σ σ' : hS} {g : hF} (h : rowZ k lo n c σ σ') (hg : g = upd (σ' k) (lo + n) c) : (∀ i, i < n + 1 → g (lo + i) = c) ∧ ∀ q, q < lo ∨ lo + (n + 1) ≤ q → g q = σ k q := by
  subst hg
  refine ⟨fun i hi => ?_, fun q hq => ?_⟩
  · by_cases e : i = n
    · rw [e, pk_us]
    · rw [pk_un (by omega)]; exact h.1 i (by omega)
  · rw [pk_un (by omega)]; exact h.2 q (by omega)
abbrev xPl : List Nat := [74, 79, 80, 81, 83, 84, 85, 86, 87]
def pPl (L : Nat) (σ σ' : hS) : Prop := σ' 74 = upd (σ 74) L 0 ∧ σ' 80 = upd (σ 80) L 0 ∧ σ' 81 = upd (σ 81) L 0 ∧ σ' 83 = upd (σ 83) L 20 ∧ σ' 84 = upd (σ 84) L 0 ∧ σ' 85 = upd (σ 85) L 0 ∧ rowZ 79 (7 * L) 7 0 σ σ' ∧ rowZ 86 (5 * L) 5 0 σ σ' ∧ rowZ 87 (5 * L) 5 0 σ σ'
theorem d_plain {L : Nat} (hL : L < 2) : hCal G (m_X12_plain (hQp xPl none (rr 38 51 x y) σ τ (pPl L σ))) [.ref (hgA G 64), .int (nI L)] shp (rr 38 51 x y) σ τ := by
  have i7 : ∀ i, 7 * nI L + nI i = nI (7 * L + i) := fun i => ix7
  have i5 : ∀ i, 5 * nI L + nI i = nI (5 * L + i) := fun i => ix5
  refine hv_enter pn_X12 rfl ?_
  generalize hQ : hQp xPl none (rr 38 51 x y) σ τ (pPl L σ) = Q
  have l2 : ∀ k i (σ1 : hS), i + k = 5 → (∀ c, c ∉ xPl → σ1 c = σ c) → σ1 74 = upd (σ 74) L 0 → σ1 80 = upd (σ 80) L 0 → σ1 81 = upd (σ 81) L 0 → σ1 83 = upd (σ 83) L 20 → σ1 84 = upd (σ 84) L 0 → σ1 85 = upd (σ 85) L 0 → rowZ 79 (7 * L) 7 0 σ σ1 → rowZ 86 (5 * L) i 0 σ σ1 → rowZ 87 (5 * L) i 0 σ σ1 → hV G (m_X12_plain Q) 0 0 shp 71 [some (.ref (hgA G 64)), some (.int (nI L)), some (.int (nI i))] [] (rr 38 51 x y) σ1 τ := by
    intro k
    induction k with
    | zero =>
      intro i σ1 hi h1 h2 h3 h4 h5 h6 h7 h8 h9 h10
      obtain rfl : i = 5 := by omega
      refine hv_iload_n dX12_plain_71 rfl ?_
      refine hv_iconst (v := 5) dX12_plain_72 (by decide) ?_
      refine hv_icmp_ge (tgt := 104) dX12_plain_73 (by decide) (fun c_73 => ?_) (fun c_73 => absurd ((by decide)) c_73)
      refine hv_vret dX12_plain_104 rfl ?_
      rw [← hQ]; exact ⟨rfl, rfl, rfl, h1, h2, h3, h4, h5, h6, h7, h8, h9, h10⟩
    | succ k ih =>
      intro i σ1 hi h1 h2 h3 h4 h5 h6 h7 h8 h9 h10
      refine hv_iload_n dX12_plain_71 rfl ?_
      refine hv_iconst (v := 5) dX12_plain_72 (by decide) ?_
      refine hv_icmp_ge (tgt := 104) dX12_plain_73 (by decide) (fun c_73 => absurd c_73 ((nI_ge (b := 5) (by omega) (by decide)))) (fun c_73 => ?_)
      refine hv_aload_n dX12_plain_76 rfl ?_
      refine hv_getr dX12_plain_77 fl_X12_82 (by first | rfl | assumption) rfl (by first | rfl | assumption) ?_
      refine hv_iconst (v := 5) dX12_plain_80 (by decide) ?_
      refine hv_iload_n dX12_plain_81 rfl ?_
      refine hv_imul dX12_plain_82 ?_
      refine hv_iload_n dX12_plain_83 rfl ?_
      refine hv_iadd dX12_plain_84 ?_
      refine hv_iconst (v := 0) dX12_plain_85 (by decide) ?_
      refine hv_iast dX12_plain_86 (by first | rfl | assumption) (j := 5 * L + i) (i5 i) (by omega) (by first | decide | assumption) ?_
      refine hv_aload_n dX12_plain_87 rfl ?_
      refine hv_getr dX12_plain_88 fl_X12_85 (by first | rfl | assumption) rfl (by first | rfl | assumption) ?_
      refine hv_iconst (v := 5) dX12_plain_91 (by decide) ?_
      refine hv_iload_n dX12_plain_92 rfl ?_
      refine hv_imul dX12_plain_93 ?_
      refine hv_iload_n dX12_plain_94 rfl ?_
      refine hv_iadd dX12_plain_95 ?_
      refine hv_iconst (v := 0) dX12_plain_96 (by decide) ?_
      refine hv_iast dX12_plain_97 (by first | rfl | assumption) (j := 5 * L + i) (i5 i) (by omega) (by first | decide | assumption) ?_
      refine hv_iinc dX12_plain_98 rfl (nI_1 i) rfl rfl ?_
      refine hv_goto (tgt := 71) dX12_plain_101 (by decide) ?_
      exact ih (i + 1) _ (by omega) (off_up (off_up h1 (by decide)) (by decide)) h2 h3 h4 h5 h6 h7 h8 (rowZ_s h9 rfl) (rowZ_s h10 rfl)
  have l1 : ∀ k i (σ1 : hS), i + k = 7 → (∀ c, c ∉ xPl → σ1 c = σ c) → σ1 74 = upd (σ 74) L 0 → σ1 80 = upd (σ 80) L 0 → σ1 81 = upd (σ 81) L 0 → σ1 83 = upd (σ 83) L 20 → σ1 84 = upd (σ 84) L 0 → σ1 85 = upd (σ 85) L 0 → rowZ 79 (7 * L) i 0 σ σ1 → σ1 86 = σ 86 → σ1 87 = σ 87 → hV G (m_X12_plain Q) 0 0 shp 45 [some (.ref (hgA G 64)), some (.int (nI L)), some (.int (nI i))] [] (rr 38 51 x y) σ1 τ := by
    intro k
    induction k with
    | zero =>
      intro i σ1 hi h1 h2 h3 h4 h5 h6 h7 h8 h9 h10
      obtain rfl : i = 7 := by omega
      refine hv_iload_n dX12_plain_45 rfl ?_
      refine hv_bipush (v := 7) dX12_plain_46 (by decide) ?_
      refine hv_icmp_ge (tgt := 69) dX12_plain_48 (by decide) (fun c_48 => ?_) (fun c_48 => absurd ((by decide)) c_48)
      refine hv_iconst (v := 0) dX12_plain_69 (by decide) ?_
      refine hv_istore_n dX12_plain_70 rfl rfl ?_
      exact l2 5 0 σ1 (by omega) h1 h2 h3 h4 h5 h6 h7 h8 ⟨fun i hi => absurd hi (by omega), fun q _ => by rw [h9]⟩ ⟨fun i hi => absurd hi (by omega), fun q _ => by rw [h10]⟩
    | succ k ih =>
      intro i σ1 hi h1 h2 h3 h4 h5 h6 h7 h8 h9 h10
      refine hv_iload_n dX12_plain_45 rfl ?_
      refine hv_bipush (v := 7) dX12_plain_46 (by decide) ?_
      refine hv_icmp_ge (tgt := 69) dX12_plain_48 (by decide) (fun c_48 => absurd c_48 ((nI_ge (b := 7) (by omega) (by decide)))) (fun c_48 => ?_)
      refine hv_aload_n dX12_plain_51 rfl ?_
      refine hv_getr dX12_plain_52 fl_X12_61 (by first | rfl | assumption) rfl (by first | rfl | assumption) ?_
      refine hv_bipush (v := 7) dX12_plain_55 (by decide) ?_
      refine hv_iload_n dX12_plain_57 rfl ?_
      refine hv_imul dX12_plain_58 ?_
      refine hv_iload_n dX12_plain_59 rfl ?_
      refine hv_iadd dX12_plain_60 ?_
      refine hv_iconst (v := 0) dX12_plain_61 (by decide) ?_
      refine hv_iast dX12_plain_62 (by first | rfl | assumption) (j := 7 * L + i) (i7 i) (by omega) (by first | decide | assumption) ?_
      refine hv_iinc dX12_plain_63 rfl (nI_1 i) rfl rfl ?_
      refine hv_goto (tgt := 45) dX12_plain_66 (by decide) ?_
      exact ih (i + 1) _ (by omega) (off_up h1 (by decide)) h2 h3 h4 h5 h6 h7 (rowZ_s h8 rfl) h9 h10
  refine hv_aload_n dX12_plain_0 rfl ?_
  refine hv_getr dX12_plain_1 fl_X12_46 (by first | rfl | assumption) rfl (by first | rfl | assumption) ?_
  refine hv_iload_n dX12_plain_4 rfl ?_
  refine hv_iconst (v := 0) dX12_plain_5 (by decide) ?_
  refine hv_iast dX12_plain_6 (by first | rfl | assumption) rfl (by first | assumption | omega) (by first | decide | assumption) ?_
  refine hv_aload_n dX12_plain_7 rfl ?_
  refine hv_getr dX12_plain_8 fl_X12_64 (by first | rfl | assumption) rfl (by first | rfl | assumption) ?_
  refine hv_iload_n dX12_plain_11 rfl ?_
  refine hv_iconst (v := 0) dX12_plain_12 (by decide) ?_
  refine hv_iast dX12_plain_13 (by first | rfl | assumption) rfl (by first | assumption | omega) (by first | decide | assumption) ?_
  refine hv_aload_n dX12_plain_14 rfl ?_
  refine hv_getr dX12_plain_15 fl_X12_67 (by first | rfl | assumption) rfl (by first | rfl | assumption) ?_
  refine hv_iload_n dX12_plain_18 rfl ?_
  refine hv_iconst (v := 0) dX12_plain_19 (by decide) ?_
  refine hv_iast dX12_plain_20 (by first | rfl | assumption) rfl (by first | assumption | omega) (by first | decide | assumption) ?_
  refine hv_aload_n dX12_plain_21 rfl ?_
  refine hv_getr dX12_plain_22 fl_X12_73 (by first | rfl | assumption) rfl (by first | rfl | assumption) ?_
  refine hv_iload_n dX12_plain_25 rfl ?_
  refine hv_bipush (v := 20) dX12_plain_26 (by decide) ?_
  refine hv_iast dX12_plain_28 (by first | rfl | assumption) rfl (by first | assumption | omega) (by first | decide | assumption) ?_
  refine hv_aload_n dX12_plain_29 rfl ?_
  refine hv_getr dX12_plain_30 fl_X12_76 (by first | rfl | assumption) rfl (by first | rfl | assumption) ?_
  refine hv_iload_n dX12_plain_33 rfl ?_
  refine hv_iconst (v := 0) dX12_plain_34 (by decide) ?_
  refine hv_iast dX12_plain_35 (by first | rfl | assumption) rfl (by first | assumption | omega) (by first | decide | assumption) ?_
  refine hv_aload_n dX12_plain_36 rfl ?_
  refine hv_getr dX12_plain_37 fl_X12_79 (by first | rfl | assumption) rfl (by first | rfl | assumption) ?_
  refine hv_iload_n dX12_plain_40 rfl ?_
  refine hv_iconst (v := 0) dX12_plain_41 (by decide) ?_
  refine hv_iast dX12_plain_42 (by first | rfl | assumption) rfl (by first | assumption | omega) (by first | decide | assumption) ?_
  refine hv_iconst (v := 0) dX12_plain_43 (by decide) ?_
  refine hv_istore_n dX12_plain_44 rfl rfl ?_
  exact l1 7 0 _ (by omega) (off_up (off_up (off_up (off_up (off_up (off_up (fun _ _ => rfl) (by decide)) (by decide)) (by decide)) (by decide)) (by decide)) (by decide)) rfl rfl rfl rfl rfl rfl ⟨fun i hi => absurd hi (by omega), fun q _ => rfl⟩ rfl rfl
end S9a

