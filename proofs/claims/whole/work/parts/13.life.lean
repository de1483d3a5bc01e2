abbrev m_X2_clearedVars (Q : hPo) : hMe := (hrm 0, 0, 0, yX2_clearedVars, cX2_clearedVars, 5, (some (FieldType.array FieldType.int)), shp, none, Q)
abbrev m_X2_setVars (Q : hPo) : hMe := (hrm 0, 0, 0, yX2_setVars, cX2_setVars, 5, (none : Option FieldType), shp, none, Q)
abbrev m_X2_price (Q : hPo) : hMe := (hrm 2, 0, 0, yX2_price, cX2_price, 4, (some FieldType.int), shp, none, Q)
abbrev m_X2_eaten (Q : hPo) : hMe := (hrm 2, 0, 0, yX2_eaten, cX2_eaten, 6, (some FieldType.int), shp, none, Q)
abbrev m_X2_rotten (Q : hPo) : hMe := (hrm 2, 0, 0, yX2_rotten, cX2_rotten, 6, (some FieldType.int), shp, none, Q)
abbrev m_X2_caught (Q : hPo) : hMe := (hrm 2, 0, 0, yX2_caught, cX2_caught, 6, (some FieldType.int), shp, none, Q)
abbrev m_X2_votes (Q : hPo) : hMe := (hrm 2, 0, 0, yX2_votes, cX2_votes, 5, (some FieldType.int), shp, none, Q)
abbrev m_X2_isGlut (Q : hPo) : hMe := (hrm 2, 0, 0, yX2_isGlut, cX2_isGlut, 4, (some FieldType.boolean), shp, none, Q)
abbrev m_X2_lot (Q : hPo) : hMe := (hrm 1, 0, 0, yX2_lot, cX2_lot, 4, (some FieldType.int), shp, none, Q)
abbrev m_X2_mixed (Q : hPo) : hMe := (hrm 0, 0, 0, yX2_mixed, cX2_mixed, 3, (some FieldType.int), shp, none, Q)
abbrev m_X2_weigh (Q : hPo) : hMe := (hrm 0, 0, 0, yX2_weigh, cX2_weigh, 3, (none : Option FieldType), shp, none, Q)
def twC (σ : hS) (h sz : Nat) : hTw := (h, σ 41, σ 42, σ 43, σ 38 11, fun k v => lvalC (σ 46) (σ 47) sz v sz (σ 48 k) [])
def dyC (σ : hS) (S : Nat) : hDy := (σ (S + 1), σ (S + 2), σ (S + 3), σ (S + 4), σ (S + 5), σ S 6, σ S 7)
/-- the town's own numbers -/
def okC (σ : hS) (h sz : Nat) : Prop := σ 38 7 = nI h ∧ h ≤ 7 ∧ σ 45 5 = nI sz ∧ sz ≤ 410
def hQp (X : List Nat) (v : Option Value) (r : hR) (σ : hS) (τ : hT) (P : hS → Prop) : hPo := fun v' r' σ' τ' => v = v' ∧ r = r' ∧ τ = τ' ∧ (∀ k, k ∉ X → σ' k = σ k) ∧ P σ'
theorem nle7 {h : Nat} (q : h ≤ 7) : h < 2 ^ 31 := by omega
theorem tLC {σ σ1 : hS} {h sz k : Nat} {v : hF} (h6 : σ1 46 = σ 46) (h7 : σ1 47 = σ 47) (h8 : σ1 48 = σ 48) (hv : ∀ j, j < 9 → σ1 50 j = v j) : lvalC (σ1 46) (σ1 47) sz (σ1 50) sz (σ1 48 k) [] = tL (twC σ h sz) k v := by
  rw [h6, h7, h8, lvalC_ext _ _ _ hv]
  rfl
theorem lt9 {P : Nat → Prop} (h0 : P 0) (h1 : P 1) (h2 : P 2) (h3 : P 3) (h4 : P 4) (h5 : P 5) (h6 : P 6) (h7 : P 7) (h8 : P 8) : ∀ j, j < 9 → P j := by
  intro j hj
  rcases (show j = 0 ∨ j = 1 ∨ j = 2 ∨ j = 3 ∨ j = 4 ∨ j = 5 ∨ j = 6 ∨ j = 7 ∨ j = 8 by omega) with rfl | rfl | rfl | rfl | rfl | rfl | rfl | rfl | rfl <;> assumption
theorem hcl_0 (v : Int32) : hcl 0 0 v = 0 := by
  unfold hcl hmax hmin
  by_cases h : (0 : Int32) > v
  · rw [if_pos h, if_neg (Int32.not_lt.mpr (Int32.le_of_lt h))]
  · rw [if_neg h]; rfl
section S13
variable {G : hGl} {σ : hS} {τ : hT} {x y : Option Nat}
theorem c_mixed {a b : Int32} {r : hR} : hCal G (m_X2_mixed (hEq (some (.int (fMix a b))) r σ τ)) [.int a, .int b] shp r σ τ := by
  refine hv_enter pn_X2 rfl ?_
  refine hv_iload_n dX2_mixed_0 rfl ?_
  refine hv_iload_n dX2_mixed_1 rfl ?_
  refine hv_ixor dX2_mixed_2 ?_
  refine hv_ldc dX2_mixed_3 cn_X2_106 ?_
  refine hv_imul dX2_mixed_5 ?_
  refine hv_sipush (v := 12345) dX2_mixed_6 (by decide) ?_
  refine hv_iadd dX2_mixed_9 ?_
  refine hv_istore_n dX2_mixed_10 rfl rfl ?_
  refine hv_iload_n dX2_mixed_11 rfl ?_
  refine hv_iload_n dX2_mixed_12 rfl ?_
  refine hv_bipush (v := 15) dX2_mixed_13 (by decide) ?_
  refine hv_iushr dX2_mixed_15 ?_
  refine hv_ixor dX2_mixed_16 ?_
  refine hv_iret dX2_mixed_17 rfl ?_
  exact ⟨rfl, rfl, rfl, rfl⟩
theorem c_lot {n a b : Int32} {r : hR} (hn : ¬ n < 1) : hCal G (m_X2_lot (hEq (some (.int (hush (fMix (fMix a 115) b) 1 - hush (fMix (fMix a 115) b) 1 / n * n))) r σ τ)) [.int n, .int a, .int b] shp r σ τ := by
  refine hv_enter pn_X2 rfl ?_
  refine hv_iload_n dX2_lot_0 rfl ?_
  refine hv_bipush (v := 115) dX2_lot_1 (by decide) ?_
  refine hv_cs2 (c_mixed) dX2_lot_3 ml_X2_103 mk_X2_mixed rfl rfl rfl ?_
  rintro _ _ _ _ ⟨rfl, rfl, rfl, rfl⟩
  refine hv_iload_n dX2_lot_6 rfl ?_
  refine hv_cs2 (c_mixed) dX2_lot_7 ml_X2_103 mk_X2_mixed rfl rfl rfl ?_
  rintro _ _ _ _ ⟨rfl, rfl, rfl, rfl⟩
  refine hv_istore_n dX2_lot_10 rfl rfl ?_
  refine hv_iload_n dX2_lot_11 rfl ?_
  refine hv_iconst (v := 1) dX2_lot_12 (by decide) ?_
  refine hv_icmp_ge (tgt := 20) dX2_lot_13 (by decide) (fun c_13 => ?_) (fun c_13 => absurd ((Int32.not_lt.mp hn)) c_13)
  refine hv_iload_n dX2_lot_20 rfl ?_
  refine hv_iconst (v := 1) dX2_lot_21 (by decide) ?_
  refine hv_iushr dX2_lot_22 ?_
  refine hv_iload_n dX2_lot_23 rfl ?_
  refine hv_irem dX2_lot_24 (fun q => hn (by rw [q]; decide)) ?_
  refine hv_iret dX2_lot_25 rfl ?_
  exact ⟨rfl, rfl, rfl, rfl⟩
theorem c_isGlut {day sd : Int32} {h sz : Nat} : hCal G (m_X2_isGlut (fun v r' σ' τ' => (v = some (.int 1) ∧ fIsGlut (twC σ h sz) day sd ∨ v = some (.int 0) ∧ ¬ fIsGlut (twC σ h sz) day sd) ∧ rr 38 51 x y = r' ∧ σ = σ' ∧ τ = τ')) [.ref (hgA G 21), .ref (hgA G 38), .int day, .int sd] shp (rr 38 51 x y) σ τ := by
  refine hv_enter pn_X2 rfl ?_
  refine hv_bipush (v := 100) dX2_isGlut_0 (by decide) ?_
  refine hv_iload_n dX2_isGlut_2 rfl ?_
  refine hv_iconst (v := 4) dX2_isGlut_3 (by decide) ?_
  refine hv_iload_n dX2_isGlut_4 rfl ?_
  refine hv_imul dX2_isGlut_5 ?_
  refine hv_cs3 (c_lot (by decide)) dX2_isGlut_6 ml_X2_97 mk_X2_lot rfl rfl rfl ?_
  rintro _ _ _ _ ⟨rfl, rfl, rfl, rfl⟩
  refine hv_aload_n dX2_isGlut_9 rfl ?_
  refine hv_geti dX2_isGlut_10 fl_X2_100 (by first | rfl | assumption) rfl ?_
  refine hv_icmp_ge (tgt := 20) dX2_isGlut_13 (by decide) (fun c_13 => ?_) (fun c_13 => ?_)
  · have c13 : ¬ fIsGlut (twC σ h sz) day sd := Int32.not_lt.mpr c_13
    refine hv_iconst (v := 0) dX2_isGlut_20 (by decide) ?_
    refine hv_zret dX2_isGlut_21 rfl (by first | exact Or.inl rfl | exact Or.inr rfl | assumption) ?_
    first | exact ⟨Or.inl ⟨rfl, c13⟩, rfl, rfl, rfl⟩ | exact ⟨Or.inr ⟨rfl, c13⟩, rfl, rfl, rfl⟩
  · have c13 : fIsGlut (twC σ h sz) day sd := Int32.not_le.mp c_13
    refine hv_iconst (v := 1) dX2_isGlut_16 (by decide) ?_
    refine hv_goto (tgt := 21) dX2_isGlut_17 (by decide) ?_
    refine hv_zret dX2_isGlut_21 rfl (by first | exact Or.inl rfl | exact Or.inr rfl | assumption) ?_
    first | exact ⟨Or.inl ⟨rfl, c13⟩, rfl, rfl, rfl⟩ | exact ⟨Or.inr ⟨rfl, c13⟩, rfl, rfl, rfl⟩
theorem c_clearedVars_11 {all : Int32} : hCal G (m_X2_clearedVars (hQp [50] (some (.ref (hgA G 50))) (rr 38 51 x y) σ τ (fun σ' => ∀ j, j < 9 → σ' 50 j = vAll all (σ 11 6) j))) [.ref (hgA G 38), .ref (hgA G 11), .int all] shp (rr 38 51 x y) σ τ := by
  refine hv_enter pn_X2 rfl ?_
  have loop : ∀ k i (σ' : hS), i + k = 9 → (∀ c, c ∉ [50] → σ' c = σ c) → (∀ j, j < i → σ' 50 j = 0) → hV G (m_X2_clearedVars (hQp [50] (some (.ref (hgA G 50))) (rr 38 51 x y) σ τ (fun σ' => ∀ j, j < 9 → σ' 50 j = vAll all (σ 11 6) j))) 0 0 shp 11 [some (.ref (hgA G 38)), some (.ref (hgA G 11)), some (.int all), some (.ref (hgA G 50)), some (.int (nI i))] [] (rr 38 51 x y) σ' τ := by
    intro k
    induction k with
    | zero =>
      intro i σ' hi hσ h0
      obtain rfl : i = 9 := by omega
      refine hv_iload dX2_clearedVars_11 rfl ?_
      refine hv_bipush (v := 9) dX2_clearedVars_13 (by decide) ?_
      refine hv_icmp_ge (tgt := 29) dX2_clearedVars_15 (by decide) (fun c_15 => ?_) (fun c_15 => absurd ((by decide)) c_15)
      refine hv_aload_n dX2_clearedVars_29 rfl ?_
      refine hv_iconst (v := 1) dX2_clearedVars_30 (by decide) ?_
      refine hv_iload_n dX2_clearedVars_31 rfl ?_
      refine hv_iast dX2_clearedVars_32 (by first | rfl | assumption) (j := 1) rfl (by decide) (by first | decide | assumption) ?_
      refine hv_aload_n dX2_clearedVars_33 rfl ?_
      refine hv_iconst (v := 2) dX2_clearedVars_34 (by decide) ?_
      refine hv_aload_n dX2_clearedVars_35 rfl ?_
      refine hv_geti dX2_clearedVars_36 fl_X2_81 (by first | rfl | assumption) rfl ?_
      refine hv_iast dX2_clearedVars_39 (by first | rfl | assumption) (j := 2) rfl (by decide) (by first | decide | assumption) ?_
      refine hv_aload_n dX2_clearedVars_40 rfl ?_
      refine hv_aret dX2_clearedVars_41 rfl (by first | exact Or.inl ⟨_, rfl⟩ | exact Or.inr ⟨_, rfl⟩) ?_
      refine ⟨rfl, rfl, rfl, fun c hc => ?_, ?_⟩
      · rw [hva_ne (by simpa using hc), hva_ne (by simpa using hc)]; exact hσ c hc
      · have e : va_up σ' 50 (upd (σ' 50) 1 all) 11 = σ 11 := by rw [hva_ne (by decide)]; exact hσ 11 (by decide)
        rw [e]
        refine lt9 ?_ ?_ ?_ ?_ ?_ ?_ ?_ ?_ ?_ <;> simp [va_up, upd, vAll, h0]
    | succ k ih =>
      intro i σ' hi hσ h0
      refine hv_iload dX2_clearedVars_11 rfl ?_
      refine hv_bipush (v := 9) dX2_clearedVars_13 (by decide) ?_
      refine hv_icmp_ge (tgt := 29) dX2_clearedVars_15 (by decide) (fun c_15 => absurd c_15 ((nI_ge (b := 9) (by omega) (by decide)))) (fun c_15 => ?_)
      refine hv_aload_n dX2_clearedVars_18 rfl ?_
      refine hv_iload dX2_clearedVars_19 rfl ?_
      refine hv_iconst (v := 0) dX2_clearedVars_21 (by decide) ?_
      refine hv_iast dX2_clearedVars_22 (by first | rfl | assumption) rfl (by first | assumption | omega) (by first | decide | assumption) ?_
      refine hv_iinc dX2_clearedVars_23 rfl (nI_1 i) rfl rfl ?_
      refine hv_goto (tgt := 11) dX2_clearedVars_26 (by decide) ?_
      refine ih (i + 1) _ (by omega) (fun c hc => by rw [hva_ne (by simpa using hc)]; exact hσ c hc) (fun j hj => ?_)
      rw [hup_eq]
      by_cases e : j = i
      · subst e; exact pk_us
      · rw [pk_un e]; exact h0 j (by omega)
  refine hv_aload_n dX2_clearedVars_0 rfl ?_
  refine hv_getr dX2_clearedVars_1 fl_X2_54 (by first | rfl | assumption) rfl (by first | rfl | assumption) ?_
  refine hv_getr dX2_clearedVars_4 fl_X2_78 (by first | rfl | assumption) rfl (by first | rfl | assumption) ?_
  refine hv_astore_n dX2_clearedVars_7 rfl rfl ?_
  refine hv_iconst (v := 0) dX2_clearedVars_8 (by decide) ?_
  refine hv_istore dX2_clearedVars_9 rfl rfl ?_
  exact loop 9 0 σ (by omega) (fun _ _ => rfl) (fun j hj => absurd hj (by omega))
theorem c_setVars_11 {all : Int32} {a h sz : Nat} (ha : a < 7) : hCal G (m_X2_setVars (hQp [50] none (rr 38 51 x y) σ τ (fun σ' => ∀ j, j < 9 → σ' 50 j = vHs (twC σ h sz) (dyC σ 11) all a j))) [.ref (hgA G 38), .ref (hgA G 11), .int (nI a), .int all] shp (rr 38 51 x y) σ τ := by
  refine hv_enter pn_X2 rfl ?_
  refine hv_aload_n dX2_setVars_0 rfl ?_
  refine hv_getr dX2_setVars_1 fl_X2_54 (by first | rfl | assumption) rfl (by first | rfl | assumption) ?_
  refine hv_getr dX2_setVars_4 fl_X2_78 (by first | rfl | assumption) rfl (by first | rfl | assumption) ?_
  refine hv_astore dX2_setVars_7 rfl rfl ?_
  refine hv_aload dX2_setVars_9 rfl ?_
  refine hv_iconst (v := 0) dX2_setVars_11 (by decide) ?_
  refine hv_aload_n dX2_setVars_12 rfl ?_
  refine hv_getr dX2_setVars_13 fl_X2_68 (by first | rfl | assumption) rfl (by first | rfl | assumption) ?_
  refine hv_iload_n dX2_setVars_16 rfl ?_
  refine hv_iald dX2_setVars_17 (by first | rfl | assumption) rfl (by first | assumption | omega) (by first | decide | assumption) ?_
  refine hv_iast dX2_setVars_18 (by first | rfl | assumption) (j := 0) rfl (by decide) (by first | decide | assumption) ?_
  refine hv_aload dX2_setVars_19 rfl ?_
  refine hv_iconst (v := 1) dX2_setVars_21 (by decide) ?_
  refine hv_iload_n dX2_setVars_22 rfl ?_
  refine hv_iast dX2_setVars_23 (by first | rfl | assumption) (j := 1) rfl (by decide) (by first | decide | assumption) ?_
  refine hv_aload dX2_setVars_24 rfl ?_
  refine hv_iconst (v := 2) dX2_setVars_26 (by decide) ?_
  refine hv_aload_n dX2_setVars_27 rfl ?_
  refine hv_geti dX2_setVars_28 fl_X2_81 (by first | rfl | assumption) rfl ?_
  refine hv_iast dX2_setVars_31 (by first | rfl | assumption) (j := 2) rfl (by decide) (by first | decide | assumption) ?_
  refine hv_aload dX2_setVars_32 rfl ?_
  refine hv_iconst (v := 3) dX2_setVars_34 (by decide) ?_
  refine hv_aload_n dX2_setVars_35 rfl ?_
  refine hv_getr dX2_setVars_36 fl_X2_85 (by first | rfl | assumption) rfl (by first | rfl | assumption) ?_
  refine hv_iload_n dX2_setVars_39 rfl ?_
  refine hv_iald dX2_setVars_40 (by first | rfl | assumption) rfl (by first | assumption | omega) (by first | decide | assumption) ?_
  refine hv_iast dX2_setVars_41 (by first | rfl | assumption) (j := 3) rfl (by decide) (by first | decide | assumption) ?_
  refine hv_aload dX2_setVars_42 rfl ?_
  refine hv_iconst (v := 4) dX2_setVars_44 (by decide) ?_
  refine hv_aload_n dX2_setVars_45 rfl ?_
  refine hv_getr dX2_setVars_46 fl_X2_88 (by first | rfl | assumption) rfl (by first | rfl | assumption) ?_
  refine hv_iload_n dX2_setVars_49 rfl ?_
  refine hv_iald dX2_setVars_50 (by first | rfl | assumption) rfl (by first | assumption | omega) (by first | decide | assumption) ?_
  refine hv_iast dX2_setVars_51 (by first | rfl | assumption) (j := 4) rfl (by decide) (by first | decide | assumption) ?_
  refine hv_aload dX2_setVars_52 rfl ?_
  refine hv_iconst (v := 5) dX2_setVars_54 (by decide) ?_
  refine hv_aload_n dX2_setVars_55 rfl ?_
  refine hv_getr dX2_setVars_56 fl_X2_91 (by first | rfl | assumption) rfl (by first | rfl | assumption) ?_
  refine hv_iload_n dX2_setVars_59 rfl ?_
  refine hv_iald dX2_setVars_60 (by first | rfl | assumption) rfl (by first | assumption | omega) (by first | decide | assumption) ?_
  refine hv_iast dX2_setVars_61 (by first | rfl | assumption) (j := 5) rfl (by decide) (by first | decide | assumption) ?_
  refine hv_aload dX2_setVars_62 rfl ?_
  refine hv_bipush (v := 6) dX2_setVars_64 (by decide) ?_
  refine hv_aload_n dX2_setVars_66 rfl ?_
  refine hv_getr dX2_setVars_67 fl_X2_94 (by first | rfl | assumption) rfl (by first | rfl | assumption) ?_
  refine hv_iload_n dX2_setVars_70 rfl ?_
  refine hv_iald dX2_setVars_71 (by first | rfl | assumption) rfl (by first | assumption | omega) (by first | decide | assumption) ?_
  refine hv_iast dX2_setVars_72 (by first | rfl | assumption) (j := 6) rfl (by decide) (by first | decide | assumption) ?_
  refine hv_aload dX2_setVars_73 rfl ?_
  refine hv_bipush (v := 7) dX2_setVars_75 (by decide) ?_
  refine hv_aload_n dX2_setVars_77 rfl ?_
  refine hv_getr dX2_setVars_78 fl_X2_47 (by first | rfl | assumption) rfl (by first | rfl | assumption) ?_
  refine hv_iload_n dX2_setVars_81 rfl ?_
  refine hv_iald dX2_setVars_82 (by first | rfl | assumption) rfl (by first | assumption | omega) (by first | decide | assumption) ?_
  refine hv_iast dX2_setVars_83 (by first | rfl | assumption) (j := 7) rfl (by decide) (by first | decide | assumption) ?_
  refine hv_aload dX2_setVars_84 rfl ?_
  refine hv_bipush (v := 8) dX2_setVars_86 (by decide) ?_
  refine hv_iload_n dX2_setVars_88 rfl ?_
  refine hv_iast dX2_setVars_89 (by first | rfl | assumption) (j := 8) rfl (by decide) (by first | decide | assumption) ?_
  refine hv_vret dX2_setVars_90 rfl ?_
  refine ⟨rfl, rfl, rfl, fun c hc => ?_, ?_⟩
  · have e : c ≠ 50 := by simpa using hc
    simp [va_up, e]
  · refine lt9 ?_ ?_ ?_ ?_ ?_ ?_ ?_ ?_ ?_ <;> simp [va_up, upd, vHs, twC, dyC, dF, dC, dS, dA, dD, tU, tE]
theorem c_price_11 {h sz : Nat} (ok : okC σ h sz) (hS : σ 11 5 = nI h) : hCal G (m_X2_price (hQx [49, 50] (some (.int (fPrice (twC σ h sz) (dyC σ 11)))) (rr 38 51 x y) σ τ)) [.ref (hgA G 21), .ref (hgA G 38), .ref (hgA G 11)] shp (rr 38 51 x y) σ τ := by
  obtain ⟨k1, k2, k3, k4⟩ := ok
  refine hv_enter pn_X2 rfl ?_
  refine hv_aload_n dX2_price_0 rfl ?_
  refine hv_aload_n dX2_price_1 rfl ?_
  refine hv_aload_n dX2_price_2 rfl ?_
  refine hv_cv0 (c_allFish_11 hS k2) dX2_price_3 ml_X2_37 mk_X6_allFish (by first | rfl | assumption) rfl rfl rfl rfl rfl ?_
  rintro _ _ _ _ ⟨rfl, rfl, rfl, rfl⟩
  refine hv_cs3 (c_clearedVars_11) dX2_price_6 ml_X2_41 mk_X2_clearedVars rfl rfl rfl ?_
  rintro _ _ σ1 _ ⟨rfl, rfl, rfl, h1, h1b⟩
  refine hv_astore_n dX2_price_9 rfl rfl ?_
  refine hv_aload_n dX2_price_10 rfl ?_
  refine hv_bipush (v := 7) dX2_price_11 (by decide) ?_
  refine hv_aload_n dX2_price_13 rfl ?_
  refine hv_aload_n dX2_price_14 rfl ?_
  refine hv_getr dX2_price_15 fl_X2_47 (by first | rfl | assumption) rfl (by first | rfl | assumption) ?_
  refine hv_cv1 (c_sum rfl rfl (by decide) (by rw [h1 11 (by decide)]; exact hS) k2) dX2_price_18 ml_X2_50 mk_X6_sum (by first | rfl | assumption) rfl rfl rfl rfl rfl ?_
  rintro _ _ _ _ ⟨rfl, rfl, rfl, rfl⟩
  refine hv_iast dX2_price_21 (by first | rfl | assumption) (j := 7) rfl (by decide) (by first | decide | assumption) ?_
  refine hv_aload_n dX2_price_22 rfl ?_
  refine hv_getr dX2_price_23 fl_X2_54 (by first | rfl | assumption) rfl (by first | rfl | assumption) ?_
  refine hv_iconst (v := 0) dX2_price_26 (by decide) ?_
  refine hv_cv1 (c_value (k := 0) (by decide) (by rw [hva_ne (by decide), h1 45 (by decide)]; exact k3) k4) dX2_price_27 ml_X2_60 mk_X1_value (by first | rfl | assumption) rfl rfl rfl rfl rfl ?_
  rintro _ _ σ2 _ ⟨rfl, rfl, rfl, h2⟩
  refine hv_iconst (v := 1) dX2_price_30 (by decide) ?_
  refine hv_bipush (v := 99) dX2_price_31 (by decide) ?_
  refine hv_cs3 (c_within) dX2_price_33 ml_X2_64 mk_X2_within rfl rfl rfl ?_
  rintro _ _ _ _ ⟨rfl, rfl, rfl, rfl⟩
  refine hv_iret dX2_price_36 rfl ?_
  refine ⟨?_, rfl, rfl, fun c hc => ?_⟩
  · rw [tLC (σ := σ) (h := h) (v := upd (vAll (hsum (σ 12) h) (σ 11 6)) 7 (hsum (σ 15) h))]
    · rfl
    · rw [hva_ne (by decide)]; exact h1 46 (by decide)
    · rw [hva_ne (by decide)]; exact h1 47 (by decide)
    · rw [hva_ne (by decide)]; exact h1 48 (by decide)
    · intro j hj
      rw [hup_eq, h1 15 (by decide)]
      unfold upd
      by_cases e : j = 7
      · rw [if_pos e, if_pos e]
      · rw [if_neg e, if_neg e]; exact h1b j hj
  · simp only [List.mem_cons, List.not_mem_nil, or_false, not_or] at hc
    rw [h2 c (by simp [hc.1]), hva_ne hc.2]; exact h1 c (by simp [hc.2])
theorem c_votes_11 {h sz a : Nat} {all : Int32} (ok : okC σ h sz) (ha : a < 7) : hCal G (m_X2_votes (hQx [49, 50] (some (.int (fVotes (twC σ h sz) (dyC σ 11) all a))) (rr 38 51 x y) σ τ)) [.ref (hgA G 21), .ref (hgA G 38), .ref (hgA G 11), .int (nI a), .int all] shp (rr 38 51 x y) σ τ := by
  obtain ⟨k1, k2, k3, k4⟩ := ok
  refine hv_enter pn_X2 rfl ?_
  refine hv_aload_n dX2_votes_0 rfl ?_
  refine hv_aload_n dX2_votes_1 rfl ?_
  refine hv_iload_n dX2_votes_2 rfl ?_
  refine hv_iload dX2_votes_3 rfl ?_
  refine hv_cs4 (c_setVars_11 (h := h) (sz := sz) ha) dX2_votes_5 ml_X2_71 mk_X2_setVars rfl rfl rfl ?_
  rintro _ _ σ1 _ ⟨rfl, rfl, rfl, h1, h1b⟩
  refine hv_aload_n dX2_votes_8 rfl ?_
  refine hv_getr dX2_votes_9 fl_X2_54 (by first | rfl | assumption) rfl (by first | rfl | assumption) ?_
  refine hv_iconst (v := 3) dX2_votes_12 (by decide) ?_
  refine hv_cv1 (c_value (k := 3) (by decide) (by rw [h1 45 (by decide)]; exact k3) k4) dX2_votes_13 ml_X2_60 mk_X1_value (by first | rfl | assumption) rfl rfl rfl rfl rfl ?_
  rintro _ _ σ2 _ ⟨rfl, rfl, rfl, h2⟩
  refine hv_iconst (v := 0) dX2_votes_16 (by decide) ?_
  refine hv_sipush (v := 999) dX2_votes_17 (by decide) ?_
  refine hv_cs3 (c_within) dX2_votes_20 ml_X2_64 mk_X2_within rfl rfl rfl ?_
  rintro _ _ _ _ ⟨rfl, rfl, rfl, rfl⟩
  refine hv_iret dX2_votes_23 rfl ?_
  refine ⟨?_, rfl, rfl, fun c hc => ?_⟩
  · rw [tLC (σ := σ) (h := h) (h1 46 (by decide)) (h1 47 (by decide)) (h1 48 (by decide)) h1b]; rfl
  · simp only [List.mem_cons, List.not_mem_nil, or_false, not_or] at hc
    rw [h2 c (by simp [hc.1])]; exact h1 c (by simp [hc.2])
theorem c_eaten_11 {h sz a : Nat} {all : Int32} (ok : okC σ h sz) (ha : a < 7) : hCal G (m_X2_eaten (hQx [49, 50] (some (.int (fEats (twC σ h sz) (dyC σ 11) all a))) (rr 38 51 x y) σ τ)) [.ref (hgA G 21), .ref (hgA G 38), .ref (hgA G 11), .int (nI a), .int all] shp (rr 38 51 x y) σ τ := by
  obtain ⟨k1, k2, k3, k4⟩ := ok
  refine hv_enter pn_X2 rfl ?_
  refine hv_aload_n dX2_eaten_0 rfl ?_
  refine hv_getr dX2_eaten_1 fl_X2_68 (by first | rfl | assumption) rfl (by first | rfl | assumption) ?_
  refine hv_iload_n dX2_eaten_4 rfl ?_
  refine hv_iald dX2_eaten_5 (by first | rfl | assumption) rfl (by first | assumption | omega) (by first | decide | assumption) ?_
  refine hv_istore dX2_eaten_6 rfl rfl ?_
  refine hv_iload dX2_eaten_8 rfl ?_
  refine hv_if_ne (tgt := 15) dX2_eaten_10 (by decide) (fun c_10 => ?_) (fun c_10 => ?_)
  · refine hv_aload_n dX2_eaten_15 rfl ?_
    refine hv_aload_n dX2_eaten_16 rfl ?_
    refine hv_iload_n dX2_eaten_17 rfl ?_
    refine hv_iload dX2_eaten_18 rfl ?_
    refine hv_cs4 (c_setVars_11 (h := h) (sz := sz) ha) dX2_eaten_20 ml_X2_71 mk_X2_setVars rfl rfl rfl ?_
    rintro _ _ σ1 _ ⟨rfl, rfl, rfl, h1, h1b⟩
    refine hv_aload_n dX2_eaten_23 rfl ?_
    refine hv_getr dX2_eaten_24 fl_X2_54 (by first | rfl | assumption) rfl (by first | rfl | assumption) ?_
    refine hv_iconst (v := 1) dX2_eaten_27 (by decide) ?_
    refine hv_cv1 (c_value (k := 1) (by decide) (by rw [h1 45 (by decide)]; exact k3) k4) dX2_eaten_28 ml_X2_60 mk_X1_value (by first | rfl | assumption) rfl rfl rfl rfl rfl ?_
    rintro _ _ σ2 _ ⟨rfl, rfl, rfl, h2⟩
    refine hv_iconst (v := 0) dX2_eaten_31 (by decide) ?_
    refine hv_iload dX2_eaten_32 rfl ?_
    refine hv_cs3 (c_within) dX2_eaten_34 ml_X2_64 mk_X2_within rfl rfl rfl ?_
    rintro _ _ _ _ ⟨rfl, rfl, rfl, rfl⟩
    refine hv_iret dX2_eaten_37 rfl ?_
    refine ⟨?_, rfl, rfl, fun c hc => ?_⟩
    · rw [tLC (σ := σ) (h := h) (h1 46 (by decide)) (h1 47 (by decide)) (h1 48 (by decide)) h1b]; rfl
    · simp only [List.mem_cons, List.not_mem_nil, or_false, not_or] at hc
      rw [h2 c (by simp [hc.1])]; exact h1 c (by simp [hc.2])
  · refine hv_iconst (v := 0) dX2_eaten_13 (by decide) ?_
    refine hv_iret dX2_eaten_14 rfl ?_
    refine ⟨?_, rfl, rfl, fun c hc => rfl⟩
    have e : fEats (twC σ h sz) (dyC σ 11) all a = 0 := by
      unfold fEats
      rw [show dF (dyC σ 11) a = 0 from c_10, hcl_0]
    rw [e]
theorem c_rotten_11 {h sz a : Nat} {all : Int32} (ok : okC σ h sz) (ha : a < 7) : hCal G (m_X2_rotten (hQx [49, 50] (some (.int (fRots (twC σ h sz) (dyC σ 11) all a))) (rr 38 51 x y) σ τ)) [.ref (hgA G 21), .ref (hgA G 38), .ref (hgA G 11), .int (nI a), .int all] shp (rr 38 51 x y) σ τ := by
  obtain ⟨k1, k2, k3, k4⟩ := ok
  refine hv_enter pn_X2 rfl ?_
  refine hv_aload_n dX2_rotten_0 rfl ?_
  refine hv_iload_n dX2_rotten_1 rfl ?_
  refine hv_cv1 (c_fresh_11 ha) dX2_rotten_2 ml_X2_75 mk_X6_fresh (by first | rfl | assumption) rfl rfl rfl rfl rfl ?_
  rintro _ _ _ _ ⟨rfl, rfl, rfl, rfl⟩
  refine hv_istore dX2_rotten_5 rfl rfl ?_
  refine hv_iload dX2_rotten_7 rfl ?_
  refine hv_if_ne (tgt := 14) dX2_rotten_9 (by decide) (fun c_9 => ?_) (fun c_9 => ?_)
  · refine hv_aload_n dX2_rotten_14 rfl ?_
    refine hv_aload_n dX2_rotten_15 rfl ?_
    refine hv_iload_n dX2_rotten_16 rfl ?_
    refine hv_iload dX2_rotten_17 rfl ?_
    refine hv_cs4 (c_setVars_11 (h := h) (sz := sz) ha) dX2_rotten_19 ml_X2_71 mk_X2_setVars rfl rfl rfl ?_
    rintro _ _ σ1 _ ⟨rfl, rfl, rfl, h1, h1b⟩
    refine hv_aload_n dX2_rotten_22 rfl ?_
    refine hv_getr dX2_rotten_23 fl_X2_54 (by first | rfl | assumption) rfl (by first | rfl | assumption) ?_
    refine hv_iconst (v := 4) dX2_rotten_26 (by decide) ?_
    refine hv_cv1 (c_value (k := 4) (by decide) (by rw [h1 45 (by decide)]; exact k3) k4) dX2_rotten_27 ml_X2_60 mk_X1_value (by first | rfl | assumption) rfl rfl rfl rfl rfl ?_
    rintro _ _ σ2 _ ⟨rfl, rfl, rfl, h2⟩
    refine hv_iconst (v := 0) dX2_rotten_30 (by decide) ?_
    refine hv_iload dX2_rotten_31 rfl ?_
    refine hv_cs3 (c_within) dX2_rotten_33 ml_X2_64 mk_X2_within rfl rfl rfl ?_
    rintro _ _ _ _ ⟨rfl, rfl, rfl, rfl⟩
    refine hv_iret dX2_rotten_36 rfl ?_
    refine ⟨?_, rfl, rfl, fun c hc => ?_⟩
    · rw [tLC (σ := σ) (h := h) (h1 46 (by decide)) (h1 47 (by decide)) (h1 48 (by decide)) h1b]; rfl
    · simp only [List.mem_cons, List.not_mem_nil, or_false, not_or] at hc
      rw [h2 c (by simp [hc.1])]; exact h1 c (by simp [hc.2])
  · refine hv_iconst (v := 0) dX2_rotten_12 (by decide) ?_
    refine hv_iret dX2_rotten_13 rfl ?_
    refine ⟨?_, rfl, rfl, fun c hc => rfl⟩
    have e : fRots (twC σ h sz) (dyC σ 11) all a = 0 := by
      unfold fRots
      rw [show dF (dyC σ 11) a - dS (dyC σ 11) a = 0 from c_9, hcl_0]
    rw [e]
theorem c_caught_11 {h sz a : Nat} {all : Int32} (ok : okC σ h sz) (ha : a < 7) : hCal G (m_X2_caught (hQx [49, 50] (some (.int (fGlut (twC σ h sz) (dyC σ 11) all a))) (rr 38 51 x y) σ τ)) [.ref (hgA G 21), .ref (hgA G 38), .ref (hgA G 11), .int (nI a), .int all] shp (rr 38 51 x y) σ τ := by
  obtain ⟨k1, k2, k3, k4⟩ := ok
  refine hv_enter pn_X2 rfl ?_
  refine hv_aload_n dX2_caught_0 rfl ?_
  refine hv_aload_n dX2_caught_1 rfl ?_
  refine hv_iload dX2_caught_2 rfl ?_
  refine hv_cs3 (c_clearedVars_11) dX2_caught_4 ml_X2_41 mk_X2_clearedVars rfl rfl rfl ?_
  rintro _ _ σ1 _ ⟨rfl, rfl, rfl, h1, h1b⟩
  refine hv_astore dX2_caught_7 rfl rfl ?_
  refine hv_aload dX2_caught_9 rfl ?_
  refine hv_iconst (v := 0) dX2_caught_11 (by decide) ?_
  refine hv_aload_n dX2_caught_12 rfl ?_
  refine hv_getr dX2_caught_13 fl_X2_68 (by first | rfl | assumption) rfl (by first | rfl | assumption) ?_
  refine hv_iload_n dX2_caught_16 rfl ?_
  refine hv_iald dX2_caught_17 (by first | rfl | assumption) rfl (by first | assumption | omega) (by first | decide | assumption) ?_
  refine hv_iast dX2_caught_18 (by first | rfl | assumption) (j := 0) rfl (by decide) (by first | decide | assumption) ?_
  refine hv_aload dX2_caught_19 rfl ?_
  refine hv_bipush (v := 8) dX2_caught_21 (by decide) ?_
  refine hv_iload_n dX2_caught_23 rfl ?_
  refine hv_iast dX2_caught_24 (by first | rfl | assumption) (j := 8) rfl (by decide) (by first | decide | assumption) ?_
  refine hv_aload_n dX2_caught_25 rfl ?_
  refine hv_getr dX2_caught_26 fl_X2_54 (by first | rfl | assumption) rfl (by first | rfl | assumption) ?_
  refine hv_iconst (v := 2) dX2_caught_29 (by decide) ?_
  refine hv_cv1 (c_value (k := 2) (by decide) (by rw [hva_ne (by decide), hva_ne (by decide), h1 45 (by decide)]; exact k3) k4) dX2_caught_30 ml_X2_60 mk_X1_value (by first | rfl | assumption) rfl rfl rfl rfl rfl ?_
  rintro _ _ σ2 _ ⟨rfl, rfl, rfl, h2⟩
  refine hv_iconst (v := 0) dX2_caught_33 (by decide) ?_
  refine hv_bipush (v := 99) dX2_caught_34 (by decide) ?_
  refine hv_cs3 (c_within) dX2_caught_36 ml_X2_64 mk_X2_within rfl rfl rfl ?_
  rintro _ _ _ _ ⟨rfl, rfl, rfl, rfl⟩
  refine hv_iret dX2_caught_39 rfl ?_
  refine ⟨?_, rfl, rfl, fun c hc => ?_⟩
  · rw [tLC (σ := σ) (h := h) (v := upd (upd (vAll all (σ 11 6)) 0 (σ 12 a)) 8 (nI a))]
    · rfl
    · rw [hva_ne (by decide), hva_ne (by decide)]; exact h1 46 (by decide)
    · rw [hva_ne (by decide), hva_ne (by decide)]; exact h1 47 (by decide)
    · rw [hva_ne (by decide), hva_ne (by decide)]; exact h1 48 (by decide)
    · intro j hj
      rw [hup_eq, hup_eq, h1 12 (by decide)]
      unfold upd
      by_cases e : j = 8
      · rw [if_pos e, if_pos e]
      · rw [if_neg e, if_neg e]
        by_cases e : j = 0
        · rw [if_pos e, if_pos e]
        · rw [if_neg e, if_neg e]; exact h1b j hj
  · simp only [List.mem_cons, List.not_mem_nil, or_false, not_or] at hc
    rw [h2 c (by simp [hc.1]), hva_ne hc.2, hva_ne hc.2]; exact h1 c (by simp [hc.2])
theorem c_clearedVars_22 {all : Int32} : hCal G (m_X2_clearedVars (hQp [50] (some (.ref (hgA G 50))) (rr 38 51 x y) σ τ (fun σ' => ∀ j, j < 9 → σ' 50 j = vAll all (σ 22 6) j))) [.ref (hgA G 38), .ref (hgA G 22), .int all] shp (rr 38 51 x y) σ τ := by
  refine hv_enter pn_X2 rfl ?_
  have loop : ∀ k i (σ' : hS), i + k = 9 → (∀ c, c ∉ [50] → σ' c = σ c) → (∀ j, j < i → σ' 50 j = 0) → hV G (m_X2_clearedVars (hQp [50] (some (.ref (hgA G 50))) (rr 38 51 x y) σ τ (fun σ' => ∀ j, j < 9 → σ' 50 j = vAll all (σ 22 6) j))) 0 0 shp 11 [some (.ref (hgA G 38)), some (.ref (hgA G 22)), some (.int all), some (.ref (hgA G 50)), some (.int (nI i))] [] (rr 38 51 x y) σ' τ := by
    intro k
    induction k with
    | zero =>
      intro i σ' hi hσ h0
      obtain rfl : i = 9 := by omega
      refine hv_iload dX2_clearedVars_11 rfl ?_
      refine hv_bipush (v := 9) dX2_clearedVars_13 (by decide) ?_
      refine hv_icmp_ge (tgt := 29) dX2_clearedVars_15 (by decide) (fun c_15 => ?_) (fun c_15 => absurd ((by decide)) c_15)
      refine hv_aload_n dX2_clearedVars_29 rfl ?_
      refine hv_iconst (v := 1) dX2_clearedVars_30 (by decide) ?_
      refine hv_iload_n dX2_clearedVars_31 rfl ?_
      refine hv_iast dX2_clearedVars_32 (by first | rfl | assumption) (j := 1) rfl (by decide) (by first | decide | assumption) ?_
      refine hv_aload_n dX2_clearedVars_33 rfl ?_
      refine hv_iconst (v := 2) dX2_clearedVars_34 (by decide) ?_
      refine hv_aload_n dX2_clearedVars_35 rfl ?_
      refine hv_geti dX2_clearedVars_36 fl_X2_81 (by first | rfl | assumption) rfl ?_
      refine hv_iast dX2_clearedVars_39 (by first | rfl | assumption) (j := 2) rfl (by decide) (by first | decide | assumption) ?_
      refine hv_aload_n dX2_clearedVars_40 rfl ?_
      refine hv_aret dX2_clearedVars_41 rfl (by first | exact Or.inl ⟨_, rfl⟩ | exact Or.inr ⟨_, rfl⟩) ?_
      refine ⟨rfl, rfl, rfl, fun c hc => ?_, ?_⟩
      · rw [hva_ne (by simpa using hc), hva_ne (by simpa using hc)]; exact hσ c hc
      · have e : va_up σ' 50 (upd (σ' 50) 1 all) 22 = σ 22 := by rw [hva_ne (by decide)]; exact hσ 22 (by decide)
        rw [e]
        refine lt9 ?_ ?_ ?_ ?_ ?_ ?_ ?_ ?_ ?_ <;> simp [va_up, upd, vAll, h0]
    | succ k ih =>
      intro i σ' hi hσ h0
      refine hv_iload dX2_clearedVars_11 rfl ?_
      refine hv_bipush (v := 9) dX2_clearedVars_13 (by decide) ?_
      refine hv_icmp_ge (tgt := 29) dX2_clearedVars_15 (by decide) (fun c_15 => absurd c_15 ((nI_ge (b := 9) (by omega) (by decide)))) (fun c_15 => ?_)
      refine hv_aload_n dX2_clearedVars_18 rfl ?_
      refine hv_iload dX2_clearedVars_19 rfl ?_
      refine hv_iconst (v := 0) dX2_clearedVars_21 (by decide) ?_
      refine hv_iast dX2_clearedVars_22 (by first | rfl | assumption) rfl (by first | assumption | omega) (by first | decide | assumption) ?_
      refine hv_iinc dX2_clearedVars_23 rfl (nI_1 i) rfl rfl ?_
      refine hv_goto (tgt := 11) dX2_clearedVars_26 (by decide) ?_
      refine ih (i + 1) _ (by omega) (fun c hc => by rw [hva_ne (by simpa using hc)]; exact hσ c hc) (fun j hj => ?_)
      rw [hup_eq]
      by_cases e : j = i
      · subst e; exact pk_us
      · rw [pk_un e]; exact h0 j (by omega)
  refine hv_aload_n dX2_clearedVars_0 rfl ?_
  refine hv_getr dX2_clearedVars_1 fl_X2_54 (by first | rfl | assumption) rfl (by first | rfl | assumption) ?_
  refine hv_getr dX2_clearedVars_4 fl_X2_78 (by first | rfl | assumption) rfl (by first | rfl | assumption) ?_
  refine hv_astore_n dX2_clearedVars_7 rfl rfl ?_
  refine hv_iconst (v := 0) dX2_clearedVars_8 (by decide) ?_
  refine hv_istore dX2_clearedVars_9 rfl rfl ?_
  exact loop 9 0 σ (by omega) (fun _ _ => rfl) (fun j hj => absurd hj (by omega))
theorem c_setVars_22 {all : Int32} {a h sz : Nat} (ha : a < 7) : hCal G (m_X2_setVars (hQp [50] none (rr 38 51 x y) σ τ (fun σ' => ∀ j, j < 9 → σ' 50 j = vHs (twC σ h sz) (dyC σ 22) all a j))) [.ref (hgA G 38), .ref (hgA G 22), .int (nI a), .int all] shp (rr 38 51 x y) σ τ := by
  refine hv_enter pn_X2 rfl ?_
  refine hv_aload_n dX2_setVars_0 rfl ?_
  refine hv_getr dX2_setVars_1 fl_X2_54 (by first | rfl | assumption) rfl (by first | rfl | assumption) ?_
  refine hv_getr dX2_setVars_4 fl_X2_78 (by first | rfl | assumption) rfl (by first | rfl | assumption) ?_
  refine hv_astore dX2_setVars_7 rfl rfl ?_
  refine hv_aload dX2_setVars_9 rfl ?_
  refine hv_iconst (v := 0) dX2_setVars_11 (by decide) ?_
  refine hv_aload_n dX2_setVars_12 rfl ?_
  refine hv_getr dX2_setVars_13 fl_X2_68 (by first | rfl | assumption) rfl (by first | rfl | assumption) ?_
  refine hv_iload_n dX2_setVars_16 rfl ?_
  refine hv_iald dX2_setVars_17 (by first | rfl | assumption) rfl (by first | assumption | omega) (by first | decide | assumption) ?_
  refine hv_iast dX2_setVars_18 (by first | rfl | assumption) (j := 0) rfl (by decide) (by first | decide | assumption) ?_
  refine hv_aload dX2_setVars_19 rfl ?_
  refine hv_iconst (v := 1) dX2_setVars_21 (by decide) ?_
  refine hv_iload_n dX2_setVars_22 rfl ?_
  refine hv_iast dX2_setVars_23 (by first | rfl | assumption) (j := 1) rfl (by decide) (by first | decide | assumption) ?_
  refine hv_aload dX2_setVars_24 rfl ?_
  refine hv_iconst (v := 2) dX2_setVars_26 (by decide) ?_
  refine hv_aload_n dX2_setVars_27 rfl ?_
  refine hv_geti dX2_setVars_28 fl_X2_81 (by first | rfl | assumption) rfl ?_
  refine hv_iast dX2_setVars_31 (by first | rfl | assumption) (j := 2) rfl (by decide) (by first | decide | assumption) ?_
  refine hv_aload dX2_setVars_32 rfl ?_
  refine hv_iconst (v := 3) dX2_setVars_34 (by decide) ?_
  refine hv_aload_n dX2_setVars_35 rfl ?_
  refine hv_getr dX2_setVars_36 fl_X2_85 (by first | rfl | assumption) rfl (by first | rfl | assumption) ?_
  refine hv_iload_n dX2_setVars_39 rfl ?_
  refine hv_iald dX2_setVars_40 (by first | rfl | assumption) rfl (by first | assumption | omega) (by first | decide | assumption) ?_
  refine hv_iast dX2_setVars_41 (by first | rfl | assumption) (j := 3) rfl (by decide) (by first | decide | assumption) ?_
  refine hv_aload dX2_setVars_42 rfl ?_
  refine hv_iconst (v := 4) dX2_setVars_44 (by decide) ?_
  refine hv_aload_n dX2_setVars_45 rfl ?_
  refine hv_getr dX2_setVars_46 fl_X2_88 (by first | rfl | assumption) rfl (by first | rfl | assumption) ?_
  refine hv_iload_n dX2_setVars_49 rfl ?_
  refine hv_iald dX2_setVars_50 (by first | rfl | assumption) rfl (by first | assumption | omega) (by first | decide | assumption) ?_
  refine hv_iast dX2_setVars_51 (by first | rfl | assumption) (j := 4) rfl (by decide) (by first | decide | assumption) ?_
  refine hv_aload dX2_setVars_52 rfl ?_
  refine hv_iconst (v := 5) dX2_setVars_54 (by decide) ?_
  refine hv_aload_n dX2_setVars_55 rfl ?_
  refine hv_getr dX2_setVars_56 fl_X2_91 (by first | rfl | assumption) rfl (by first | rfl | assumption) ?_
  refine hv_iload_n dX2_setVars_59 rfl ?_
  refine hv_iald dX2_setVars_60 (by first | rfl | assumption) rfl (by first | assumption | omega) (by first | decide | assumption) ?_
  refine hv_iast dX2_setVars_61 (by first | rfl | assumption) (j := 5) rfl (by decide) (by first | decide | assumption) ?_
  refine hv_aload dX2_setVars_62 rfl ?_
  refine hv_bipush (v := 6) dX2_setVars_64 (by decide) ?_
  refine hv_aload_n dX2_setVars_66 rfl ?_
  refine hv_getr dX2_setVars_67 fl_X2_94 (by first | rfl | assumption) rfl (by first | rfl | assumption) ?_
  refine hv_iload_n dX2_setVars_70 rfl ?_
  refine hv_iald dX2_setVars_71 (by first | rfl | assumption) rfl (by first | assumption | omega) (by first | decide | assumption) ?_
  refine hv_iast dX2_setVars_72 (by first | rfl | assumption) (j := 6) rfl (by decide) (by first | decide | assumption) ?_
  refine hv_aload dX2_setVars_73 rfl ?_
  refine hv_bipush (v := 7) dX2_setVars_75 (by decide) ?_
  refine hv_aload_n dX2_setVars_77 rfl ?_
  refine hv_getr dX2_setVars_78 fl_X2_47 (by first | rfl | assumption) rfl (by first | rfl | assumption) ?_
  refine hv_iload_n dX2_setVars_81 rfl ?_
  refine hv_iald dX2_setVars_82 (by first | rfl | assumption) rfl (by first | assumption | omega) (by first | decide | assumption) ?_
  refine hv_iast dX2_setVars_83 (by first | rfl | assumption) (j := 7) rfl (by decide) (by first | decide | assumption) ?_
  refine hv_aload dX2_setVars_84 rfl ?_
  refine hv_bipush (v := 8) dX2_setVars_86 (by decide) ?_
  refine hv_iload_n dX2_setVars_88 rfl ?_
  refine hv_iast dX2_setVars_89 (by first | rfl | assumption) (j := 8) rfl (by decide) (by first | decide | assumption) ?_
  refine hv_vret dX2_setVars_90 rfl ?_
  refine ⟨rfl, rfl, rfl, fun c hc => ?_, ?_⟩
  · have e : c ≠ 50 := by simpa using hc
    simp [va_up, e]
  · refine lt9 ?_ ?_ ?_ ?_ ?_ ?_ ?_ ?_ ?_ <;> simp [va_up, upd, vHs, twC, dyC, dF, dC, dS, dA, dD, tU, tE]
theorem c_price_22 {h sz : Nat} (ok : okC σ h sz) (hS : σ 22 5 = nI h) : hCal G (m_X2_price (hQx [49, 50] (some (.int (fPrice (twC σ h sz) (dyC σ 22)))) (rr 38 51 x y) σ τ)) [.ref (hgA G 21), .ref (hgA G 38), .ref (hgA G 22)] shp (rr 38 51 x y) σ τ := by
  obtain ⟨k1, k2, k3, k4⟩ := ok
  refine hv_enter pn_X2 rfl ?_
  refine hv_aload_n dX2_price_0 rfl ?_
  refine hv_aload_n dX2_price_1 rfl ?_
  refine hv_aload_n dX2_price_2 rfl ?_
  refine hv_cv0 (c_allFish_22 hS k2) dX2_price_3 ml_X2_37 mk_X6_allFish (by first | rfl | assumption) rfl rfl rfl rfl rfl ?_
  rintro _ _ _ _ ⟨rfl, rfl, rfl, rfl⟩
  refine hv_cs3 (c_clearedVars_22) dX2_price_6 ml_X2_41 mk_X2_clearedVars rfl rfl rfl ?_
  rintro _ _ σ1 _ ⟨rfl, rfl, rfl, h1, h1b⟩
  refine hv_astore_n dX2_price_9 rfl rfl ?_
  refine hv_aload_n dX2_price_10 rfl ?_
  refine hv_bipush (v := 7) dX2_price_11 (by decide) ?_
  refine hv_aload_n dX2_price_13 rfl ?_
  refine hv_aload_n dX2_price_14 rfl ?_
  refine hv_getr dX2_price_15 fl_X2_47 (by first | rfl | assumption) rfl (by first | rfl | assumption) ?_
  refine hv_cv1 (c_sum rfl rfl (by decide) (by rw [h1 22 (by decide)]; exact hS) k2) dX2_price_18 ml_X2_50 mk_X6_sum (by first | rfl | assumption) rfl rfl rfl rfl rfl ?_
  rintro _ _ _ _ ⟨rfl, rfl, rfl, rfl⟩
  refine hv_iast dX2_price_21 (by first | rfl | assumption) (j := 7) rfl (by decide) (by first | decide | assumption) ?_
  refine hv_aload_n dX2_price_22 rfl ?_
  refine hv_getr dX2_price_23 fl_X2_54 (by first | rfl | assumption) rfl (by first | rfl | assumption) ?_
  refine hv_iconst (v := 0) dX2_price_26 (by decide) ?_
  refine hv_cv1 (c_value (k := 0) (by decide) (by rw [hva_ne (by decide), h1 45 (by decide)]; exact k3) k4) dX2_price_27 ml_X2_60 mk_X1_value (by first | rfl | assumption) rfl rfl rfl rfl rfl ?_
  rintro _ _ σ2 _ ⟨rfl, rfl, rfl, h2⟩
  refine hv_iconst (v := 1) dX2_price_30 (by decide) ?_
  refine hv_bipush (v := 99) dX2_price_31 (by decide) ?_
  refine hv_cs3 (c_within) dX2_price_33 ml_X2_64 mk_X2_within rfl rfl rfl ?_
  rintro _ _ _ _ ⟨rfl, rfl, rfl, rfl⟩
  refine hv_iret dX2_price_36 rfl ?_
  refine ⟨?_, rfl, rfl, fun c hc => ?_⟩
  · rw [tLC (σ := σ) (h := h) (v := upd (vAll (hsum (σ 23) h) (σ 22 6)) 7 (hsum (σ 26) h))]
    · rfl
    · rw [hva_ne (by decide)]; exact h1 46 (by decide)
    · rw [hva_ne (by decide)]; exact h1 47 (by decide)
    · rw [hva_ne (by decide)]; exact h1 48 (by decide)
    · intro j hj
      rw [hup_eq, h1 26 (by decide)]
      unfold upd
      by_cases e : j = 7
      · rw [if_pos e, if_pos e]
      · rw [if_neg e, if_neg e]; exact h1b j hj
  · simp only [List.mem_cons, List.not_mem_nil, or_false, not_or] at hc
    rw [h2 c (by simp [hc.1]), hva_ne hc.2]; exact h1 c (by simp [hc.2])
theorem c_votes_22 {h sz a : Nat} {all : Int32} (ok : okC σ h sz) (ha : a < 7) : hCal G (m_X2_votes (hQx [49, 50] (some (.int (fVotes (twC σ h sz) (dyC σ 22) all a))) (rr 38 51 x y) σ τ)) [.ref (hgA G 21), .ref (hgA G 38), .ref (hgA G 22), .int (nI a), .int all] shp (rr 38 51 x y) σ τ := by
  obtain ⟨k1, k2, k3, k4⟩ := ok
  refine hv_enter pn_X2 rfl ?_
  refine hv_aload_n dX2_votes_0 rfl ?_
  refine hv_aload_n dX2_votes_1 rfl ?_
  refine hv_iload_n dX2_votes_2 rfl ?_
  refine hv_iload dX2_votes_3 rfl ?_
  refine hv_cs4 (c_setVars_22 (h := h) (sz := sz) ha) dX2_votes_5 ml_X2_71 mk_X2_setVars rfl rfl rfl ?_
  rintro _ _ σ1 _ ⟨rfl, rfl, rfl, h1, h1b⟩
  refine hv_aload_n dX2_votes_8 rfl ?_
  refine hv_getr dX2_votes_9 fl_X2_54 (by first | rfl | assumption) rfl (by first | rfl | assumption) ?_
  refine hv_iconst (v := 3) dX2_votes_12 (by decide) ?_
  refine hv_cv1 (c_value (k := 3) (by decide) (by rw [h1 45 (by decide)]; exact k3) k4) dX2_votes_13 ml_X2_60 mk_X1_value (by first | rfl | assumption) rfl rfl rfl rfl rfl ?_
  rintro _ _ σ2 _ ⟨rfl, rfl, rfl, h2⟩
  refine hv_iconst (v := 0) dX2_votes_16 (by decide) ?_
  refine hv_sipush (v := 999) dX2_votes_17 (by decide) ?_
  refine hv_cs3 (c_within) dX2_votes_20 ml_X2_64 mk_X2_within rfl rfl rfl ?_
  rintro _ _ _ _ ⟨rfl, rfl, rfl, rfl⟩
  refine hv_iret dX2_votes_23 rfl ?_
  refine ⟨?_, rfl, rfl, fun c hc => ?_⟩
  · rw [tLC (σ := σ) (h := h) (h1 46 (by decide)) (h1 47 (by decide)) (h1 48 (by decide)) h1b]; rfl
  · simp only [List.mem_cons, List.not_mem_nil, or_false, not_or] at hc
    rw [h2 c (by simp [hc.1])]; exact h1 c (by simp [hc.2])
theorem c_eaten_22 {h sz a : Nat} {all : Int32} (ok : okC σ h sz) (ha : a < 7) : hCal G (m_X2_eaten (hQx [49, 50] (some (.int (fEats (twC σ h sz) (dyC σ 22) all a))) (rr 38 51 x y) σ τ)) [.ref (hgA G 21), .ref (hgA G 38), .ref (hgA G 22), .int (nI a), .int all] shp (rr 38 51 x y) σ τ := by
  obtain ⟨k1, k2, k3, k4⟩ := ok
  refine hv_enter pn_X2 rfl ?_
  refine hv_aload_n dX2_eaten_0 rfl ?_
  refine hv_getr dX2_eaten_1 fl_X2_68 (by first | rfl | assumption) rfl (by first | rfl | assumption) ?_
  refine hv_iload_n dX2_eaten_4 rfl ?_
  refine hv_iald dX2_eaten_5 (by first | rfl | assumption) rfl (by first | assumption | omega) (by first | decide | assumption) ?_
  refine hv_istore dX2_eaten_6 rfl rfl ?_
  refine hv_iload dX2_eaten_8 rfl ?_
  refine hv_if_ne (tgt := 15) dX2_eaten_10 (by decide) (fun c_10 => ?_) (fun c_10 => ?_)
  · refine hv_aload_n dX2_eaten_15 rfl ?_
    refine hv_aload_n dX2_eaten_16 rfl ?_
    refine hv_iload_n dX2_eaten_17 rfl ?_
    refine hv_iload dX2_eaten_18 rfl ?_
    refine hv_cs4 (c_setVars_22 (h := h) (sz := sz) ha) dX2_eaten_20 ml_X2_71 mk_X2_setVars rfl rfl rfl ?_
    rintro _ _ σ1 _ ⟨rfl, rfl, rfl, h1, h1b⟩
    refine hv_aload_n dX2_eaten_23 rfl ?_
    refine hv_getr dX2_eaten_24 fl_X2_54 (by first | rfl | assumption) rfl (by first | rfl | assumption) ?_
    refine hv_iconst (v := 1) dX2_eaten_27 (by decide) ?_
    refine hv_cv1 (c_value (k := 1) (by decide) (by rw [h1 45 (by decide)]; exact k3) k4) dX2_eaten_28 ml_X2_60 mk_X1_value (by first | rfl | assumption) rfl rfl rfl rfl rfl ?_
    rintro _ _ σ2 _ ⟨rfl, rfl, rfl, h2⟩
    refine hv_iconst (v := 0) dX2_eaten_31 (by decide) ?_
    refine hv_iload dX2_eaten_32 rfl ?_
    refine hv_cs3 (c_within) dX2_eaten_34 ml_X2_64 mk_X2_within rfl rfl rfl ?_
    rintro _ _ _ _ ⟨rfl, rfl, rfl, rfl⟩
    refine hv_iret dX2_eaten_37 rfl ?_
    refine ⟨?_, rfl, rfl, fun c hc => ?_⟩
    · rw [tLC (σ := σ) (h := h) (h1 46 (by decide)) (h1 47 (by decide)) (h1 48 (by decide)) h1b]; rfl
    · simp only [List.mem_cons, List.not_mem_nil, or_false, not_or] at hc
      rw [h2 c (by simp [hc.1])]; exact h1 c (by simp [hc.2])
  · refine hv_iconst (v := 0) dX2_eaten_13 (by decide) ?_
    refine hv_iret dX2_eaten_14 rfl ?_
    refine ⟨?_, rfl, rfl, fun c hc => rfl⟩
    have e : fEats (twC σ h sz) (dyC σ 22) all a = 0 := by
      unfold fEats
      rw [show dF (dyC σ 22) a = 0 from c_10, hcl_0]
    rw [e]
theorem c_rotten_22 {h sz a : Nat} {all : Int32} (ok : okC σ h sz) (ha : a < 7) : hCal G (m_X2_rotten (hQx [49, 50] (some (.int (fRots (twC σ h sz) (dyC σ 22) all a))) (rr 38 51 x y) σ τ)) [.ref (hgA G 21), .ref (hgA G 38), .ref (hgA G 22), .int (nI a), .int all] shp (rr 38 51 x y) σ τ := by
  obtain ⟨k1, k2, k3, k4⟩ := ok
  refine hv_enter pn_X2 rfl ?_
  refine hv_aload_n dX2_rotten_0 rfl ?_
  refine hv_iload_n dX2_rotten_1 rfl ?_
  refine hv_cv1 (c_fresh_22 ha) dX2_rotten_2 ml_X2_75 mk_X6_fresh (by first | rfl | assumption) rfl rfl rfl rfl rfl ?_
  rintro _ _ _ _ ⟨rfl, rfl, rfl, rfl⟩
  refine hv_istore dX2_rotten_5 rfl rfl ?_
  refine hv_iload dX2_rotten_7 rfl ?_
  refine hv_if_ne (tgt := 14) dX2_rotten_9 (by decide) (fun c_9 => ?_) (fun c_9 => ?_)
  · refine hv_aload_n dX2_rotten_14 rfl ?_
    refine hv_aload_n dX2_rotten_15 rfl ?_
    refine hv_iload_n dX2_rotten_16 rfl ?_
    refine hv_iload dX2_rotten_17 rfl ?_
    refine hv_cs4 (c_setVars_22 (h := h) (sz := sz) ha) dX2_rotten_19 ml_X2_71 mk_X2_setVars rfl rfl rfl ?_
    rintro _ _ σ1 _ ⟨rfl, rfl, rfl, h1, h1b⟩
    refine hv_aload_n dX2_rotten_22 rfl ?_
    refine hv_getr dX2_rotten_23 fl_X2_54 (by first | rfl | assumption) rfl (by first | rfl | assumption) ?_
    refine hv_iconst (v := 4) dX2_rotten_26 (by decide) ?_
    refine hv_cv1 (c_value (k := 4) (by decide) (by rw [h1 45 (by decide)]; exact k3) k4) dX2_rotten_27 ml_X2_60 mk_X1_value (by first | rfl | assumption) rfl rfl rfl rfl rfl ?_
    rintro _ _ σ2 _ ⟨rfl, rfl, rfl, h2⟩
    refine hv_iconst (v := 0) dX2_rotten_30 (by decide) ?_
    refine hv_iload dX2_rotten_31 rfl ?_
    refine hv_cs3 (c_within) dX2_rotten_33 ml_X2_64 mk_X2_within rfl rfl rfl ?_
    rintro _ _ _ _ ⟨rfl, rfl, rfl, rfl⟩
    refine hv_iret dX2_rotten_36 rfl ?_
    refine ⟨?_, rfl, rfl, fun c hc => ?_⟩
    · rw [tLC (σ := σ) (h := h) (h1 46 (by decide)) (h1 47 (by decide)) (h1 48 (by decide)) h1b]; rfl
    · simp only [List.mem_cons, List.not_mem_nil, or_false, not_or] at hc
      rw [h2 c (by simp [hc.1])]; exact h1 c (by simp [hc.2])
  · refine hv_iconst (v := 0) dX2_rotten_12 (by decide) ?_
    refine hv_iret dX2_rotten_13 rfl ?_
    refine ⟨?_, rfl, rfl, fun c hc => rfl⟩
    have e : fRots (twC σ h sz) (dyC σ 22) all a = 0 := by
      unfold fRots
      rw [show dF (dyC σ 22) a - dS (dyC σ 22) a = 0 from c_9, hcl_0]
    rw [e]
theorem c_caught_22 {h sz a : Nat} {all : Int32} (ok : okC σ h sz) (ha : a < 7) : hCal G (m_X2_caught (hQx [49, 50] (some (.int (fGlut (twC σ h sz) (dyC σ 22) all a))) (rr 38 51 x y) σ τ)) [.ref (hgA G 21), .ref (hgA G 38), .ref (hgA G 22), .int (nI a), .int all] shp (rr 38 51 x y) σ τ := by
  obtain ⟨k1, k2, k3, k4⟩ := ok
  refine hv_enter pn_X2 rfl ?_
  refine hv_aload_n dX2_caught_0 rfl ?_
  refine hv_aload_n dX2_caught_1 rfl ?_
  refine hv_iload dX2_caught_2 rfl ?_
  refine hv_cs3 (c_clearedVars_22) dX2_caught_4 ml_X2_41 mk_X2_clearedVars rfl rfl rfl ?_
  rintro _ _ σ1 _ ⟨rfl, rfl, rfl, h1, h1b⟩
  refine hv_astore dX2_caught_7 rfl rfl ?_
  refine hv_aload dX2_caught_9 rfl ?_
  refine hv_iconst (v := 0) dX2_caught_11 (by decide) ?_
  refine hv_aload_n dX2_caught_12 rfl ?_
  refine hv_getr dX2_caught_13 fl_X2_68 (by first | rfl | assumption) rfl (by first | rfl | assumption) ?_
  refine hv_iload_n dX2_caught_16 rfl ?_
  refine hv_iald dX2_caught_17 (by first | rfl | assumption) rfl (by first | assumption | omega) (by first | decide | assumption) ?_
  refine hv_iast dX2_caught_18 (by first | rfl | assumption) (j := 0) rfl (by decide) (by first | decide | assumption) ?_
  refine hv_aload dX2_caught_19 rfl ?_
  refine hv_bipush (v := 8) dX2_caught_21 (by decide) ?_
  refine hv_iload_n dX2_caught_23 rfl ?_
  refine hv_iast dX2_caught_24 (by first | rfl | assumption) (j := 8) rfl (by decide) (by first | decide | assumption) ?_
  refine hv_aload_n dX2_caught_25 rfl ?_
  refine hv_getr dX2_caught_26 fl_X2_54 (by first | rfl | assumption) rfl (by first | rfl | assumption) ?_
  refine hv_iconst (v := 2) dX2_caught_29 (by decide) ?_
  refine hv_cv1 (c_value (k := 2) (by decide) (by rw [hva_ne (by decide), hva_ne (by decide), h1 45 (by decide)]; exact k3) k4) dX2_caught_30 ml_X2_60 mk_X1_value (by first | rfl | assumption) rfl rfl rfl rfl rfl ?_
  rintro _ _ σ2 _ ⟨rfl, rfl, rfl, h2⟩
  refine hv_iconst (v := 0) dX2_caught_33 (by decide) ?_
  refine hv_bipush (v := 99) dX2_caught_34 (by decide) ?_
  refine hv_cs3 (c_within) dX2_caught_36 ml_X2_64 mk_X2_within rfl rfl rfl ?_
  rintro _ _ _ _ ⟨rfl, rfl, rfl, rfl⟩
  refine hv_iret dX2_caught_39 rfl ?_
  refine ⟨?_, rfl, rfl, fun c hc => ?_⟩
  · rw [tLC (σ := σ) (h := h) (v := upd (upd (vAll all (σ 22 6)) 0 (σ 23 a)) 8 (nI a))]
    · rfl
    · rw [hva_ne (by decide), hva_ne (by decide)]; exact h1 46 (by decide)
    · rw [hva_ne (by decide), hva_ne (by decide)]; exact h1 47 (by decide)
    · rw [hva_ne (by decide), hva_ne (by decide)]; exact h1 48 (by decide)
    · intro j hj
      rw [hup_eq, hup_eq, h1 23 (by decide)]
      unfold upd
      by_cases e : j = 8
      · rw [if_pos e, if_pos e]
      · rw [if_neg e, if_neg e]
        by_cases e : j = 0
        · rw [if_pos e, if_pos e]
        · rw [if_neg e, if_neg e]; exact h1b j hj
  · simp only [List.mem_cons, List.not_mem_nil, or_false, not_or] at hc
    rw [h2 c (by simp [hc.1]), hva_ne hc.2, hva_ne hc.2]; exact h1 c (by simp [hc.2])
end S13

