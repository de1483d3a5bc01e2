abbrev m_X3_isAhead (Q : hPo) : hMe := (hrm 1, 0, 0, yX3_isAhead, cX3_isAhead, 6, (some FieldType.boolean), shp, none, Q)
abbrev m_X3_fewestCalmed (Q : hPo) : hMe := (hrm 3, 0, 0, yX3_fewestCalmed, cX3_fewestCalmed, 8, (some FieldType.int), shp, none, Q)
def xCou : List Nat := [31, 32, 49, 50]
/-- who gave his votes to whom -/
def okX (σ : hS) (h : Nat) (pr : Nat → Option Nat) : Prop := ∀ a, a < h → σ 16 a = oN (pr a) ∧ ∀ j, pr a = some j → j < h
def pGat (σ : hS) (h : Nat) (V : hF) (pr : Nat → Option Nat) (i : Nat) (σ' : hS) : Prop := (∀ c, c ∉ [31, 32, 49, 50] → σ' c = σ c) ∧ σ' 31 4 = nI h ∧ σ' 31 5 = hsum V i ∧ ∀ a, a < 7 → σ' 32 a = fHad V pr i a
def fAhd (s o : Nat) : Bool := decide (nI (pop7 s) < nI (pop7 o)) || (decide (nI (pop7 s) = nI (pop7 o)) && !decide (nI s &&& ((nI s ^^^ nI o) &&& -(nI s ^^^ nI o)) = 0))
def oM : Option Nat → Int32
  | none => -2
  | some j => nI j
/-- the best set of calm ones so far -/
def fClm (e : Nat → Nat) (both kp : Nat) : Nat → Option Nat
  | 0 => none
  | n + 1 => if n &&& both = 0 ∧ pop7 n ≤ 3 ∧ (∀ b, fClm e both kp n = some b → fAhd n b = true) ∧ (e n).testBit kp = false then some n else fClm e both kp n
theorem fClm_lt (e : Nat → Nat) (both kp : Nat) : ∀ n b, fClm e both kp n = some b → b < n
  | 0, b, hb => by simp [fClm] at hb
  | n + 1, b, hb => by
    unfold fClm at hb
    split at hb
    · simp at hb; omega
    · have := fClm_lt e both kp n b hb; omega
section S22
variable {G : hGl} {σ : hS} {τ : hT} {x y : Option Nat}
theorem c_gather {h sz : Nat} {pr : Nat → Option Nat} {V : hF} (ok : okC σ h sz) (hs5 : σ 11 5 = nI h) (hpr : okX σ h pr) (hvv : V = fVotes (twC σ h sz) (dyC σ 11) (hsum (σ 12) h)) : hCal G (m_X0_gather (hQp [31, 32, 49, 50] none (rr 38 51 x y) σ τ (fun σ' => σ' 31 4 = nI h ∧ σ' 31 5 = hsum V h ∧ ∀ a, a < 7 → σ' 32 a = fHad V pr h a))) [.ref (hgA G 31), .ref (hgA G 38), .ref (hgA G 11)] shp (rr 38 51 x y) σ τ := by
  have k2 := ok.2.1
  refine hv_enter pn_X0 rfl ?_
  have loop2 : ∀ k i (σ' : hS), i + k = h → pGat σ h V pr i σ' → hV G (m_X0_gather (hQp [31, 32, 49, 50] none (rr 38 51 x y) σ τ (fun σ' => σ' 31 4 = nI h ∧ σ' 31 5 = hsum V h ∧ ∀ a, a < 7 → σ' 32 a = fHad V pr h a))) 0 0 shp 42 [some (.ref (hgA G 31)), some (.ref (hgA G 38)), some (.ref (hgA G 11)), some (.int (hsum (σ 12) h)), some (.int (nI i)), none, none] [] (rr 38 51 x y) σ' τ := by
    intro k
    induction k with
    | zero =>
      intro i σ' hi hp
      obtain rfl : i = h := by omega
      refine hv_iload dX0_gather_42 rfl ?_
      refine hv_aload_n dX0_gather_44 rfl ?_
      refine hv_geti dX0_gather_45 fl_X0_31 (by first | rfl | assumption) rfl ?_
      refine hv_icmp_ge (tgt := 122) dX0_gather_48 (by decide) (fun c_48 => ?_) (fun c_48 => absurd ((by rw [hp.2.1]; exact nI_le (Nat.le_refl _) (by omega))) c_48)
      refine hv_vret dX0_gather_122 rfl ?_
      exact ⟨rfl, rfl, rfl, hp⟩
    | succ k ih =>
      intro i σ' hi hp
      obtain ⟨hσ, h4, h5, h32⟩ := hp
      obtain ⟨hpi, hpj⟩ := hpr i (by omega)
      have hgt : (pr i).getD i < 7 := by
        cases hq : pr i with
        | none => simp; omega
        | some j => simp; have := hpj j hq; omega
      refine hv_iload dX0_gather_42 rfl ?_
      refine hv_aload_n dX0_gather_44 rfl ?_
      refine hv_geti dX0_gather_45 fl_X0_31 (by first | rfl | assumption) rfl ?_
      refine hv_icmp_ge (tgt := 122) dX0_gather_48 (by decide) (fun c_48 => absurd c_48 ((by rw [h4]; exact nI_ge (by omega) (by omega)))) (fun c_48 => ?_)
      refine hv_aload_n dX0_gather_51 rfl ?_
      refine hv_getr dX0_gather_52 fl_X0_21 (by first | rfl | assumption) rfl (by first | rfl | assumption) ?_
      refine hv_aload_n dX0_gather_55 rfl ?_
      refine hv_aload_n dX0_gather_56 rfl ?_
      refine hv_iload dX0_gather_57 rfl ?_
      refine hv_iload_n dX0_gather_59 rfl ?_
      refine hv_cv4 (c_votes_11 (okC_of ok hσ rfl) (by omega)) dX0_gather_60 ml_X0_41 mk_X2_votes (by first | rfl | assumption) rfl rfl rfl rfl rfl ?_
      rintro _ _ σ1 _ ⟨rfl, rfl, rfl, hq1⟩
      rw [twC_of hσ rfl, dyC_of hσ rfl, ← hvv]
      have hq2 : ∀ c, c ∉ [31, 32, 49, 50] → σ1 c = σ c := off_tr hσ hq1 (by decide) (by decide)
      have e16 : σ1 16 i = oN (pr i) := by rw [hq2 16 (by decide)]; exact hpi
      refine hv_istore dX0_gather_63 rfl rfl ?_
      refine hv_aload_n dX0_gather_65 rfl ?_
      refine hv_getr dX0_gather_66 fl_X0_47 (by first | rfl | assumption) rfl (by first | rfl | assumption) ?_
      refine hv_iload dX0_gather_69 rfl ?_
      refine hv_iald dX0_gather_71 (by first | rfl | assumption) rfl (by first | assumption | omega) (by first | decide | assumption) ?_
      rw [e16]
      refine hv_istore dX0_gather_72 rfl rfl ?_
      refine hv_aload_n dX0_gather_74 rfl ?_
      refine hv_getr dX0_gather_75 fl_X0_9 (by first | rfl | assumption) rfl (by first | rfl | assumption) ?_
      refine hv_iload dX0_gather_78 rfl ?_
      refine hv_if_lt (tgt := 97) dX0_gather_80 (by decide) (fun c_80 => ?_) (fun c_80 => ?_)
      · have hgd : nI i = nI ((pr i).getD i) := by
          cases hq : pr i with
          | none => rfl
          | some j => rw [hq] at c_80; exact absurd c_80 (nI_pos (by have := hpj j hq; omega))
        refine hv_iload dX0_gather_97 rfl ?_
        refine hv_str (st' := .int (nI ((pr i).getD i)) :: [.ref (hgA G 32)]) (by rw [hgd]) ?_
        refine hv_dup2 dX0_gather_99 rfl rfl ?_
        refine hv_iald dX0_gather_100 (by first | rfl | assumption) rfl (by first | assumption | omega) (by first | decide | assumption) ?_
        refine hv_iload dX0_gather_101 rfl ?_
        refine hv_iadd dX0_gather_103 ?_
        refine hv_iast dX0_gather_104 (by first | rfl | assumption) rfl (by first | assumption | omega) (by first | decide | assumption) ?_
        refine hv_aload_n dX0_gather_105 rfl ?_
        refine hv_dup dX0_gather_106 rfl ?_
        refine hv_geti dX0_gather_107 fl_X0_32 (by first | rfl | assumption) rfl ?_
        refine hv_iload dX0_gather_110 rfl ?_
        refine hv_iadd dX0_gather_112 ?_
        refine hv_puti dX0_gather_113 fl_X0_32 (by first | rfl | assumption) rfl rfl rfl ?_
        refine hv_iinc dX0_gather_116 rfl (nI_1 i) rfl rfl ?_
        refine hv_goto (tgt := 42) dX0_gather_119 (by decide) ?_
        refine hv_drop 5 (hv_drop 6 ?_)
        refine ih (i + 1) _ (by omega) ⟨off_up (off_up hq2 (by decide)) (by decide), ?_, ?_, fun a ha => ?_⟩
        · rw [hup_eq, pk_un (by decide), hva_ne (by decide), hq1 31 (by decide)]; exact h4
        · rw [hup_eq, pk_us, hva_ne (by decide), hq1 31 (by decide), h5]; rfl
        · rw [hva_ne (by decide), hup_eq, hq1 32 (by decide), fHad]
          by_cases e : a = (pr i).getD i
          · rw [e, pk_us, pk_us, h32 _ hgt]
          · rw [pk_un e, pk_un e]; exact h32 a ha
      · refine hv_iload dX0_gather_83 rfl ?_
        refine hv_aload_n dX0_gather_85 rfl ?_
        refine hv_geti dX0_gather_86 fl_X0_31 (by first | rfl | assumption) rfl ?_
        refine hv_icmp_ge (tgt := 97) dX0_gather_89 (by decide) (fun c_89 => ?_) (fun c_89 => ?_)
        · have hgd : nI i = nI ((pr i).getD i) := by
            cases hq : pr i with
            | none => rfl
            | some j =>
              rw [hq, hq1 31 (by decide), h4] at c_89
              exact absurd c_89 (nI_ge (hpj j hq) (by omega))
          refine hv_iload dX0_gather_97 rfl ?_
          refine hv_str (st' := .int (nI ((pr i).getD i)) :: [.ref (hgA G 32)]) (by rw [hgd]) ?_
          refine hv_dup2 dX0_gather_99 rfl rfl ?_
          refine hv_iald dX0_gather_100 (by first | rfl | assumption) rfl (by first | assumption | omega) (by first | decide | assumption) ?_
          refine hv_iload dX0_gather_101 rfl ?_
          refine hv_iadd dX0_gather_103 ?_
          refine hv_iast dX0_gather_104 (by first | rfl | assumption) rfl (by first | assumption | omega) (by first | decide | assumption) ?_
          refine hv_aload_n dX0_gather_105 rfl ?_
          refine hv_dup dX0_gather_106 rfl ?_
          refine hv_geti dX0_gather_107 fl_X0_32 (by first | rfl | assumption) rfl ?_
          refine hv_iload dX0_gather_110 rfl ?_
          refine hv_iadd dX0_gather_112 ?_
          refine hv_puti dX0_gather_113 fl_X0_32 (by first | rfl | assumption) rfl rfl rfl ?_
          refine hv_iinc dX0_gather_116 rfl (nI_1 i) rfl rfl ?_
          refine hv_goto (tgt := 42) dX0_gather_119 (by decide) ?_
          refine hv_drop 5 (hv_drop 6 ?_)
          refine ih (i + 1) _ (by omega) ⟨off_up (off_up hq2 (by decide)) (by decide), ?_, ?_, fun a ha => ?_⟩
          · rw [hup_eq, pk_un (by decide), hva_ne (by decide), hq1 31 (by decide)]; exact h4
          · rw [hup_eq, pk_us, hva_ne (by decide), hq1 31 (by decide), h5]; rfl
          · rw [hva_ne (by decide), hup_eq, hq1 32 (by decide), fHad]
            by_cases e : a = (pr i).getD i
            · rw [e, pk_us, pk_us, h32 _ hgt]
            · rw [pk_un e, pk_un e]; exact h32 a ha
        · have hgd : oN (pr i) = nI ((pr i).getD i) := by
            cases hq : pr i with
            | none => rw [hq] at c_80; exact absurd (by decide) c_80
            | some j => rfl
          refine hv_iload dX0_gather_92 rfl ?_
          refine hv_goto (tgt := 99) dX0_gather_94 (by decide) ?_
          refine hv_str (st' := .int (nI ((pr i).getD i)) :: [.ref (hgA G 32)]) (by rw [hgd]) ?_
          refine hv_dup2 dX0_gather_99 rfl rfl ?_
          refine hv_iald dX0_gather_100 (by first | rfl | assumption) rfl (by first | assumption | omega) (by first | decide | assumption) ?_
          refine hv_iload dX0_gather_101 rfl ?_
          refine hv_iadd dX0_gather_103 ?_
          refine hv_iast dX0_gather_104 (by first | rfl | assumption) rfl (by first | assumption | omega) (by first | decide | assumption) ?_
          refine hv_aload_n dX0_gather_105 rfl ?_
          refine hv_dup dX0_gather_106 rfl ?_
          refine hv_geti dX0_gather_107 fl_X0_32 (by first | rfl | assumption) rfl ?_
          refine hv_iload dX0_gather_110 rfl ?_
          refine hv_iadd dX0_gather_112 ?_
          refine hv_puti dX0_gather_113 fl_X0_32 (by first | rfl | assumption) rfl rfl rfl ?_
          refine hv_iinc dX0_gather_116 rfl (nI_1 i) rfl rfl ?_
          refine hv_goto (tgt := 42) dX0_gather_119 (by decide) ?_
          refine hv_drop 5 (hv_drop 6 ?_)
          refine ih (i + 1) _ (by omega) ⟨off_up (off_up hq2 (by decide)) (by decide), ?_, ?_, fun a ha => ?_⟩
          · rw [hup_eq, pk_un (by decide), hva_ne (by decide), hq1 31 (by decide)]; exact h4
          · rw [hup_eq, pk_us, hva_ne (by decide), hq1 31 (by decide), h5]; rfl
          · rw [hva_ne (by decide), hup_eq, hq1 32 (by decide), fHad]
            by_cases e : a = (pr i).getD i
            · rw [e, pk_us, pk_us, h32 _ hgt]
            · rw [pk_un e, pk_un e]; exact h32 a ha
  have loop1 : ∀ k i (σ' : hS), i + k = 7 → (∀ c, c ∉ [31, 32, 49, 50] → σ' c = σ c) → σ' 31 4 = nI h → σ' 31 5 = 0 → (∀ a, a < i → σ' 32 a = 0) → hV G (m_X0_gather (hQp [31, 32, 49, 50] none (rr 38 51 x y) σ τ (fun σ' => σ' 31 4 = nI h ∧ σ' 31 5 = hsum V h ∧ ∀ a, a < 7 → σ' 32 a = fHad V pr h a))) 0 0 shp 15 [some (.ref (hgA G 31)), some (.ref (hgA G 38)), some (.ref (hgA G 11)), some (.int (nI i)), none, none, none] [] (rr 38 51 x y) σ' τ := by
    intro k
    induction k with
    | zero =>
      intro i σ' hi hσ h4 h5 h32
      obtain rfl : i = 7 := by omega
      refine hv_iload_n dX0_gather_15 rfl ?_
      refine hv_bipush (v := 7) dX0_gather_16 (by decide) ?_
      refine hv_icmp_ge (tgt := 34) dX0_gather_18 (by decide) (fun c_18 => ?_) (fun c_18 => absurd ((by decide)) c_18)
      refine hv_aload_n dX0_gather_34 rfl ?_
      refine hv_cv0 (c_allFish_11 (by rw [hσ 11 (by decide)]; exact hs5) k2) dX0_gather_35 ml_X0_35 mk_X6_allFish (by first | rfl | assumption) rfl rfl rfl rfl rfl ?_
      rintro _ _ _ _ ⟨rfl, rfl, rfl, rfl⟩
      rw [hσ 12 (by decide)]
      refine hv_istore_n dX0_gather_38 rfl rfl ?_
      refine hv_iconst (v := 0) dX0_gather_39 (by decide) ?_
      refine hv_istore dX0_gather_40 rfl rfl ?_
      exact loop2 h 0 σ' (by omega) ⟨hσ, h4, h5, h32⟩
    | succ k ih =>
      intro i σ' hi hσ h4 h5 h32
      refine hv_iload_n dX0_gather_15 rfl ?_
      refine hv_bipush (v := 7) dX0_gather_16 (by decide) ?_
      refine hv_icmp_ge (tgt := 34) dX0_gather_18 (by decide) (fun c_18 => absurd c_18 ((nI_ge (b := 7) (by omega) (by decide)))) (fun c_18 => ?_)
      refine hv_aload_n dX0_gather_21 rfl ?_
      refine hv_getr dX0_gather_22 fl_X0_9 (by first | rfl | assumption) rfl (by first | rfl | assumption) ?_
      refine hv_iload_n dX0_gather_25 rfl ?_
      refine hv_iconst (v := 0) dX0_gather_26 (by decide) ?_
      refine hv_iast dX0_gather_27 (by first | rfl | assumption) rfl (by first | assumption | omega) (by first | decide | assumption) ?_
      refine hv_iinc dX0_gather_28 rfl (nI_1 i) rfl rfl ?_
      refine hv_goto (tgt := 15) dX0_gather_31 (by decide) ?_
      refine ih (i + 1) _ (by omega) (off_up hσ (by decide)) (by rw [hva_ne (by decide)]; exact h4) (by rw [hva_ne (by decide)]; exact h5) (fun a ha => ?_)
      rw [hup_eq]
      exact upd_lt (g := fun _ => 0) h32 rfl a ha
  refine hv_aload_n dX0_gather_0 rfl ?_
  refine hv_aload_n dX0_gather_1 rfl ?_
  refine hv_geti dX0_gather_2 fl_X0_25 (by first | rfl | assumption) rfl ?_
  refine hv_puti dX0_gather_5 fl_X0_31 (by first | rfl | assumption) rfl rfl rfl ?_
  refine hv_aload_n dX0_gather_8 rfl ?_
  refine hv_iconst (v := 0) dX0_gather_9 (by decide) ?_
  refine hv_puti dX0_gather_10 fl_X0_32 (by first | rfl | assumption) rfl rfl rfl ?_
  refine hv_iconst (v := 0) dX0_gather_13 (by decide) ?_
  refine hv_istore_n dX0_gather_14 rfl rfl ?_
  refine loop1 7 0 _ (by omega) (off_up (off_up (fun _ _ => rfl) (by decide)) (by decide)) ?_ ?_ (fun a ha => absurd ha (by omega))
  · rw [hup_eq, pk_un (by decide), hup_eq, pk_us]; exact ok.1
  · rw [hup_eq, pk_us]
theorem c_isAhead {s o : Nat} {r : hR} (hs : s < 128) (ho : o < 128) : hCal G (m_X3_isAhead (hEq (some (.int (bI (fAhd s o)))) r σ τ)) [.int (nI s), .int (nI o)] shp r σ τ := by
  refine hv_enter pn_X3 rfl ?_
  refine hv_iload_n dX3_isAhead_0 rfl ?_
  refine hv_cs1 (c_bitCount hs) dX3_isAhead_1 ml_X3_28 mk_J6_bitCount_0f7a4 rfl rfl rfl ?_
  rintro _ _ _ _ ⟨rfl, rfl, rfl, rfl⟩
  refine hv_istore_n dX3_isAhead_4 rfl rfl ?_
  refine hv_iload_n dX3_isAhead_5 rfl ?_
  refine hv_cs1 (c_bitCount ho) dX3_isAhead_6 ml_X3_28 mk_J6_bitCount_0f7a4 rfl rfl rfl ?_
  rintro _ _ _ _ ⟨rfl, rfl, rfl, rfl⟩
  refine hv_istore_n dX3_isAhead_9 rfl rfl ?_
  refine hv_iload_n dX3_isAhead_10 rfl ?_
  refine hv_iload_n dX3_isAhead_11 rfl ?_
  refine hv_ixor dX3_isAhead_12 ?_
  refine hv_istore dX3_isAhead_13 rfl rfl ?_
  refine hv_iload dX3_isAhead_15 rfl ?_
  refine hv_iload dX3_isAhead_17 rfl ?_
  refine hv_ineg dX3_isAhead_19 ?_
  refine hv_iand dX3_isAhead_20 ?_
  refine hv_istore dX3_isAhead_21 rfl rfl ?_
  refine hv_iload_n dX3_isAhead_23 rfl ?_
  refine hv_iload_n dX3_isAhead_24 rfl ?_
  refine hv_icmp_lt (tgt := 40) dX3_isAhead_25 (by decide) (fun c_25 => ?_) (fun c_25 => ?_)
  · refine hv_iconst (v := 1) dX3_isAhead_40 (by decide) ?_
    refine hv_goto (tgt := 45) dX3_isAhead_41 (by decide) ?_
    refine hv_zret dX3_isAhead_45 rfl (by first | exact Or.inl rfl | exact Or.inr rfl | assumption) ?_
    refine ⟨congrArg (fun z => some (Value.int z)) ?_, rfl, rfl, rfl⟩
    unfold fAhd
    first
      | (rw [decide_eq_true c_25]; rfl)
      | (rw [decide_eq_false c_25, decide_eq_false c_30]; rfl)
      | (rw [decide_eq_false c_25, decide_eq_true c_30, decide_eq_true c_37]; rfl)
      | (rw [decide_eq_false c_25, decide_eq_true c_30, decide_eq_false c_37]; rfl)
  · refine hv_iload_n dX3_isAhead_28 rfl ?_
    refine hv_iload_n dX3_isAhead_29 rfl ?_
    refine hv_icmp_ne (tgt := 44) dX3_isAhead_30 (by decide) (fun c_30 => ?_) (fun c_30 => ?_)
    · refine hv_iconst (v := 0) dX3_isAhead_44 (by decide) ?_
      refine hv_zret dX3_isAhead_45 rfl (by first | exact Or.inl rfl | exact Or.inr rfl | assumption) ?_
      refine ⟨congrArg (fun z => some (Value.int z)) ?_, rfl, rfl, rfl⟩
      unfold fAhd
      first
        | (rw [decide_eq_true c_25]; rfl)
        | (rw [decide_eq_false c_25, decide_eq_false c_30]; rfl)
        | (rw [decide_eq_false c_25, decide_eq_true c_30, decide_eq_true c_37]; rfl)
        | (rw [decide_eq_false c_25, decide_eq_true c_30, decide_eq_false c_37]; rfl)
    · refine hv_iload_n dX3_isAhead_33 rfl ?_
      refine hv_iload dX3_isAhead_34 rfl ?_
      refine hv_iand dX3_isAhead_36 ?_
      refine hv_if_eq (tgt := 44) dX3_isAhead_37 (by decide) (fun c_37 => ?_) (fun c_37 => ?_)
      · refine hv_iconst (v := 0) dX3_isAhead_44 (by decide) ?_
        refine hv_zret dX3_isAhead_45 rfl (by first | exact Or.inl rfl | exact Or.inr rfl | assumption) ?_
        refine ⟨congrArg (fun z => some (Value.int z)) ?_, rfl, rfl, rfl⟩
        unfold fAhd
        first
          | (rw [decide_eq_true c_25]; rfl)
          | (rw [decide_eq_false c_25, decide_eq_false c_30]; rfl)
          | (rw [decide_eq_false c_25, decide_eq_true c_30, decide_eq_true c_37]; rfl)
          | (rw [decide_eq_false c_25, decide_eq_true c_30, decide_eq_false c_37]; rfl)
      · refine hv_iconst (v := 1) dX3_isAhead_40 (by decide) ?_
        refine hv_goto (tgt := 45) dX3_isAhead_41 (by decide) ?_
        refine hv_zret dX3_isAhead_45 rfl (by first | exact Or.inl rfl | exact Or.inr rfl | assumption) ?_
        refine ⟨congrArg (fun z => some (Value.int z)) ?_, rfl, rfl, rfl⟩
        unfold fAhd
        first
          | (rw [decide_eq_true c_25]; rfl)
          | (rw [decide_eq_false c_25, decide_eq_false c_30]; rfl)
          | (rw [decide_eq_false c_25, decide_eq_true c_30, decide_eq_true c_37]; rfl)
          | (rw [decide_eq_false c_25, decide_eq_true c_30, decide_eq_false c_37]; rfl)
end S22

