abbrev m_X12_dayGoes (Q : hPo) : hMe := (hrm 4, 0, 0, yX12_dayGoes, cX12_dayGoes, 3, (none : Option FieldType), shp, none, Q)
abbrev m_X12_goes (Q : hPo) : hMe := (hrm 5, 0, 0, yX12_goes, cX12_goes, 3, (none : Option FieldType), shp, none, Q)
abbrev xMd : List Nat := [64, 96, 97, 99, 100, 101, 102]
theorem twM_of {X : List Nat} {σ σ' : hS} {L h : Nat} {LF : Nat → hF → Int32} (hσ : ∀ k, k ∉ X → σ' k = σ k) (hX : hdj X [77, 78, 79, 84] = true) : twM σ' L h LF = twM σ L h LF := by
  have g := hdj_at hσ hX
  unfold twM
  rw [g 77 (by decide), g 78 (by decide), g 79 (by decide), g 84 (by decide)]
section S44
variable {G : hGl} {σ : hS} {τ : hT} {x y : Option Nat}
/-- first loop: what is eaten, what is caught -/
theorem m1_dayGoes {Q : hPo} {L h : Nat} {LF : Nat → hF → Int32} {gl : Int32} (ok : okT σ L h LF) (hN : okN σ 99 h)
    (kk : ∀ (σ' : hS), (∀ c, c ∉ [64, 96, 97, 100, 101] → σ' c = σ c) → (∀ j, j ≠ 50 → σ' 64 j = σ 64 j) → (∀ a, a < h → σ' 100 a = fEats (twM σ L h LF) (dyM σ 99) (hsum (fun a => σ 99 (0 + a)) 7) a) → (∀ a, a < h → σ' 101 a = if gl = 0 then 0 else fGlut (twM σ L h LF) (dyM σ 99) (hsum (fun a => σ 99 (0 + a)) 7) a) → hV G (m_X12_dayGoes Q) 0 0 shp 56 [some (.ref (hgA G 64)), some (.int gl), some (.int (nI h))] [] (rr 38 51 x y) σ' τ) :
    ∀ k i (σ' : hS), i + k = h → (∀ c, c ∉ [64, 96, 97, 100, 101] → σ' c = σ c) → (∀ j, j ≠ 50 → σ' 64 j = σ 64 j) → (∀ a, a < i → σ' 100 a = fEats (twM σ L h LF) (dyM σ 99) (hsum (fun a => σ 99 (0 + a)) 7) a) → (∀ a, a < i → σ' 101 a = if gl = 0 then 0 else fGlut (twM σ L h LF) (dyM σ 99) (hsum (fun a => σ 99 (0 + a)) 7) a) → hV G (m_X12_dayGoes Q) 0 0 shp 7 [some (.ref (hgA G 64)), some (.int gl), some (.int (nI i))] [] (rr 38 51 x y) σ' τ := by
  have k2 := ok.2.2.2.1
  have hL2 := ok.2.1
  intro k
  induction k with
  | zero =>
    intro i σ' hi hσ h64 h1 h2
    obtain rfl : i = h := by omega
    have hl : σ' 64 18 = nI L := (h64 18 (by decide)).trans ok.1
    refine hv_iload_n dX12_dayGoes_7 rfl ?_
    refine hv_aload_n dX12_dayGoes_8 rfl ?_
    refine hv_getr dX12_dayGoes_9 fl_X12_46 (by first | rfl | assumption) rfl (by first | rfl | assumption) ?_
    refine hv_aload_n dX12_dayGoes_12 rfl ?_
    refine hv_geti dX12_dayGoes_13 fl_X12_233 (by first | rfl | assumption) rfl ?_
    refine hv_iald dX12_dayGoes_16 (by first | rfl | assumption) (j := L) hl (by omega) (by first | decide | assumption) ?_
    refine hv_icmp_ge (tgt := 56) dX12_dayGoes_17 (by decide) (fun c_17 => ?_) (fun c_17 => absurd ((by rw [hσ 74 (by decide), ok.2.2.1]; exact nI_le (Nat.le_refl _) (by omega))) c_17)
    exact kk σ' hσ h64 h1 h2
  | succ k ih =>
    intro i σ' hi hσ h64 h1 h2
    have hl : σ' 64 18 = nI L := (h64 18 (by decide)).trans ok.1
    have ok1 : okT σ' L h LF := okT_of ok hσ rfl (h64 18 (by decide))
    have e99 : σ' 99 = σ 99 := hσ 99 (by decide)
    have etw : twM σ' L h LF = twM σ L h LF := twM_of hσ rfl
    have edy : dyM σ' 99 = dyM σ 99 := by unfold dyM; rw [e99]
    refine hv_iload_n dX12_dayGoes_7 rfl ?_
    refine hv_aload_n dX12_dayGoes_8 rfl ?_
    refine hv_getr dX12_dayGoes_9 fl_X12_46 (by first | rfl | assumption) rfl (by first | rfl | assumption) ?_
    refine hv_aload_n dX12_dayGoes_12 rfl ?_
    refine hv_geti dX12_dayGoes_13 fl_X12_233 (by first | rfl | assumption) rfl ?_
    refine hv_iald dX12_dayGoes_16 (by first | rfl | assumption) (j := L) hl (by omega) (by first | decide | assumption) ?_
    refine hv_icmp_ge (tgt := 56) dX12_dayGoes_17 (by decide) (fun c_17 => absurd c_17 ((by rw [hσ 74 (by decide), ok.2.2.1]; exact nI_ge (by omega) (by omega)))) (fun c_17 => ?_)
    refine hv_aload_n dX12_dayGoes_20 rfl ?_
    refine hv_getr dX12_dayGoes_21 fl_X12_125 (by first | rfl | assumption) rfl (by first | rfl | assumption) ?_
    refine hv_iload_n dX12_dayGoes_24 rfl ?_
    refine hv_aload_n dX12_dayGoes_25 rfl ?_
    refine hv_iload_n dX12_dayGoes_26 rfl ?_
    refine hv_cv1 (d_eatsNow ok1 (by omega) (by rw [e99]; exact (hN i (by omega)).1)) dX12_dayGoes_27 ml_X12_352 mk_X12_eatsNow (by first | rfl | assumption) rfl rfl rfl rfl rfl ?_
    rintro _ _ σ1 _ ⟨rfl, rfl, rfl, q1, q2⟩
    rw [etw, edy, e99]
    have q3 : ∀ c, c ∉ [64, 96, 97, 100, 101] → σ1 c = σ c := off_tr hσ q1 (by decide) (by decide)
    have q4 : ∀ j, j ≠ 50 → σ1 64 j = σ 64 j := fun j hj => (q2 j hj).trans (h64 j hj)
    obtain ⟨ev, hev⟩ : ∃ ev, fEats (twM σ L h LF) (dyM σ 99) (hsum (fun a => σ 99 (0 + a)) 7) i = ev := ⟨_, rfl⟩
    rw [hev]
    obtain ⟨σ2, hσ2⟩ : ∃ σ2, va_up σ1 100 (upd (σ1 100) i ev) = σ2 := ⟨_, rfl⟩
    have q5 : ∀ c, c ∉ [64, 96, 97, 100, 101] → σ2 c = σ c := by rw [← hσ2]; exact off_up q3 (by decide)
    have q6 : ∀ j, j ≠ 50 → σ2 64 j = σ 64 j := fun j hj => by rw [← hσ2, hva_ne (by decide)]; exact q4 j hj
    have q7 : ∀ a, a < i + 1 → σ2 100 a = fEats (twM σ L h LF) (dyM σ 99) (hsum (fun a => σ 99 (0 + a)) 7) a := by
      rw [← hσ2, hup_eq]
      exact upd_lt (fun a ha => by rw [q1 100 (by decide)]; exact h1 a ha) hev.symm
    have q8 : σ2 101 = σ' 101 := by rw [← hσ2, hva_ne (by decide), q1 101 (by decide)]
    refine hv_iast dX12_dayGoes_30 (by first | rfl | assumption) rfl (by first | assumption | omega) (by first | decide | assumption) ?_
    rw [hσ2]
    refine hv_aload_n dX12_dayGoes_31 rfl ?_
    refine hv_getr dX12_dayGoes_32 fl_X12_128 (by first | rfl | assumption) rfl (by first | rfl | assumption) ?_
    refine hv_iload_n dX12_dayGoes_35 rfl ?_
    refine hv_iload_n dX12_dayGoes_36 rfl ?_
    refine hv_if_eq (tgt := 48) dX12_dayGoes_37 (by decide) (fun c_37 => ?_) (fun c_37 => ?_)
    · refine hv_iconst (v := 0) dX12_dayGoes_48 (by decide) ?_
      refine hv_iast dX12_dayGoes_49 (by first | rfl | assumption) rfl (by first | assumption | omega) (by first | decide | assumption) ?_
      refine hv_iinc dX12_dayGoes_50 rfl (nI_1 i) rfl rfl ?_
      refine hv_goto (tgt := 7) dX12_dayGoes_53 (by decide) ?_
      first
        | (refine ih (i + 1) _ (by omega) (off_up q5 (by decide)) (fun j hj => by rw [hva_ne (by decide)]; exact q6 j hj) (fun a ha => by rw [hva_ne (by decide)]; exact q7 a ha) (fun a ha => ?_)
           rw [hup_eq, q8]
           exact upd_lt (g := fun a => if gl = 0 then 0 else fGlut (twM σ L h LF) (dyM σ 99) (hsum (fun a => σ 99 (0 + a)) 7) a) h2 (by rw [if_pos c_37]) a ha)
        | (refine ih (i + 1) _ (by omega) (off_up (off_tr q5 q9 (by decide) (by decide)) (by decide)) (fun j hj => by rw [hva_ne (by decide), q10 j hj]; exact q6 j hj) (fun a ha => by rw [hva_ne (by decide), q9 100 (by decide)]; exact q7 a ha) (fun a ha => ?_)
           rw [hup_eq, q9 101 (by decide), q8]
           exact upd_lt (g := fun a => if gl = 0 then 0 else fGlut (twM σ L h LF) (dyM σ 99) (hsum (fun a => σ 99 (0 + a)) 7) a) h2 (by rw [if_neg c_37]) a ha)
    · refine hv_aload_n dX12_dayGoes_40 rfl ?_
      refine hv_iload_n dX12_dayGoes_41 rfl ?_
      refine hv_cv1 (d_glutNow (okT_of ok q5 rfl (q6 18 (by decide))) (by omega)) dX12_dayGoes_42 ml_X12_355 mk_X12_glutNow (by first | rfl | assumption) rfl rfl rfl rfl rfl ?_
      rintro _ _ σ3 _ ⟨rfl, rfl, rfl, q9, q10⟩
      have f99 : σ2 99 = σ 99 := q5 99 (by decide)
      rw [twM_of q5 rfl, show dyM σ2 99 = dyM σ 99 by unfold dyM; rw [f99], f99]
      refine hv_goto (tgt := 49) dX12_dayGoes_45 (by decide) ?_
      refine hv_iast dX12_dayGoes_49 (by first | rfl | assumption) rfl (by first | assumption | omega) (by first | decide | assumption) ?_
      refine hv_iinc dX12_dayGoes_50 rfl (nI_1 i) rfl rfl ?_
      refine hv_goto (tgt := 7) dX12_dayGoes_53 (by decide) ?_
      first
        | (refine ih (i + 1) _ (by omega) (off_up q5 (by decide)) (fun j hj => by rw [hva_ne (by decide)]; exact q6 j hj) (fun a ha => by rw [hva_ne (by decide)]; exact q7 a ha) (fun a ha => ?_)
           rw [hup_eq, q8]
           exact upd_lt (g := fun a => if gl = 0 then 0 else fGlut (twM σ L h LF) (dyM σ 99) (hsum (fun a => σ 99 (0 + a)) 7) a) h2 (by rw [if_pos c_37]) a ha)
        | (refine ih (i + 1) _ (by omega) (off_up (off_tr q5 q9 (by decide) (by decide)) (by decide)) (fun j hj => by rw [hva_ne (by decide), q10 j hj]; exact q6 j hj) (fun a ha => by rw [hva_ne (by decide), q9 100 (by decide)]; exact q7 a ha) (fun a ha => ?_)
           rw [hup_eq, q9 101 (by decide), q8]
           exact upd_lt (g := fun a => if gl = 0 then 0 else fGlut (twM σ L h LF) (dyM σ 99) (hsum (fun a => σ 99 (0 + a)) 7) a) h2 (by rw [if_neg c_37]) a ha)
/-- behind the first i have eaten -/
def pUp (σ : hS) (i : Nat) (σ' : hS) : Prop := (∀ a, a < i → σ' 99 a = σ 99 a - σ 100 a ∧ σ' 99 (21 + a) = σ 99 (21 + a) + σ 100 a ∧ σ' 99 (14 + a) = hmin (σ 99 (14 + a)) (σ 99 a - σ 100 a)) ∧ ∀ j, (∀ a, a < i → j ≠ a ∧ j ≠ 21 + a ∧ j ≠ 14 + a) → σ' 99 j = σ 99 j
theorem m2_dayGoes {Q : hPo} {L h : Nat} {gl : Int32} (hL : σ 64 18 = nI L) (hL2 : L < 2) (h74 : σ 74 L = nI h) (k2 : h ≤ 7)
    (kk : ∀ (σ' : hS), (∀ c, c ∉ [99] → σ' c = σ c) → pUp σ h σ' → hV G (m_X12_dayGoes Q) 0 0 shp 88 [some (.ref (hgA G 64)), some (.int gl), some (.int (nI h))] [] (rr 38 51 x y) σ' τ) :
    ∀ k i (σ' : hS), i + k = h → (∀ c, c ∉ [99] → σ' c = σ c) → pUp σ i σ' → hV G (m_X12_dayGoes Q) 0 0 shp 58 [some (.ref (hgA G 64)), some (.int gl), some (.int (nI i))] [] (rr 38 51 x y) σ' τ := by
  intro k
  induction k with
  | zero =>
    intro i σ' hi hσ hp
    obtain rfl : i = h := by omega
    have hl : σ' 64 18 = nI L := by rw [hσ 64 (by decide)]; exact hL
    refine hv_iload_n dX12_dayGoes_58 rfl ?_
    refine hv_aload_n dX12_dayGoes_59 rfl ?_
    refine hv_getr dX12_dayGoes_60 fl_X12_46 (by first | rfl | assumption) rfl (by first | rfl | assumption) ?_
    refine hv_aload_n dX12_dayGoes_63 rfl ?_
    refine hv_geti dX12_dayGoes_64 fl_X12_233 (by first | rfl | assumption) rfl ?_
    refine hv_iald dX12_dayGoes_67 (by first | rfl | assumption) (j := L) hl (by omega) (by first | decide | assumption) ?_
    refine hv_icmp_ge (tgt := 88) dX12_dayGoes_68 (by decide) (fun c_68 => ?_) (fun c_68 => absurd ((by rw [hσ 74 (by decide), h74]; exact nI_le (Nat.le_refl _) (by omega))) c_68)
    exact kk σ' hσ hp
  | succ k ih =>
    intro i σ' hi hσ hp
    have hl : σ' 64 18 = nI L := by rw [hσ 64 (by decide)]; exact hL
    obtain ⟨p1, p2⟩ := hp
    have e0 : σ' 99 i = σ 99 i := p2 i (fun a ha => ⟨by omega, by omega, by omega⟩)
    have e1 : σ' 99 (21 + i) = σ 99 (21 + i) := p2 _ (fun a ha => ⟨by omega, by omega, by omega⟩)
    have e2 : σ' 99 (14 + i) = σ 99 (14 + i) := p2 _ (fun a ha => ⟨by omega, by omega, by omega⟩)
    refine hv_iload_n dX12_dayGoes_58 rfl ?_
    refine hv_aload_n dX12_dayGoes_59 rfl ?_
    refine hv_getr dX12_dayGoes_60 fl_X12_46 (by first | rfl | assumption) rfl (by first | rfl | assumption) ?_
    refine hv_aload_n dX12_dayGoes_63 rfl ?_
    refine hv_geti dX12_dayGoes_64 fl_X12_233 (by first | rfl | assumption) rfl ?_
    refine hv_iald dX12_dayGoes_67 (by first | rfl | assumption) (j := L) hl (by omega) (by first | decide | assumption) ?_
    refine hv_icmp_ge (tgt := 88) dX12_dayGoes_68 (by decide) (fun c_68 => absurd c_68 ((by rw [hσ 74 (by decide), h74]; exact nI_ge (by omega) (by omega)))) (fun c_68 => ?_)
    refine hv_aload_n dX12_dayGoes_71 rfl ?_
    refine hv_iload_n dX12_dayGoes_72 rfl ?_
    refine hv_aload_n dX12_dayGoes_73 rfl ?_
    refine hv_getr dX12_dayGoes_74 fl_X12_125 (by first | rfl | assumption) rfl (by first | rfl | assumption) ?_
    refine hv_iload_n dX12_dayGoes_77 rfl ?_
    refine hv_iald dX12_dayGoes_78 (by first | rfl | assumption) rfl (by first | assumption | omega) (by first | decide | assumption) ?_
    rw [hσ 100 (by decide)]
    refine hv_cv2 (d_eatsUp (by omega)) dX12_dayGoes_79 ml_X12_358 mk_X12_eatsUp (by first | rfl | assumption) rfl rfl rfl rfl rfl ?_
    rintro _ _ σ1 _ ⟨rfl, rfl, rfl, q1, q2, q3, q4, q5⟩
    refine hv_iinc dX12_dayGoes_82 rfl (nI_1 i) rfl rfl ?_
    refine hv_goto (tgt := 58) dX12_dayGoes_85 (by decide) ?_
    refine ih (i + 1) σ1 (by omega) (off_tr hσ q1 (by decide) (by decide)) ⟨fun a ha => ?_, fun j hj => ?_⟩
    · by_cases e : a = i
      · subst e
        rw [q2, q3, q4, e0, e1, e2]
        exact ⟨rfl, rfl, rfl⟩
      · rw [q5 a (by omega) (by omega) (by omega), q5 (21 + a) (by omega) (by omega) (by omega), q5 (14 + a) (by omega) (by omega) (by omega)]
        exact p1 a (by omega)
    · obtain ⟨j1, j2, j3⟩ := hj i (by omega)
      rw [q5 j j1 j2 j3]
      exact p2 j (fun a ha => hj a (by omega))
theorem m3_dayGoes {Q : hPo} {L h : Nat} {LF : Nat → hF → Int32} {gl : Int32} (ok : okT σ L h LF) (hp : ∀ a, a < h → 0 ≤ σ 99 a - σ 99 (14 + a))
    (kk : ∀ (σ' : hS), (∀ c, c ∉ [64, 96, 97, 102] → σ' c = σ c) → (∀ j, j ≠ 50 → σ' 64 j = σ 64 j) → (∀ a, a < h → σ' 102 a = fRots (twM σ L h LF) (dyM σ 99) (hsum (fun a => σ 99 (0 + a)) 7) a) → hV G (m_X12_dayGoes Q) 0 0 shp 120 [some (.ref (hgA G 64)), some (.int gl), some (.int (nI h))] [] (rr 38 51 x y) σ' τ) :
    ∀ k i (σ' : hS), i + k = h → (∀ c, c ∉ [64, 96, 97, 102] → σ' c = σ c) → (∀ j, j ≠ 50 → σ' 64 j = σ 64 j) → (∀ a, a < i → σ' 102 a = fRots (twM σ L h LF) (dyM σ 99) (hsum (fun a => σ 99 (0 + a)) 7) a) → hV G (m_X12_dayGoes Q) 0 0 shp 90 [some (.ref (hgA G 64)), some (.int gl), some (.int (nI i))] [] (rr 38 51 x y) σ' τ := by
  have k2 := ok.2.2.2.1
  have hL2 := ok.2.1
  intro k
  induction k with
  | zero =>
    intro i σ' hi hσ h64 h1
    obtain rfl : i = h := by omega
    have hl : σ' 64 18 = nI L := (h64 18 (by decide)).trans ok.1
    refine hv_iload_n dX12_dayGoes_90 rfl ?_
    refine hv_aload_n dX12_dayGoes_91 rfl ?_
    refine hv_getr dX12_dayGoes_92 fl_X12_46 (by first | rfl | assumption) rfl (by first | rfl | assumption) ?_
    refine hv_aload_n dX12_dayGoes_95 rfl ?_
    refine hv_geti dX12_dayGoes_96 fl_X12_233 (by first | rfl | assumption) rfl ?_
    refine hv_iald dX12_dayGoes_99 (by first | rfl | assumption) (j := L) hl (by omega) (by first | decide | assumption) ?_
    refine hv_icmp_ge (tgt := 120) dX12_dayGoes_100 (by decide) (fun c_100 => ?_) (fun c_100 => absurd ((by rw [hσ 74 (by decide), ok.2.2.1]; exact nI_le (Nat.le_refl _) (by omega))) c_100)
    exact kk σ' hσ h64 h1
  | succ k ih =>
    intro i σ' hi hσ h64 h1
    have hl : σ' 64 18 = nI L := (h64 18 (by decide)).trans ok.1
    have ok1 : okT σ' L h LF := okT_of ok hσ rfl (h64 18 (by decide))
    have e99 : σ' 99 = σ 99 := hσ 99 (by decide)
    have etw : twM σ' L h LF = twM σ L h LF := twM_of hσ rfl
    have edy : dyM σ' 99 = dyM σ 99 := by unfold dyM; rw [e99]
    refine hv_iload_n dX12_dayGoes_90 rfl ?_
    refine hv_aload_n dX12_dayGoes_91 rfl ?_
    refine hv_getr dX12_dayGoes_92 fl_X12_46 (by first | rfl | assumption) rfl (by first | rfl | assumption) ?_
    refine hv_aload_n dX12_dayGoes_95 rfl ?_
    refine hv_geti dX12_dayGoes_96 fl_X12_233 (by first | rfl | assumption) rfl ?_
    refine hv_iald dX12_dayGoes_99 (by first | rfl | assumption) (j := L) hl (by omega) (by first | decide | assumption) ?_
    refine hv_icmp_ge (tgt := 120) dX12_dayGoes_100 (by decide) (fun c_100 => absurd c_100 ((by rw [hσ 74 (by decide), ok.2.2.1]; exact nI_ge (by omega) (by omega)))) (fun c_100 => ?_)
    refine hv_aload_n dX12_dayGoes_103 rfl ?_
    refine hv_getr dX12_dayGoes_104 fl_X12_131 (by first | rfl | assumption) rfl (by first | rfl | assumption) ?_
    refine hv_iload_n dX12_dayGoes_107 rfl ?_
    refine hv_aload_n dX12_dayGoes_108 rfl ?_
    refine hv_iload_n dX12_dayGoes_109 rfl ?_
    refine hv_cv1 (d_rotsNow ok1 (by omega) (by rw [e99]; exact hp i (by omega))) dX12_dayGoes_110 ml_X12_361 mk_X12_rotsNow (by first | rfl | assumption) rfl rfl rfl rfl rfl ?_
    rintro _ _ σ1 _ ⟨rfl, rfl, rfl, q1, q2⟩
    rw [etw, edy, e99]
    refine hv_iast dX12_dayGoes_113 (by first | rfl | assumption) rfl (by first | assumption | omega) (by first | decide | assumption) ?_
    refine hv_iinc dX12_dayGoes_114 rfl (nI_1 i) rfl rfl ?_
    refine hv_goto (tgt := 90) dX12_dayGoes_117 (by decide) ?_
    refine ih (i + 1) _ (by omega) (off_up (off_tr hσ q1 (by decide) (by decide)) (by decide)) (fun j hj => by rw [hva_ne (by decide), q2 j hj]; exact h64 j hj) (fun a ha => ?_)
    rw [hup_eq]
    exact upd_lt (fun a ha => by rw [q1 102 (by decide)]; exact h1 a ha) rfl a ha
theorem m4_dayGoes {Q : hPo} {L h : Nat} {gl : Int32} (hL : σ 64 18 = nI L) (hL2 : L < 2) (h74 : σ 74 L = nI h) (k2 : h ≤ 7)
    (kk : ∀ (σ' : hS), (∀ c, c ∉ [99] → σ' c = σ c) → (∀ a, a < h → σ' 99 a = hldM (σ 99 a - σ 102 a + σ 101 a) 0 9999) → (∀ j, h ≤ j → σ' 99 j = σ 99 j) → hV G (m_X12_dayGoes Q) 0 0 shp 174 [some (.ref (hgA G 64)), some (.int gl), some (.int (nI h))] [] (rr 38 51 x y) σ' τ) :
    ∀ k i (σ' : hS), i + k = h → (∀ c, c ∉ [99] → σ' c = σ c) → (∀ a, a < i → σ' 99 a = hldM (σ 99 a - σ 102 a + σ 101 a) 0 9999) → (∀ j, i ≤ j → σ' 99 j = σ 99 j) → hV G (m_X12_dayGoes Q) 0 0 shp 122 [some (.ref (hgA G 64)), some (.int gl), some (.int (nI i))] [] (rr 38 51 x y) σ' τ := by
  intro k
  induction k with
  | zero =>
    intro i σ' hi hσ h1 h2
    obtain rfl : i = h := by omega
    have hl : σ' 64 18 = nI L := by rw [hσ 64 (by decide)]; exact hL
    refine hv_iload_n dX12_dayGoes_122 rfl ?_
    refine hv_aload_n dX12_dayGoes_123 rfl ?_
    refine hv_getr dX12_dayGoes_124 fl_X12_46 (by first | rfl | assumption) rfl (by first | rfl | assumption) ?_
    refine hv_aload_n dX12_dayGoes_127 rfl ?_
    refine hv_geti dX12_dayGoes_128 fl_X12_233 (by first | rfl | assumption) rfl ?_
    refine hv_iald dX12_dayGoes_131 (by first | rfl | assumption) (j := L) hl (by omega) (by first | decide | assumption) ?_
    refine hv_icmp_ge (tgt := 174) dX12_dayGoes_132 (by decide) (fun c_132 => ?_) (fun c_132 => absurd ((by rw [hσ 74 (by decide), h74]; exact nI_le (Nat.le_refl _) (by omega))) c_132)
    exact kk σ' hσ h1 h2
  | succ k ih =>
    intro i σ' hi hσ h1 h2
    have hl : σ' 64 18 = nI L := by rw [hσ 64 (by decide)]; exact hL
    refine hv_iload_n dX12_dayGoes_122 rfl ?_
    refine hv_aload_n dX12_dayGoes_123 rfl ?_
    refine hv_getr dX12_dayGoes_124 fl_X12_46 (by first | rfl | assumption) rfl (by first | rfl | assumption) ?_
    refine hv_aload_n dX12_dayGoes_127 rfl ?_
    refine hv_geti dX12_dayGoes_128 fl_X12_233 (by first | rfl | assumption) rfl ?_
    refine hv_iald dX12_dayGoes_131 (by first | rfl | assumption) (j := L) hl (by omega) (by first | decide | assumption) ?_
    refine hv_icmp_ge (tgt := 174) dX12_dayGoes_132 (by decide) (fun c_132 => absurd c_132 ((by rw [hσ 74 (by decide), h74]; exact nI_ge (by omega) (by omega)))) (fun c_132 => ?_)
    refine hv_aload_n dX12_dayGoes_135 rfl ?_
    refine hv_getr dX12_dayGoes_136 fl_X12_122 (by first | rfl | assumption) rfl (by first | rfl | assumption) ?_
    refine hv_iload_n dX12_dayGoes_139 rfl ?_
    refine hv_aload_n dX12_dayGoes_140 rfl ?_
    refine hv_getr dX12_dayGoes_141 fl_X12_122 (by first | rfl | assumption) rfl (by first | rfl | assumption) ?_
    refine hv_iload_n dX12_dayGoes_144 rfl ?_
    refine hv_iald dX12_dayGoes_145 (by first | rfl | assumption) rfl (by first | assumption | omega) (by first | decide | assumption) ?_
    refine hv_aload_n dX12_dayGoes_146 rfl ?_
    refine hv_getr dX12_dayGoes_147 fl_X12_131 (by first | rfl | assumption) rfl (by first | rfl | assumption) ?_
    refine hv_iload_n dX12_dayGoes_150 rfl ?_
    refine hv_iald dX12_dayGoes_151 (by first | rfl | assumption) rfl (by first | assumption | omega) (by first | decide | assumption) ?_
    refine hv_isub dX12_dayGoes_152 ?_
    refine hv_aload_n dX12_dayGoes_153 rfl ?_
    refine hv_getr dX12_dayGoes_154 fl_X12_128 (by first | rfl | assumption) rfl (by first | rfl | assumption) ?_
    refine hv_iload_n dX12_dayGoes_157 rfl ?_
    refine hv_iald dX12_dayGoes_158 (by first | rfl | assumption) rfl (by first | assumption | omega) (by first | decide | assumption) ?_
    refine hv_iadd dX12_dayGoes_159 ?_
    refine hv_iconst (v := 0) dX12_dayGoes_160 (by decide) ?_
    refine hv_sipush (v := 9999) dX12_dayGoes_161 (by decide) ?_
    rw [h2 i (Nat.le_refl _), hσ 102 (by decide), hσ 101 (by decide)]
    refine hv_cs3 (d_held) dX12_dayGoes_164 ml_X12_342 mk_X12_held rfl rfl rfl ?_
    rintro _ _ _ _ ⟨rfl, rfl, rfl, rfl⟩
    refine hv_iast dX12_dayGoes_167 (by first | rfl | assumption) rfl (by first | assumption | omega) (by first | decide | assumption) ?_
    refine hv_iinc dX12_dayGoes_168 rfl (nI_1 i) rfl rfl ?_
    refine hv_goto (tgt := 122) dX12_dayGoes_171 (by decide) ?_
    refine ih (i + 1) _ (by omega) (off_up hσ (by decide)) (fun a ha => ?_) (fun j hj => ?_)
    · rw [hup_eq]
      exact upd_lt h1 rfl a ha
    · rw [hup_eq, pk_un (by omega)]; exact h2 j (by omega)
end S44

