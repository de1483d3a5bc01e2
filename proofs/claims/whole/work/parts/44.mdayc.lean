abbrev m_X12_dayGoes (Q : hPo) : hMe := (hrm 4, 0, 0, yX12_dayGoes, cX12_dayGoes, 3, (none : Option FieldType), shp, none, Q)
abbrev m_X12_goes (Q : hPo) : hMe := (hrm 5, 0, 0, yX12_goes, cX12_goes, 3, (none : Option FieldType), shp, none, Q)
abbrev xMd : List Nat := [64, 96, 97, 99, 100, 101, 102]
theorem twM_of {X : List Nat} {σ σ' : hS} {L h : Nat} {LF : Nat → hF → Int32} (hσ : ∀ k, k ∉ X → σ' k = σ k) (hX : hdj X [77, 78, 79, 84] = true) : twM σ' L h LF = twM σ L h LF := by
  have g := hdj_at hσ hX
  unfold twM
  rw [g 77 (by decide), g 78 (by decide), g 79 (by decide), g 84 (by decide)]
section S44
variable {G : hGl} {σ : hS} {τ : hT} {x y : Option Nat}
/-- first loop: what is eaten, what is caught -/
theorem m1_dayGoes {Q : hPo} {L h : Nat} {LF : Nat → hF → Int32} {gl : Int32} (ok : okT σ L h LF) (hN : okN σ 99 h)
    (kk : ∀ (σ' : hS), (∀ c, c ∉ [64, 96, 97, 100, 101] → σ' c = σ c) → (∀ j, j ≠ 50 → σ' 64 j = σ 64 j) → (∀ a, a < h → σ' 100 a = fEats (twM σ L h LF) (dyM σ 99) (hsum (fun a => σ 99 (0 + a)) 7) a) → (∀ a, a < h → σ' 101 a = if gl = 0 then 0 else fGlut (twM σ L h LF) (dyM σ 99) (hsum (fun a => σ 99 (0 + a)) 7) a) → hV G (m_X12_dayGoes Q) 0 0 shp 56 [some (.ref (hgA G 64)), some (.int gl), some (.int (nI h))] [] (rr 38 51 x y) σ' τ) :
    ∀ k i (σ' : hS), i + k = h → (∀ c, c ∉ [64, 96, 97, 100, 101] → σ' c = σ c) → (∀ j, j ≠ 50 → σ' 64 j = σ 64 j) → (∀ a, a < i → σ' 100 a = fEats (twM σ L h LF) (dyM σ 99) (hsum (fun a => σ 99 (0 + a)) 7) a) → (∀ a, a < i → σ' 101 a = if gl = 0 then 0 else fGlut (twM σ L h LF) (dyM σ 99) (hsum (fun a => σ 99 (0 + a)) 7) a) → hV G (m_X12_dayGoes Q) 0 0 shp 7 [some (.ref (hgA G 64)), some (.int gl), some (.int (nI i))] [] (rr 38 51 x y) σ' τ := by
  have k2 := ok.2.2.2.1
  have hL2 := ok.2.1
  intro k
  induction k with
  | zero =>
    intro i σ' hi hσ h64 h1 h2
    obtain rfl : i = h := by omega
    have hl : σ' 64 18 = nI L := (h64 18 (by decide)).trans ok.1
    refine hv_iload_n dX12_dayGoes_7 rfl ?_
    refine hv_aload_n dX12_dayGoes_8 rfl ?_
    refine hv_getr dX12_dayGoes_9 fl_X12_46 (by first | rfl | assumption) rfl (by first | rfl | assumption) ?_
    refine hv_aload_n dX12_dayGoes_12 rfl ?_
    refine hv_geti dX12_dayGoes_13 fl_X12_233 (by first | rfl | assumption) rfl ?_
    refine hv_iald dX12_dayGoes_16 (by first | rfl | assumption) (j := L) hl (by omega) (by first | decide | assumption) ?_
    refine hv_icmp_ge (tgt := 56) dX12_dayGoes_17 (by decide) (fun c_17 => ?_) (fun c_17 => absurd ((by rw [hσ 74 (by decide), ok.2.2.1]; exact nI_le (Nat.le_refl _) (by omega))) c_17)
    exact kk σ' hσ h64 h1 h2
  | succ k ih =>
    intro i σ' hi hσ h64 h1 h2
    have hl : σ' 64 18 = nI L := (h64 18 (by decide)).trans ok.1
    have ok1 : okT σ' L h LF := okT_of ok hσ rfl (h64 18 (by decide))
    have e99 : σ' 99 = σ 99 := hσ 99 (by decide)
    have etw : twM σ' L h LF = twM σ L h LF := twM_of hσ rfl
    have edy : dyM σ' 99 = dyM σ 99 := by unfold dyM; rw [e99]
    refine hv_iload_n dX12_dayGoes_7 rfl ?_
    refine hv_aload_n dX12_dayGoes_8 rfl ?_
    refine hv_getr dX12_dayGoes_9 fl_X12_46 (by first | rfl | assumption) rfl (by first | rfl | assumption) ?_
    refine hv_aload_n dX12_dayGoes_12 rfl ?_
    refine hv_geti dX12_dayGoes_13 fl_X12_233 (by first | rfl | assumption) rfl ?_
    refine hv_iald dX12_dayGoes_16 (by first | rfl | assumption) (j := L) hl (by omega) (by first | decide | assumption) ?_
    refine hv_icmp_ge (tgt := 56) dX12_dayGoes_17 (by decide) (fun c_17 => absurd c_17 ((by rw [hσ 74 (by decide), ok.2.2.1]; exact nI_ge (by omega) (by omega)))) (fun c_17 => ?_)
    refine hv_aload_n dX12_dayGoes_20 rfl ?_
    refine hv_getr dX12_dayGoes_21 fl_X12_125 (by first | rfl | assumption) rfl (by first | rfl | assumption) ?_
    refine hv_iload_n dX12_dayGoes_24 rfl ?_
    refine hv_aload_n dX12_dayGoes_25 rfl ?_
    refine hv_iload_n dX12_dayGoes_26 rfl ?_
    refine hv_cv1 (d_eatsNow ok1 (by omega) (by rw [e99]; exact (hN i (by omega)).1)) dX12_dayGoes_27 ml_X12_352 mk_X12_eatsNow (by first | rfl | assumption) rfl rfl rfl rfl rfl ?_
    rintro _ _ σ1 _ ⟨rfl, rfl, rfl, q1, q2⟩
    rw [etw, edy, e99]
    have q3 : ∀ c, c ∉ [64, 96, 97, 100, 101] → σ1 c = σ c := off_tr hσ q1 (by decide) (by decide)
    have q4 : ∀ j, j ≠ 50 → σ1 64 j = σ 64 j := fun j hj => (q2 j hj).trans (h64 j hj)
    obtain ⟨ev, hev⟩ : ∃ ev, fEats (twM σ L h LF) (dyM σ 99) (hsum (fun a => σ 99 (0 + a)) 7) i = ev := ⟨_, rfl⟩
    rw [hev]
    obtain ⟨σ2, hσ2⟩ : ∃ σ2, va_up σ1 100 (upd (σ1 100) i ev) = σ2 := ⟨_, rfl⟩
    have q5 : ∀ c, c ∉ [64, 96, 97, 100, 101] → σ2 c = σ c := by rw [← hσ2]; exact off_up q3 (by decide)
    have q6 : ∀ j, j ≠ 50 → σ2 64 j = σ 64 j := fun j hj => by rw [← hσ2, hva_ne (by decide)]; exact q4 j hj
    have q7 : ∀ a, a < i + 1 → σ2 100 a = fEats (twM σ L h LF) (dyM σ 99) (hsum (fun a => σ 99 (0 + a)) 7) a := by
      rw [← hσ2, hup_eq]
      exact upd_lt (fun a ha => by rw [q1 100 (by decide)]; exact h1 a ha) hev.symm
    have q8 : σ2 101 = σ' 101 := by rw [← hσ2, hva_ne (by decide), q1 101 (by decide)]
    refine hv_iast dX12_dayGoes_30 (by first | rfl | assumption) rfl (by first | assumption | omega) (by first | decide | assumption) ?_
    rw [hσ2]
    refine hv_aload_n dX12_dayGoes_31 rfl ?_
    refine hv_getr dX12_dayGoes_32 fl_X12_128 (by first | rfl | assumption) rfl (by first | rfl | assumption) ?_
    refine hv_iload_n dX12_dayGoes_35 rfl ?_
    refine hv_iload_n dX12_dayGoes_36 rfl ?_
    refine hv_if_eq (tgt := 48) dX12_dayGoes_37 (by decide) (fun c_37 => ?_) (fun c_37 => ?_)
    · refine hv_iconst (v := 0) dX12_dayGoes_48 (by decide) ?_
      refine hv_iast dX12_dayGoes_49 (by first | rfl | assumption) rfl (by first | assumption | omega) (by first | decide | assumption) ?_
      refine hv_iinc dX12_dayGoes_50 rfl (nI_1 i) rfl rfl ?_
      refine hv_goto (tgt := 7) dX12_dayGoes_53 (by decide) ?_
      first
        | (refine ih (i + 1) _ (by omega) (off_up q5 (by decide)) (fun j hj => by rw [hva_ne (by decide)]; exact q6 j hj) (fun a ha => by rw [hva_ne (by decide)]; exact q7 a ha) (fun a ha => ?_)
           rw [hup_eq, q8]
           exact upd_lt (g := fun a => if gl = 0 then 0 else fGlut (twM σ L h LF) (dyM σ 99) (hsum (fun a => σ 99 (0 + a)) 7) a) h2 (by rw [if_pos c_37]) a ha)
        | (refine ih (i + 1) _ (by omega) (off_up (off_tr q5 q9 (by decide) (by decide)) (by decide)) (fun j hj => by rw [hva_ne (by decide), q10 j hj]; exact q6 j hj) (fun a ha => by rw [hva_ne (by decide), q9 100 (by decide)]; exact q7 a ha) (fun a ha => ?_)
           rw [hup_eq, q9 101 (by decide), q8]
           exact upd_lt (g := fun a => if gl = 0 then 0 else fGlut (twM σ L h LF) (dyM σ 99) (hsum (fun a => σ 99 (0 + a)) 7) a) h2 (by rw [if_neg c_37]) a ha)
    · refine hv_aload_n dX12_dayGoes_40 rfl ?_
      refine hv_iload_n dX12_dayGoes_41 rfl ?_
      refine hv_cv1 (d_glutNow (okT_of ok q5 rfl (q6 18 (by decide))) (by omega)) dX12_dayGoes_42 ml_X12_355 mk_X12_glutNow (by first | rfl | assumption) rfl rfl rfl rfl rfl ?_
      rintro _ _ σ3 _ ⟨rfl, rfl, rfl, q9, q10⟩
      have f99 : σ2 99 = σ 99 := q5 99 (by decide)
      rw [twM_of q5 rfl, show dyM σ2 99 = dyM σ 99 by unfold dyM; rw [f99], f99]
      refine hv_goto (tgt := 49) dX12_dayGoes_45 (by decide) ?_
      refine hv_iast dX12_dayGoes_49 (by first | rfl | assumption) rfl (by first | assumption | omega) (by first | decide | assumption) ?_
      refine hv_iinc dX12_dayGoes_50 rfl (nI_1 i) rfl rfl ?_
      refine hv_goto (tgt := 7) dX12_dayGoes_53 (by decide) ?_
      first
        | (refine ih (i + 1) _ (by omega) (off_up q5 (by decide)) (fun j hj => by rw [hva_ne (by decide)]; exact q6 j hj) (fun a ha => by rw [hva_ne (by decide)]; exact q7 a ha) (fun a ha => ?_)
           rw [hup_eq, q8]
           exact upd_lt (g := fun a => if gl = 0 then 0 else fGlut (twM σ L h LF) (dyM σ 99) (hsum (fun a => σ 99 (0 + a)) 7) a) h2 (by rw [if_pos c_37]) a ha)
        | (refine ih (i + 1) _ (by omega) (off_up (off_tr q5 q9 (by decide) (by decide)) (by decide)) (fun j hj => by rw [hva_ne (by decide), q10 j hj]; exact q6 j hj) (fun a ha => by rw [hva_ne (by decide), q9 100 (by decide)]; exact q7 a ha) (fun a ha => ?_)
           rw [hup_eq, q9 101 (by decide), q8]
           exact upd_lt (g := fun a => if gl = 0 then 0 else fGlut (twM σ L h LF) (dyM σ 99) (hsum (fun a => σ 99 (0 + a)) 7) a) h2 (by rw [if_neg c_37]) a ha)
end S44

