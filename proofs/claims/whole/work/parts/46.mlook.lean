abbrev m_X12_priceIn (Q : hPo) : hMe := (hrm 6, 0, 0, yX12_priceIn, cX12_priceIn, 2, (some FieldType.int), shp, none, Q)
abbrev m_X12_allIn (Q : hPo) : hMe := (hrm 6, 0, 0, yX12_allIn, cX12_allIn, 2, (some FieldType.int), shp, none, Q)
abbrev m_X12_then (Q : hPo) : hMe := (hrm 6, 0, 0, yX12_then, cX12_then, 4, (some FieldType.int), shp, none, Q)
abbrev m_X12_isFew (Q : hPo) : hMe := (hrm 1, 0, 0, yX12_isFew, cX12_isFew, 1, (some FieldType.boolean), shp, none, Q)
abbrev m_X12_isLong (Q : hPo) : hMe := (hrm 1, 0, 0, yX12_isLong, cX12_isLong, 1, (some FieldType.boolean), shp, none, Q)
abbrev m_X12_isSome (Q : hPo) : hMe := (hrm 1, 0, 0, yX12_isSome, cX12_isSome, 1, (some FieldType.boolean), shp, none, Q)
abbrev m_X12_hasWith (Q : hPo) : hMe := (hrm 6, 0, 0, yX12_hasWith, cX12_hasWith, 4, (some FieldType.int), shp, none, Q)
abbrev m_X12_salting (Q : hPo) : hMe := (hrm 7, 0, 0, yX12_salting, cX12_salting, 6, (some FieldType.int), shp, none, Q)
abbrev m_X12_ruin (Q : hPo) : hMe := (hrm 6, 0, 0, yX12_ruin, cX12_ruin, 6, (some FieldType.int), shp, none, Q)
/-- the reference between calls -/
def okR (σ : hS) (L h : Nat) (LF : Nat → hF → Int32) : Prop := okT σ L h LF ∧ okZ σ 98 h ∧ okN σ 98 h
abbrev xRq : List Nat := [64, 96, 97, 99, 100, 101, 102, 104]
def k64 (σ σ' : hS) : Prop := ∀ j, j ≠ 50 → j ≠ 53 → j ≠ 60 → σ' 64 j = σ 64 j
abbrev hRq (v : Int32) (x y : Option Nat) (σ : hS) (τ : hT) : hPo := hQp xRq (some (.int v)) (rr 38 51 x y) σ τ (k64 σ)
theorem tEqM {σ : hS} {L h : Nat} {LF : Nat → hF → Int32} (ok : okT σ L h LF) : tEq (twM σ L h LF) (twM σ L h LF) := ⟨rfl, fun _ _ => ⟨rfl, rfl, rfl⟩, rfl, fun _ _ _ => rfl, ok.2.2.2.2.1⟩
def pCp (L h : Nat) (LF : Nat → hF → Int32) (σ σ' : hS) : Prop := okT σ' L h LF ∧ okZ σ' 99 h ∧ okN σ' 99 h ∧ dEq 7 (dyM σ' 99) (dyM σ 98) ∧ twM σ' L h LF = twM σ L h LF ∧ σ' 64 53 = σ 85 L ∧ (∀ j, j ≠ 53 → σ' 64 j = σ 64 j) ∧ ∀ j, j < 37 → σ' 99 j = σ 98 j
theorem cp_of {L h : Nat} {LF : Nat → hF → Int32} {σ σ' : hS} (ok : okR σ L h LF) (q1 : ∀ k, k ∉ [64, 99] → σ' k = σ k) (q2 : σ' 64 = upd (σ 64) 53 (σ 85 L)) (q3 : ∀ j, j < 37 → σ' 99 j = σ 98 j) : pCp L h LF σ σ' := by
  have k2 := ok.1.2.2.2.1
  have e64 : ∀ j, j ≠ 53 → σ' 64 j = σ 64 j := fun j hj => by rw [q2, pk_un hj]
  refine ⟨okT_of ok.1 q1 rfl (e64 18 (by decide)), fun a h1 h2 => ?_, fun a ha => ?_, ⟨fun a ha => ?_, q3 36 (by decide), q3 35 (by decide)⟩, twM_of q1 rfl, by rw [q2, pk_us], e64, q3⟩
  · rw [q3 a (by omega), q3 (7 + a) (by omega), q3 (14 + a) (by omega), q3 (21 + a) (by omega)]
    exact ok.2.1 a h1 h2
  · rw [q3 a (by omega), q3 (14 + a) (by omega)]
    exact ok.2.2 a ha
  · exact ⟨q3 a (by omega), q3 (7 + a) (by omega), q3 (14 + a) (by omega), q3 (21 + a) (by omega), by show dPx _ = dPx _; rw [q3 (28 + a) (by omega)]⟩
def pGoM (L h : Nat) (LF : Nat → hF → Int32) (n : Nat) (σ σ' : hS) : Prop := dEq h (dyM σ' 99) (fDays (twM σ L h LF) (fGl (twM σ L h LF) (σ 64 53)) n (dyM σ 99)) ∧ okZ σ' 99 h ∧ okN σ' 99 h ∧ (∀ j, j ≠ 50 → σ' 64 j = σ 64 j) ∧ ∀ j, 28 ≤ j → j < 36 → σ' 99 j = σ 99 j
/-- one day more -/
theorem pGoM_s {L h : Nat} {LF : Nat → hF → Int32} {n : Nat} {σ σ1 σ2 : hS} (ok : okT σ L h LF) (hσ : ∀ c, c ∉ xMd → σ1 c = σ c) (p : pGoM L h LF n σ σ1) (q : pDayM L h LF σ1 σ2) : pGoM L h LF (n + 1) σ σ2 := by
  obtain ⟨p1, p2, p3, p4, p5⟩ := p
  obtain ⟨q1, q2, q3, q4, q5⟩ := q
  have et : twM σ1 L h LF = twM σ L h LF := twM_of hσ rfl
  refine ⟨?_, q2, q3, fun j hj => (q4 j hj).trans (p4 j hj), fun j h1 h2 => (q5 j h1 h2).trans (p5 j h1 h2)⟩
  rw [et, p4 53 (by decide), show σ1 99 36 = dD (dyM σ1 99) from rfl, p1.2.1] at q1
  rw [fDays_s]
  exact q1.trans (fDay_congr (tEqM ok) p1)
section S46
variable {G : hGl} {σ : hS} {τ : hT} {x y : Option Nat}
theorem d_isFew {n : Int32} {r : hR} : hCal G (m_X12_isFew (hEq (some (.int (bI (inI 0 24 n)))) r σ τ)) [.int n] shp r σ τ := by
  refine hv_enter pn_X12 rfl ?_
  refine hv_iload_n dX12_isFew_0 rfl ?_
  refine hv_iconst (v := 0) dX12_isFew_1 (by decide) ?_
  refine hv_bipush (v := 24) dX12_isFew_2 (by decide) ?_
  refine hv_cs3 (d_in) dX12_isFew_4 ml_X12_319 mk_X12_in rfl rfl rfl ?_
  rintro _ _ _ _ ⟨rfl, rfl, rfl, rfl⟩
  refine hv_zret dX12_isFew_7 rfl (bI_01 _) ?_
  exact ⟨rfl, rfl, rfl, rfl⟩
theorem d_isLong {n : Int32} {r : hR} : hCal G (m_X12_isLong (hEq (some (.int (bI (inI 0 60 n)))) r σ τ)) [.int n] shp r σ τ := by
  refine hv_enter pn_X12 rfl ?_
  refine hv_iload_n dX12_isLong_0 rfl ?_
  refine hv_iconst (v := 0) dX12_isLong_1 (by decide) ?_
  refine hv_bipush (v := 60) dX12_isLong_2 (by decide) ?_
  refine hv_cs3 (d_in) dX12_isLong_4 ml_X12_319 mk_X12_in rfl rfl rfl ?_
  rintro _ _ _ _ ⟨rfl, rfl, rfl, rfl⟩
  refine hv_zret dX12_isLong_7 rfl (bI_01 _) ?_
  exact ⟨rfl, rfl, rfl, rfl⟩
theorem d_isSome {n : Int32} {r : hR} : hCal G (m_X12_isSome (hEq (some (.int (bI (inI 1 99 n)))) r σ τ)) [.int n] shp r σ τ := by
  refine hv_enter pn_X12 rfl ?_
  refine hv_iload_n dX12_isSome_0 rfl ?_
  refine hv_iconst (v := 1) dX12_isSome_1 (by decide) ?_
  refine hv_bipush (v := 99) dX12_isSome_2 (by decide) ?_
  refine hv_cs3 (d_in) dX12_isSome_4 ml_X12_319 mk_X12_in rfl rfl rfl ?_
  rintro _ _ _ _ ⟨rfl, rfl, rfl, rfl⟩
  refine hv_zret dX12_isSome_7 rfl (bI_01 _) ?_
  exact ⟨rfl, rfl, rfl, rfl⟩
theorem d_goes {L h n : Nat} {LF : Nat → hF → Int32} (ok : okT σ L h LF) (hz : okZ σ 99 h) (hN : okN σ 99 h) (hn : n < 2 ^ 31) : hCal G (m_X12_goes (hQp xMd none (rr 38 51 x y) σ τ (pGoM L h LF n σ))) [.ref (hgA G 64), .int (nI n)] shp (rr 38 51 x y) σ τ := by
  refine hv_enter pn_X12 rfl ?_
  have loop : ∀ k i (σ' : hS), i + k = n → (∀ c, c ∉ xMd → σ' c = σ c) → pGoM L h LF i σ σ' → hV G (m_X12_goes (hQp xMd none (rr 38 51 x y) σ τ (pGoM L h LF n σ))) 0 0 shp 2 [some (.ref (hgA G 64)), some (.int (nI n)), some (.int (nI i))] [] (rr 38 51 x y) σ' τ := by
    intro k
    induction k with
    | zero =>
      intro i σ' hi hσ hp
      obtain rfl : i = n := by omega
      refine hv_iload_n dX12_goes_2 rfl ?_
      refine hv_iload_n dX12_goes_3 rfl ?_
      refine hv_icmp_ge (tgt := 17) dX12_goes_4 (by decide) (fun c_4 => ?_) (fun c_4 => absurd ((nI_le (Nat.le_refl _) (by omega))) c_4)
      refine hv_vret dX12_goes_17 rfl ?_
      exact ⟨rfl, rfl, rfl, hσ, hp⟩
    | succ k ih =>
      intro i σ' hi hσ hp
      refine hv_iload_n dX12_goes_2 rfl ?_
      refine hv_iload_n dX12_goes_3 rfl ?_
      refine hv_icmp_ge (tgt := 17) dX12_goes_4 (by decide) (fun c_4 => absurd c_4 ((nI_ge (by omega) (by omega)))) (fun c_4 => ?_)
      refine hv_aload_n dX12_goes_7 rfl ?_
      refine hv_cv0 (d_dayGoes (okT_of ok hσ rfl (hp.2.2.2.1 18 (by decide))) hp.2.1 hp.2.2.1) dX12_goes_8 ml_X12_364 mk_X12_dayGoes (by first | rfl | assumption) rfl rfl rfl rfl rfl ?_
      rintro _ _ σ1 _ ⟨rfl, rfl, rfl, q1, q2⟩
      refine hv_iinc dX12_goes_11 rfl (nI_1 i) rfl rfl ?_
      refine hv_goto (tgt := 2) dX12_goes_14 (by decide) ?_
      exact ih (i + 1) σ1 (by omega) (off_tr hσ q1 (by decide) (by decide)) (pGoM_s ok hσ hp q2)
  refine hv_iconst (v := 0) dX12_goes_0 (by decide) ?_
  refine hv_istore_n dX12_goes_1 rfl rfl ?_
  exact loop n 0 σ (by omega) (fun _ _ => rfl) ⟨dEq.rfl', hz, hN, fun _ _ => rfl, fun _ _ _ => rfl⟩
/-- behind copies and n days -/
theorem go_of {L h n : Nat} {LF : Nat → hF → Int32} {σ1 σ2 : hS} (ok : okR σ L h LF) (q1 : ∀ k, k ∉ [64, 99] → σ1 k = σ k) (c : pCp L h LF σ σ1) (q4 : ∀ k, k ∉ xMd → σ2 k = σ1 k) (g : pGoM L h LF n σ1 σ2) : dEq h (dyM σ2 99) (fDays (twM σ L h LF) (fGl (twM σ L h LF) (σ 85 L)) n (dyM σ 98)) ∧ okT σ2 L h LF ∧ twM σ2 L h LF = twM σ L h LF ∧ (∀ k, k ∉ xRq → σ2 k = σ k) ∧ k64 σ σ2 := by
  obtain ⟨c1, c2, c3, c4, c5, c6, c7, c8⟩ := c
  obtain ⟨g1, g2, g3, g4, g5⟩ := g
  have k2 := ok.1.2.2.2.1
  refine ⟨?_, okT_of c1 q4 rfl (g4 18 (by decide)), (twM_of q4 rfl).trans c5, off_tr q1 q4 (by decide) (by decide), fun j j1 j2 j3 => (g4 j j1).trans (c7 j j2)⟩
  rw [c5, c6] at g1
  exact g1.trans (fDays_congr (tEqM ok.1) n (c4.mono k2))
theorem k64_law {σ1 σ2 : hS} (q : k64 σ σ1) (q2 : ∀ j, j ≠ 50 → σ2 64 j = σ1 64 j) : k64 σ σ2 := fun j j1 j2 j3 => (q2 j j1).trans (q j j1 j2 j3)
theorem k64_rf : k64 σ σ := fun _ _ _ _ => rfl
theorem d_priceIn {L h : Nat} {LF : Nat → hF → Int32} {n : Int32} (ok : okR σ L h LF) : hCal G (m_X12_priceIn (hRq (if inI 0 60 n = true then fDear (twM σ L h LF) (σ 85 L) (dyM σ 98) n.toNatClampNeg else -1) x y σ τ)) [.ref (hgA G 64), .int n] shp (rr 38 51 x y) σ τ := by
  refine hv_enter pn_X12 rfl ?_
  refine hv_iload_n dX12_priceIn_0 rfl ?_
  refine hv_cs1 (d_isLong) dX12_priceIn_1 ml_X12_431 mk_X12_isLong rfl rfl rfl ?_
  rintro _ _ _ _ ⟨rfl, rfl, rfl, rfl⟩
  refine hv_if_ne (tgt := 9) dX12_priceIn_4 (by decide) (fun c_4 => ?_) (fun c_4 => ?_)
  · rw [if_pos (bI_1 c_4)]
    obtain ⟨ni, hni, rfl⟩ := inI_ix (n := 60) (by decide) (bI_1 c_4)
    rw [nI_clamp (by omega)]
    refine hv_aload_n dX12_priceIn_9 rfl ?_
    refine hv_cv0 (d_copies ok.1.1 ok.1.2.1) dX12_priceIn_10 ml_X12_373 mk_X12_copies (by first | rfl | assumption) rfl rfl rfl rfl rfl ?_
    rintro _ _ σ1 _ ⟨rfl, rfl, rfl, q1, q2, q3⟩
    have qc := cp_of ok q1 q2 q3
    refine hv_aload_n dX12_priceIn_13 rfl ?_
    refine hv_iload_n dX12_priceIn_14 rfl ?_
    refine hv_cv1 (d_goes qc.1 qc.2.1 qc.2.2.1 (by omega)) dX12_priceIn_15 ml_X12_391 mk_X12_goes (by first | rfl | assumption) rfl rfl rfl rfl rfl ?_
    rintro _ _ σ2 _ ⟨rfl, rfl, rfl, q4, q5⟩
    obtain ⟨g1, g2, g3, g4, g5⟩ := go_of ok q1 qc q4 q5
    refine hv_aload_n dX12_priceIn_18 rfl ?_
    refine hv_cv0 (d_priceNow g2 q5.2.1) dX12_priceIn_19 ml_X12_379 mk_X12_priceNow (by first | rfl | assumption) rfl rfl rfl rfl rfl ?_
    rintro _ _ σ3 _ ⟨rfl, rfl, rfl, q6, q7⟩
    refine hv_iret dX12_priceIn_22 rfl ?_
    refine ⟨?_, rfl, rfl, off_tr g4 q6 (by decide) (by decide), k64_law g5 q7⟩
    rw [g3, fPrice_congr (tEqM ok.1) g1]
    rfl
  · rw [if_neg (by rw [bI_0 c_4]; decide)]
    refine hv_iconst (v := -1) dX12_priceIn_7 (by decide) ?_
    refine hv_iret dX12_priceIn_8 rfl ?_
    exact ⟨rfl, rfl, rfl, fun _ _ => rfl, k64_rf⟩
theorem d_allIn {L h : Nat} {LF : Nat → hF → Int32} {n : Int32} (ok : okR σ L h LF) : hCal G (m_X12_allIn (hRq (if inI 0 60 n = true then hsum (dF (fDays (twM σ L h LF) (fGl (twM σ L h LF) (σ 85 L)) n.toNatClampNeg (dyM σ 98))) h else -1) x y σ τ)) [.ref (hgA G 64), .int n] shp (rr 38 51 x y) σ τ := by
  have k2 := ok.1.2.2.2.1
  refine hv_enter pn_X12 rfl ?_
  refine hv_iload_n dX12_allIn_0 rfl ?_
  refine hv_cs1 (d_isLong) dX12_allIn_1 ml_X12_431 mk_X12_isLong rfl rfl rfl ?_
  rintro _ _ _ _ ⟨rfl, rfl, rfl, rfl⟩
  refine hv_if_ne (tgt := 9) dX12_allIn_4 (by decide) (fun c_4 => ?_) (fun c_4 => ?_)
  · rw [if_pos (bI_1 c_4)]
    obtain ⟨ni, hni, rfl⟩ := inI_ix (n := 60) (by decide) (bI_1 c_4)
    rw [nI_clamp (by omega)]
    refine hv_aload_n dX12_allIn_9 rfl ?_
    refine hv_cv0 (d_copies ok.1.1 ok.1.2.1) dX12_allIn_10 ml_X12_373 mk_X12_copies (by first | rfl | assumption) rfl rfl rfl rfl rfl ?_
    rintro _ _ σ1 _ ⟨rfl, rfl, rfl, q1, q2, q3⟩
    have qc := cp_of ok q1 q2 q3
    refine hv_aload_n dX12_allIn_13 rfl ?_
    refine hv_iload_n dX12_allIn_14 rfl ?_
    refine hv_cv1 (d_goes qc.1 qc.2.1 qc.2.2.1 (by omega)) dX12_allIn_15 ml_X12_391 mk_X12_goes (by first | rfl | assumption) rfl rfl rfl rfl rfl ?_
    rintro _ _ σ2 _ ⟨rfl, rfl, rfl, q4, q5⟩
    obtain ⟨g1, g2, g3, g4, g5⟩ := go_of ok q1 qc q4 q5
    refine hv_aload_n dX12_allIn_18 rfl ?_
    refine hv_iconst (v := 0) dX12_allIn_19 (by decide) ?_
    refine hv_cv1 (d_sumOf (f := 0) (by decide)) dX12_allIn_20 ml_X12_330 mk_X12_sumOf (by first | rfl | assumption) rfl rfl rfl rfl rfl ?_
    rintro _ _ _ _ ⟨rfl, rfl, rfl, rfl⟩
    refine hv_iret dX12_allIn_23 rfl ?_
    refine ⟨?_, rfl, rfl, g4, g5⟩
    rw [hsum_M k2 q5.2.1, hsum_congr (f := dF (dyM σ2 99)) h (fun a ha => (g1.1 a ha).1)]
  · rw [if_neg (by rw [bI_0 c_4]; decide)]
    refine hv_iconst (v := -1) dX12_allIn_7 (by decide) ?_
    refine hv_iret dX12_allIn_8 rfl ?_
    exact ⟨rfl, rfl, rfl, fun _ _ => rfl, k64_rf⟩
theorem d_then {L h : Nat} {LF : Nat → hF → Int32} {a n w : Int32} (ok : okR σ L h LF) : hCal G (m_X12_then (hRq (if isH h a = true ∧ inI 0 60 n = true ∧ inI 0 2 w = true then (if w = 0 then dF (fDays (twM σ L h LF) (fGl (twM σ L h LF) (σ 85 L)) n.toNatClampNeg (dyM σ 98)) a.toNatClampNeg else if w = 1 then dA (fDays (twM σ L h LF) (fGl (twM σ L h LF) (σ 85 L)) n.toNatClampNeg (dyM σ 98)) a.toNatClampNeg - σ 98 (21 + a.toNatClampNeg) else dS (fDays (twM σ L h LF) (fGl (twM σ L h LF) (σ 85 L)) n.toNatClampNeg (dyM σ 98)) a.toNatClampNeg) else -1) x y σ τ)) [.ref (hgA G 64), .int a, .int n, .int w] shp (rr 38 51 x y) σ τ := by
  have k2 := ok.1.2.2.2.1
  refine hv_enter pn_X12 rfl ?_
  refine hv_aload_n dX12_then_0 rfl ?_
  refine hv_iload_n dX12_then_1 rfl ?_
  refine hv_cv1 (d_isHouse ok.1.1 ok.1.2.1 ok.1.2.2.1 k2) dX12_then_2 ml_X12_370 mk_X12_isHouse (by first | rfl | assumption) rfl rfl rfl rfl rfl ?_
  rintro _ _ _ _ ⟨rfl, rfl, rfl, rfl⟩
  refine hv_if_eq (tgt := 24) dX12_then_5 (by decide) (fun c_5 => ?_) (fun c_5 => ?_)
  · rw [if_neg (fun qq => by rw [bI_0 c_5] at qq; exact absurd qq.1 (by decide))]
    refine hv_iconst (v := -1) dX12_then_24 (by decide) ?_
    refine hv_iret dX12_then_25 rfl ?_
    exact ⟨rfl, rfl, rfl, fun _ _ => rfl, k64_rf⟩
  · refine hv_iload_n dX12_then_8 rfl ?_
    refine hv_cs1 (d_isLong) dX12_then_9 ml_X12_431 mk_X12_isLong rfl rfl rfl ?_
    rintro _ _ _ _ ⟨rfl, rfl, rfl, rfl⟩
    refine hv_if_eq (tgt := 24) dX12_then_12 (by decide) (fun c_12 => ?_) (fun c_12 => ?_)
    · rw [if_neg (fun qq => by rw [bI_0 c_12] at qq; exact absurd qq.2.1 (by decide))]
      refine hv_iconst (v := -1) dX12_then_24 (by decide) ?_
      refine hv_iret dX12_then_25 rfl ?_
      exact ⟨rfl, rfl, rfl, fun _ _ => rfl, k64_rf⟩
    · refine hv_iload_n dX12_then_15 rfl ?_
      refine hv_iconst (v := 0) dX12_then_16 (by decide) ?_
      refine hv_iconst (v := 2) dX12_then_17 (by decide) ?_
      refine hv_cs3 (d_in) dX12_then_18 ml_X12_319 mk_X12_in rfl rfl rfl ?_
      rintro _ _ _ _ ⟨rfl, rfl, rfl, rfl⟩
      refine hv_if_ne (tgt := 26) dX12_then_21 (by decide) (fun c_21 => ?_) (fun c_21 => ?_)
      · rw [if_pos ⟨bI_1 c_5, bI_1 c_12, bI_1 c_21⟩]
        obtain ⟨ai, hai, rfl⟩ := isH_ix k2 (bI_1 c_5)
        obtain ⟨ni, hni, rfl⟩ := inI_ix (n := 60) (by decide) (bI_1 c_12)
        rw [nI_clamp (by omega), nI_clamp (by omega)]
        refine hv_aload_n dX12_then_26 rfl ?_
        refine hv_cv0 (d_copies ok.1.1 ok.1.2.1) dX12_then_27 ml_X12_373 mk_X12_copies (by first | rfl | assumption) rfl rfl rfl rfl rfl ?_
        rintro _ _ σ1 _ ⟨rfl, rfl, rfl, q1, q2, q3⟩
        have qc := cp_of ok q1 q2 q3
        refine hv_aload_n dX12_then_30 rfl ?_
        refine hv_iload_n dX12_then_31 rfl ?_
        refine hv_cv1 (d_goes qc.1 qc.2.1 qc.2.2.1 (by omega)) dX12_then_32 ml_X12_391 mk_X12_goes (by first | rfl | assumption) rfl rfl rfl rfl rfl ?_
        rintro _ _ σ2 _ ⟨rfl, rfl, rfl, q4, q5⟩
        obtain ⟨g1, g2, g3, g4, g5⟩ := go_of ok q1 qc q4 q5
        obtain ⟨e1, e2, e3, e4, e5⟩ := g1.1 ai hai
        refine hv_iload_n dX12_then_35 rfl ?_
        refine hv_if_ne (tgt := 48) dX12_then_36 (by decide) (fun c_36 => ?_) (fun c_36 => ?_)
        · rw [if_neg c_36]
          refine hv_iload_n dX12_then_48 rfl ?_
          refine hv_iconst (v := 1) dX12_then_49 (by decide) ?_
          refine hv_icmp_ne (tgt := 75) dX12_then_50 (by decide) (fun c_50 => ?_) (fun c_50 => ?_)
          · rw [if_neg c_50]
            refine hv_aload_n dX12_then_75 rfl ?_
            refine hv_getr dX12_then_76 fl_X12_122 (by first | rfl | assumption) rfl (by first | rfl | assumption) ?_
            refine hv_bipush (v := 14) dX12_then_79 (by decide) ?_
            refine hv_iload_n dX12_then_81 rfl ?_
            refine hv_iadd dX12_then_82 ?_
            refine hv_iald dX12_then_83 (by first | rfl | assumption) (j := 14 + ai) (nI_add 14 ai) (by omega) (by first | decide | assumption) ?_
            refine hv_iret dX12_then_84 rfl ?_
            first
              | exact ⟨congrArg (fun z => some (Value.int z)) e1.symm, rfl, rfl, g4, g5⟩
              | exact ⟨congrArg (fun z => some (Value.int z)) e3.symm, rfl, rfl, g4, g5⟩
              | exact ⟨congrArg (fun z => some (Value.int z)) (by rw [g4 98 (by decide)]; exact congrArg (· - σ 98 (21 + ai)) e4.symm), rfl, rfl, g4, g5⟩
          · rw [if_pos c_50]
            refine hv_aload_n dX12_then_53 rfl ?_
            refine hv_getr dX12_then_54 fl_X12_122 (by first | rfl | assumption) rfl (by first | rfl | assumption) ?_
            refine hv_bipush (v := 21) dX12_then_57 (by decide) ?_
            refine hv_iload_n dX12_then_59 rfl ?_
            refine hv_iadd dX12_then_60 ?_
            refine hv_iald dX12_then_61 (by first | rfl | assumption) (j := 21 + ai) (nI_add 21 ai) (by omega) (by first | decide | assumption) ?_
            refine hv_aload_n dX12_then_62 rfl ?_
            refine hv_getr dX12_then_63 fl_X12_119 (by first | rfl | assumption) rfl (by first | rfl | assumption) ?_
            refine hv_bipush (v := 21) dX12_then_66 (by decide) ?_
            refine hv_iload_n dX12_then_68 rfl ?_
            refine hv_iadd dX12_then_69 ?_
            refine hv_iald dX12_then_70 (by first | rfl | assumption) (j := 21 + ai) (nI_add 21 ai) (by omega) (by first | decide | assumption) ?_
            refine hv_isub dX12_then_71 ?_
            refine hv_goto (tgt := 84) dX12_then_72 (by decide) ?_
            refine hv_iret dX12_then_84 rfl ?_
            first
              | exact ⟨congrArg (fun z => some (Value.int z)) e1.symm, rfl, rfl, g4, g5⟩
              | exact ⟨congrArg (fun z => some (Value.int z)) e3.symm, rfl, rfl, g4, g5⟩
              | exact ⟨congrArg (fun z => some (Value.int z)) (by rw [g4 98 (by decide)]; exact congrArg (· - σ 98 (21 + ai)) e4.symm), rfl, rfl, g4, g5⟩
        · rw [if_pos c_36]
          refine hv_aload_n dX12_then_39 rfl ?_
          refine hv_getr dX12_then_40 fl_X12_122 (by first | rfl | assumption) rfl (by first | rfl | assumption) ?_
          refine hv_iload_n dX12_then_43 rfl ?_
          refine hv_iald dX12_then_44 (by first | rfl | assumption) rfl (by first | assumption | omega) (by first | decide | assumption) ?_
          refine hv_goto (tgt := 84) dX12_then_45 (by decide) ?_
          refine hv_iret dX12_then_84 rfl ?_
          first
            | exact ⟨congrArg (fun z => some (Value.int z)) e1.symm, rfl, rfl, g4, g5⟩
            | exact ⟨congrArg (fun z => some (Value.int z)) e3.symm, rfl, rfl, g4, g5⟩
            | exact ⟨congrArg (fun z => some (Value.int z)) (by rw [g4 98 (by decide)]; exact congrArg (· - σ 98 (21 + ai)) e4.symm), rfl, rfl, g4, g5⟩
      · rw [if_neg (fun qq => by rw [bI_0 c_21] at qq; exact absurd qq.2.2 (by decide))]
        refine hv_iconst (v := -1) dX12_then_24 (by decide) ?_
        refine hv_iret dX12_then_25 rfl ?_
        exact ⟨rfl, rfl, rfl, fun _ _ => rfl, k64_rf⟩
end S46

