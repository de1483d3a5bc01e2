abbrev m_X12_sell (Q : hPo) : hMe := (hrm 5, 0, 0, yX12_sell, cX12_sell, 8, (some FieldType.int), shp, none, Q)
abbrev m_X12_dearest (Q : hPo) : hMe := (hrm 5, 0, 0, yX12_dearest, cX12_dearest, 7, (some FieldType.int), shp, none, Q)
abbrev m_X12_poorest (Q : hPo) : hMe := (hrm 6, 0, 0, yX12_poorest, cX12_poorest, 5, (some FieldType.int), shp, none, Q)
abbrev m_X12_share (Q : hPo) : hMe := (hrm 2, 0, 0, yX12_share, cX12_share, 4, (some FieldType.int), shp, none, Q)
abbrev m_X12_deals (Q : hPo) : hMe := (hrm 3, 0, 0, yX12_deals, cX12_deals, 7, (some FieldType.int), shp, none, Q)
def pSl (L h : Nat) (LF : Nat → hF → Int32) (i : Nat) (σ σ' : hS) : Prop := (∀ c, c ∉ xRq → σ' c = σ c) ∧ k64 σ σ' ∧ okZ σ' 99 h ∧ okN σ' 99 h ∧ σ' 64 53 = σ 85 L ∧ dEq h (dyM σ' 99) (fDays (twM σ L h LF) (fGl (twM σ L h LF) (σ 85 L)) i (dyM σ 98))
theorem fBest_d0 {f : Nat → Int32} {d0 d1 : Int32} (hf : -1 < f 0) : ∀ k, fBest f d0 (k + 1) = fBest f d1 (k + 1)
  | 0 => by rw [fBest, fBest, fBest, fBest, if_pos hf, if_pos hf]
  | k + 1 => by rw [fBest, fBest_d0 (d1 := d1) hf k, ← fBest]
theorem fBest_congr {f g : Nat → Int32} {d0 : Int32} : ∀ k, (∀ i, i < k → f i = g i) → fBest f d0 k = fBest g d0 k
  | 0, _ => rfl
  | k + 1, hq => by rw [fBest, fBest, fBest_congr k (fun i hi => hq i (by omega)), hq k (by omega)]
section S48
variable {G : hGl} {σ : hS} {τ : hT} {x y : Option Nat}
theorem d_ruin {L h : Nat} {LF : Nat → hF → Int32} {a n s : Int32} (ok : okR σ L h LF) : hCal G (m_X12_ruin (hRq (if isH h a = true ∧ inI 0 60 n = true ∧ inI 1 20 s = true then nI (fRuin (fun i => decide (dF (fDays (twM σ L h LF) (fGl (twM σ L h LF) (σ 85 L + nI i)) n.toNatClampNeg (dyM σ 98)) a.toNatClampNeg = 0)) s.toNatClampNeg) else -1) x y σ τ)) [.ref (hgA G 64), .int a, .int n, .int s] shp (rr 38 51 x y) σ τ := by
  have k2 := ok.1.2.2.2.1
  refine hv_enter pn_X12 rfl ?_
  have loop : ∀ ai ni, ai < h → ni ≤ 60 → ∀ (m k i ru : Nat) (σ' : hS) (res : Int32), i + k = m → m ≤ 20 → (∀ c, c ∉ xRq → σ' c = σ c) → k64 σ σ' → ru = fRuin (fun i => decide (dF (fDays (twM σ L h LF) (fGl (twM σ L h LF) (σ 85 L + nI i)) ni (dyM σ 98)) ai = 0)) i → res = nI (fRuin (fun i => decide (dF (fDays (twM σ L h LF) (fGl (twM σ L h LF) (σ 85 L + nI i)) ni (dyM σ 98)) ai = 0)) m) → hV G (m_X12_ruin (hRq res x y σ τ)) 0 0 shp 33 [some (.ref (hgA G 64)), some (.int (nI ai)), some (.int (nI ni)), some (.int (nI m)), some (.int (nI ru)), some (.int (nI i))] [] (rr 38 51 x y) σ' τ := by
    intro ai ni hai hni m k
    induction k with
    | zero =>
      intro i ru σ' res hi hm hσ h64 hru hres
      obtain rfl : i = m := by omega
      refine hv_iload dX12_ruin_33 rfl ?_
      refine hv_iload_n dX12_ruin_35 rfl ?_
      refine hv_icmp_ge (tgt := 77) dX12_ruin_36 (by decide) (fun c_36 => ?_) (fun c_36 => absurd ((nI_le (Nat.le_refl _) (by omega))) c_36)
      refine hv_iload dX12_ruin_77 rfl ?_
      refine hv_iret dX12_ruin_79 rfl ?_
      rw [hres, ← hru]; exact ⟨rfl, rfl, rfl, hσ, h64⟩
    | succ k ih =>
      intro i ru σ' res hi hm hσ h64 hru hres
      have hrl : ru ≤ i := by rw [hru]; exact fRuin_le _ _
      have ok1 : okR σ' L h LF := okR_of ok hσ rfl rfl (h64 18 (by decide) (by decide) (by decide))
      refine hv_iload dX12_ruin_33 rfl ?_
      refine hv_iload_n dX12_ruin_35 rfl ?_
      refine hv_icmp_ge (tgt := 77) dX12_ruin_36 (by decide) (fun c_36 => absurd c_36 ((nI_ge (by omega) (by omega)))) (fun c_36 => ?_)
      refine hv_aload_n dX12_ruin_39 rfl ?_
      refine hv_cv0 (d_copies ok1.1.1 ok1.1.2.1) dX12_ruin_40 ml_X12_373 mk_X12_copies (by first | rfl | assumption) rfl rfl rfl rfl rfl ?_
      rintro _ _ σ1 _ ⟨rfl, rfl, rfl, q1, q2, q3⟩
      obtain ⟨c1, c2, c3, c4, c5, c6, c7, c8⟩ := cp_of ok1 q1 q2 q3
      refine hv_aload_n dX12_ruin_43 rfl ?_
      refine hv_dup dX12_ruin_44 rfl ?_
      refine hv_geti dX12_ruin_45 fl_X12_323 (by first | rfl | assumption) rfl ?_
      refine hv_iload dX12_ruin_48 rfl ?_
      refine hv_iadd dX12_ruin_50 ?_
      refine hv_puti dX12_ruin_51 fl_X12_323 (by first | rfl | assumption) rfl rfl rfl ?_
      obtain ⟨σ2, hσ2⟩ : ∃ s, va_up σ1 64 (upd (σ1 64) 53 (σ1 64 53 + nI i)) = s := ⟨_, rfl⟩
      rw [hσ2]
      have u1 : σ2 64 53 = σ 85 L + nI i := by rw [← hσ2, hup_eq, pk_us, c6, hσ 85 (by decide)]
      have u2 : ∀ j, j ≠ 53 → σ2 64 j = σ1 64 j := fun j hj => by rw [← hσ2, hup_eq, pk_un hj]
      have u3 : ∀ c, c ∉ [64] → σ2 c = σ1 c := by rw [← hσ2]; exact off_up (fun _ _ => rfl) (by decide)
      have e99 : σ2 99 = σ1 99 := u3 99 (by decide)
      refine hv_aload_n dX12_ruin_54 rfl ?_
      refine hv_iload_n dX12_ruin_55 rfl ?_
      refine hv_cv1 (d_goes (okT_of c1 u3 rfl (u2 18 (by decide))) (by unfold okZ; rw [e99]; exact c2) (by unfold okN; rw [e99]; exact c3) (by omega)) dX12_ruin_56 ml_X12_391 mk_X12_goes (by first | rfl | assumption) rfl rfl rfl rfl rfl ?_
      rintro _ _ σ3 _ ⟨rfl, rfl, rfl, q4, q5⟩
      obtain ⟨g1, g2, g3, g4, g5⟩ := q5
      rw [twM_of u3 rfl, c5, twM_of hσ rfl, u1, show dyM σ2 99 = dyM σ1 99 by unfold dyM; rw [e99]] at g1
      have g6 := g1.trans (fDays_congr (tEqM ok.1) ni (c4.mono k2))
      rw [show dyM σ' 98 = dyM σ 98 by unfold dyM; rw [hσ 98 (by decide)]] at g6
      have g7 : ∀ c, c ∉ xRq → σ3 c = σ c := off_tr (off_tr (off_tr hσ q1 (Z := xRq) (by decide) (by decide)) u3 (Z := xRq) (by decide) (by decide)) q4 (by decide) (by decide)
      have g8 : k64 σ σ3 := fun j j1 j2 j3 => by rw [g4 j j1, u2 j j2, c7 j j2, h64 j j1 j2 j3]
      refine hv_aload_n dX12_ruin_59 rfl ?_
      refine hv_getr dX12_ruin_60 fl_X12_122 (by first | rfl | assumption) rfl (by first | rfl | assumption) ?_
      refine hv_iload_n dX12_ruin_63 rfl ?_
      refine hv_iald dX12_ruin_64 (by first | rfl | assumption) rfl (by first | assumption | omega) (by first | decide | assumption) ?_
      rw [show σ3 99 ai = _ from (g6.1 ai hai).1]
      refine hv_if_ne (tgt := 71) dX12_ruin_65 (by decide) (fun c_65 => ?_) (fun c_65 => ?_)
      · refine hv_iinc dX12_ruin_71 rfl (nI_1 i) rfl rfl ?_
        refine hv_goto (tgt := 33) dX12_ruin_74 (by decide) ?_
        first
          | exact ih (i + 1) (ru + 1) σ3 res (by omega) hm g7 g8 (by rw [fRuin, ← hru, if_pos (decide_eq_true c_65)]) hres
          | exact ih (i + 1) ru σ3 res (by omega) hm g7 g8 (by rw [fRuin, ← hru, if_neg (by rw [decide_eq_false c_65]; decide)]; rfl) hres
      · refine hv_iinc dX12_ruin_68 rfl (nI_1 ru) rfl rfl ?_
        refine hv_iinc dX12_ruin_71 rfl (nI_1 i) rfl rfl ?_
        refine hv_goto (tgt := 33) dX12_ruin_74 (by decide) ?_
        first
          | exact ih (i + 1) (ru + 1) σ3 res (by omega) hm g7 g8 (by rw [fRuin, ← hru, if_pos (decide_eq_true c_65)]) hres
          | exact ih (i + 1) ru σ3 res (by omega) hm g7 g8 (by rw [fRuin, ← hru, if_neg (by rw [decide_eq_false c_65]; decide)]; rfl) hres
  refine hv_aload_n dX12_ruin_0 rfl ?_
  refine hv_iload_n dX12_ruin_1 rfl ?_
  refine hv_cv1 (d_isHouse ok.1.1 ok.1.2.1 ok.1.2.2.1 k2) dX12_ruin_2 ml_X12_370 mk_X12_isHouse (by first | rfl | assumption) rfl rfl rfl rfl rfl ?_
  rintro _ _ _ _ ⟨rfl, rfl, rfl, rfl⟩
  refine hv_if_eq (tgt := 25) dX12_ruin_5 (by decide) (fun c_5 => ?_) (fun c_5 => ?_)
  · rw [if_neg (fun qq => by rw [bI_0 c_5] at qq; exact absurd qq.1 (by decide))]
    refine hv_iconst (v := -1) dX12_ruin_25 (by decide) ?_
    refine hv_iret dX12_ruin_26 rfl ?_
    exact ⟨rfl, rfl, rfl, fun _ _ => rfl, k64_rf⟩
  · refine hv_iload_n dX12_ruin_8 rfl ?_
    refine hv_cs1 (d_isLong) dX12_ruin_9 ml_X12_431 mk_X12_isLong rfl rfl rfl ?_
    rintro _ _ _ _ ⟨rfl, rfl, rfl, rfl⟩
    refine hv_if_eq (tgt := 25) dX12_ruin_12 (by decide) (fun c_12 => ?_) (fun c_12 => ?_)
    · rw [if_neg (fun qq => by rw [bI_0 c_12] at qq; exact absurd qq.2.1 (by decide))]
      refine hv_iconst (v := -1) dX12_ruin_25 (by decide) ?_
      refine hv_iret dX12_ruin_26 rfl ?_
      exact ⟨rfl, rfl, rfl, fun _ _ => rfl, k64_rf⟩
    · refine hv_iload_n dX12_ruin_15 rfl ?_
      refine hv_iconst (v := 1) dX12_ruin_16 (by decide) ?_
      refine hv_bipush (v := 20) dX12_ruin_17 (by decide) ?_
      refine hv_cs3 (d_in) dX12_ruin_19 ml_X12_319 mk_X12_in rfl rfl rfl ?_
      rintro _ _ _ _ ⟨rfl, rfl, rfl, rfl⟩
      refine hv_if_ne (tgt := 27) dX12_ruin_22 (by decide) (fun c_22 => ?_) (fun c_22 => ?_)
      · rw [if_pos ⟨bI_1 c_5, bI_1 c_12, bI_1 c_22⟩]
        obtain ⟨ai, hai, rfl⟩ := isH_ix k2 (bI_1 c_5)
        obtain ⟨ni, hni, rfl⟩ := inI_ix (n := 60) (by decide) (bI_1 c_12)
        have hin := of_decide_eq_true (bI_1 c_22)
        obtain ⟨si, hsi, rfl⟩ := inI_ix (n := 20) (a := s) (by decide) (decide_eq_true ⟨Int32.le_trans (by decide) hin.1, hin.2⟩)
        rw [nI_clamp (by omega), nI_clamp (by omega), nI_clamp (by omega)]
        refine hv_iconst (v := 0) dX12_ruin_27 (by decide) ?_
        refine hv_istore dX12_ruin_28 rfl rfl ?_
        refine hv_iconst (v := 0) dX12_ruin_30 (by decide) ?_
        refine hv_istore dX12_ruin_31 rfl rfl ?_
        exact loop ai ni hai hni si si 0 0 σ _ (by omega) hsi (fun _ _ => rfl) k64_rf rfl rfl
      · rw [if_neg (fun qq => by rw [bI_0 c_22] at qq; exact absurd qq.2.2 (by decide))]
        refine hv_iconst (v := -1) dX12_ruin_25 (by decide) ?_
        refine hv_iret dX12_ruin_26 rfl ?_
        exact ⟨rfl, rfl, rfl, fun _ _ => rfl, k64_rf⟩
theorem pSl_s {L h i : Nat} {LF : Nat → hF → Int32} {σ1 σ2 : hS} (ok : okR σ L h LF) (p : pSl L h LF i σ σ1) (q1 : ∀ k, k ∉ xMd → σ2 k = σ1 k) (q : pDayM L h LF σ1 σ2) : pSl L h LF (i + 1) σ σ2 := by
  obtain ⟨p1, p2, p3, p4, p5, p6⟩ := p
  obtain ⟨r1, r2, r3, r4, r5⟩ := q
  refine ⟨off_tr p1 q1 (by decide) (by decide), fun j j1 j2 j3 => (r4 j j1).trans (p2 j j1 j2 j3), r2, r3, (r4 53 (by decide)).trans p5, ?_⟩
  rw [twM_of p1 rfl, p5, show σ1 99 36 = dD (dyM σ1 99) from rfl, p6.2.1] at r1
  rw [fDays_s]
  exact r1.trans (fDay_congr (tEqM ok.1) p6)
theorem pSl_0 {L h : Nat} {LF : Nat → hF → Int32} {σ1 : hS} (k2 : h ≤ 7) (q1 : ∀ k, k ∉ [64, 99] → σ1 k = σ k) (qc : pCp L h LF σ σ1) : pSl L h LF 0 σ σ1 := by
  obtain ⟨c1, c2, c3, c4, c5, c6, c7, c8⟩ := qc
  exact ⟨off_wk q1 (by decide), fun j j1 j2 j3 => c7 j j2, c2, c3, c6, c4.mono k2⟩
theorem d_sell {L h : Nat} {LF : Nat → hF → Int32} {a n w : Int32} (ok : okR σ L h LF) : hCal G (m_X12_sell (hRq (if isH h a = true ∧ inI 0 24 n = true ∧ inI 0 1 w = true then (if w = 0 then (fBest (fSale (twM σ L h LF) (σ 85 L) (dyM σ 98) a.toNatClampNeg) 0 (n.toNatClampNeg + 1)).1 else (fBest (fSale (twM σ L h LF) (σ 85 L) (dyM σ 98) a.toNatClampNeg) 0 (n.toNatClampNeg + 1)).2) else -1) x y σ τ)) [.ref (hgA G 64), .int a, .int n, .int w] shp (rr 38 51 x y) σ τ := by
  have k2 := ok.1.2.2.2.1
  refine hv_enter pn_X12 rfl ?_
  have loop : ∀ ai ni, ai < h → ni ≤ 24 → ∀ k i (σ' : hS) (be mo res : Int32), i + k = ni + 1 → pSl L h LF i σ σ' → (be, mo) = fBest (fSale (twM σ L h LF) (σ 85 L) (dyM σ 98) ai) 0 i → (res = if w = 0 then (fBest (fSale (twM σ L h LF) (σ 85 L) (dyM σ 98) ai) 0 (ni + 1)).1 else (fBest (fSale (twM σ L h LF) (σ 85 L) (dyM σ 98) ai) 0 (ni + 1)).2) → hV G (m_X12_sell (hRq res x y σ τ)) 0 0 shp 39 [some (.ref (hgA G 64)), some (.int (nI ai)), some (.int (nI ni)), some (.int w), some (.int be), some (.int mo), some (.int (nI i)), none] [] (rr 38 51 x y) σ' τ := by
    intro ai ni hai hni k
    induction k with
    | zero =>
      intro i σ' be mo res hi hp hb hres
      obtain rfl : i = ni + 1 := by omega
      rw [← hb] at hres
      refine hv_iload dX12_sell_39 rfl ?_
      refine hv_iload_n dX12_sell_41 rfl ?_
      refine hv_icmp_gt (tgt := 83) dX12_sell_42 (by decide) (fun c_42 => ?_) (fun c_42 => absurd ((nI_lt (by omega) (by omega))) c_42)
      refine hv_iload_n dX12_sell_83 rfl ?_
      refine hv_if_ne (tgt := 92) dX12_sell_84 (by decide) (fun c_84 => ?_) (fun c_84 => ?_)
      · rw [if_neg c_84] at hres
        refine hv_iload dX12_sell_92 rfl ?_
        refine hv_iret dX12_sell_94 rfl ?_
        exact ⟨congrArg (fun z => some (Value.int z)) hres, rfl, rfl, hp.1, hp.2.1⟩
      · rw [if_pos c_84] at hres
        refine hv_iload dX12_sell_87 rfl ?_
        refine hv_goto (tgt := 94) dX12_sell_89 (by decide) ?_
        refine hv_iret dX12_sell_94 rfl ?_
        exact ⟨congrArg (fun z => some (Value.int z)) hres, rfl, rfl, hp.1, hp.2.1⟩
    | succ k ih =>
      intro i σ' be mo res hi hp hb hres
      have okt : okT σ' L h LF := okT_of ok.1 hp.1 rfl (hp.2.1 18 (by decide) (by decide) (by decide))
      have hb1 := congrArg Prod.fst hb
      have hb2 := congrArg Prod.snd hb
      dsimp only at hb1 hb2
      refine hv_iload dX12_sell_39 rfl ?_
      refine hv_iload_n dX12_sell_41 rfl ?_
      refine hv_icmp_gt (tgt := 83) dX12_sell_42 (by decide) (fun c_42 => absurd c_42 ((nI_nlt (by omega) (by omega)))) (fun c_42 => ?_)
      refine hv_aload_n dX12_sell_45 rfl ?_
      refine hv_getr dX12_sell_46 fl_X12_122 (by first | rfl | assumption) rfl (by first | rfl | assumption) ?_
      refine hv_iload_n dX12_sell_49 rfl ?_
      refine hv_iald dX12_sell_50 (by first | rfl | assumption) rfl (by first | assumption | omega) (by first | decide | assumption) ?_
      refine hv_aload_n dX12_sell_51 rfl ?_
      refine hv_cv0 (d_priceNow okt hp.2.2.1) dX12_sell_52 ml_X12_379 mk_X12_priceNow (by first | rfl | assumption) rfl rfl rfl rfl rfl ?_
      rintro _ _ σ1 _ ⟨rfl, rfl, rfl, q1, q2⟩
      rw [twM_of hp.1 rfl, fPrice_congr (tEqM ok.1) (show dEq (tH (twM σ L h LF)) _ _ from hp.2.2.2.2.2)]
      have e99 : σ1 99 = σ' 99 := q1 99 (by decide)
      have hp1 : pSl L h LF i σ σ1 := by
        obtain ⟨p1, p2, p3, p4, p5, p6⟩ := hp
        refine ⟨off_tr p1 q1 (by decide) (by decide), k64_law p2 q2, ?_, ?_, (q2 53 (by decide)).trans p5, ?_⟩
        · unfold okZ; rw [e99]; exact p3
        · unfold okN; rw [e99]; exact p4
        · rw [show dyM σ1 99 = dyM σ' 99 by unfold dyM; rw [e99]]; exact p6
      rw [show σ' 99 ai = _ from (hp.2.2.2.2.2.1 ai hai).1]
      have ev : dF (fDays (twM σ L h LF) (fGl (twM σ L h LF) (σ 85 L)) i (dyM σ 98)) ai * fPrice (twM σ L h LF) (fDays (twM σ L h LF) (fGl (twM σ L h LF) (σ 85 L)) i (dyM σ 98)) = fSale (twM σ L h LF) (σ 85 L) (dyM σ 98) ai i := rfl
      refine hv_imul dX12_sell_55 ?_
      refine hv_istore dX12_sell_56 rfl rfl ?_
      refine hv_iload dX12_sell_58 rfl ?_
      refine hv_iload dX12_sell_60 rfl ?_
      refine hv_icmp_le (tgt := 73) dX12_sell_62 (by decide) (fun c_62 => ?_) (fun c_62 => ?_)
      · refine hv_aload_n dX12_sell_73 rfl ?_
        refine hv_cv0 (d_dayGoes (okT_of okt q1 rfl (q2 18 (by decide))) hp1.2.2.1 hp1.2.2.2.1) dX12_sell_74 ml_X12_364 mk_X12_dayGoes (by first | rfl | assumption) rfl rfl rfl rfl rfl ?_
        rintro _ _ σ2 _ ⟨rfl, rfl, rfl, q3, q4⟩
        refine hv_iinc dX12_sell_77 rfl (nI_1 i) rfl rfl ?_
        refine hv_goto (tgt := 39) dX12_sell_80 (by decide) ?_
        refine hv_drop 7 ?_
        first
          | exact ih (i + 1) σ2 _ _ res (by omega) (pSl_s ok hp1 q3 q4) (by rw [fBest, if_pos (by rw [← hb2]; exact Int32.not_le.mp c_62)]; rfl) hres
          | exact ih (i + 1) σ2 _ _ res (by omega) (pSl_s ok hp1 q3 q4) (by rw [fBest, if_neg (by rw [← hb2]; exact Int32.not_lt.mpr c_62)]; exact hb) hres
      · refine hv_iload dX12_sell_65 rfl ?_
        refine hv_istore dX12_sell_67 rfl rfl ?_
        refine hv_iload dX12_sell_69 rfl ?_
        refine hv_istore dX12_sell_71 rfl rfl ?_
        refine hv_aload_n dX12_sell_73 rfl ?_
        refine hv_cv0 (d_dayGoes (okT_of okt q1 rfl (q2 18 (by decide))) hp1.2.2.1 hp1.2.2.2.1) dX12_sell_74 ml_X12_364 mk_X12_dayGoes (by first | rfl | assumption) rfl rfl rfl rfl rfl ?_
        rintro _ _ σ2 _ ⟨rfl, rfl, rfl, q3, q4⟩
        refine hv_iinc dX12_sell_77 rfl (nI_1 i) rfl rfl ?_
        refine hv_goto (tgt := 39) dX12_sell_80 (by decide) ?_
        refine hv_drop 7 ?_
        first
          | exact ih (i + 1) σ2 _ _ res (by omega) (pSl_s ok hp1 q3 q4) (by rw [fBest, if_pos (by rw [← hb2]; exact Int32.not_le.mp c_62)]; rfl) hres
          | exact ih (i + 1) σ2 _ _ res (by omega) (pSl_s ok hp1 q3 q4) (by rw [fBest, if_neg (by rw [← hb2]; exact Int32.not_lt.mpr c_62)]; exact hb) hres
  refine hv_aload_n dX12_sell_0 rfl ?_
  refine hv_iload_n dX12_sell_1 rfl ?_
  refine hv_cv1 (d_isHouse ok.1.1 ok.1.2.1 ok.1.2.2.1 k2) dX12_sell_2 ml_X12_370 mk_X12_isHouse (by first | rfl | assumption) rfl rfl rfl rfl rfl ?_
  rintro _ _ _ _ ⟨rfl, rfl, rfl, rfl⟩
  refine hv_if_eq (tgt := 24) dX12_sell_5 (by decide) (fun c_5 => ?_) (fun c_5 => ?_)
  · rw [if_neg (fun qq => by rw [bI_0 c_5] at qq; exact absurd qq.1 (by decide))]
    refine hv_iconst (v := -1) dX12_sell_24 (by decide) ?_
    refine hv_iret dX12_sell_25 rfl ?_
    exact ⟨rfl, rfl, rfl, fun _ _ => rfl, k64_rf⟩
  · refine hv_iload_n dX12_sell_8 rfl ?_
    refine hv_cs1 (d_isFew) dX12_sell_9 ml_X12_425 mk_X12_isFew rfl rfl rfl ?_
    rintro _ _ _ _ ⟨rfl, rfl, rfl, rfl⟩
    refine hv_if_eq (tgt := 24) dX12_sell_12 (by decide) (fun c_12 => ?_) (fun c_12 => ?_)
    · rw [if_neg (fun qq => by rw [bI_0 c_12] at qq; exact absurd qq.2.1 (by decide))]
      refine hv_iconst (v := -1) dX12_sell_24 (by decide) ?_
      refine hv_iret dX12_sell_25 rfl ?_
      exact ⟨rfl, rfl, rfl, fun _ _ => rfl, k64_rf⟩
    · refine hv_iload_n dX12_sell_15 rfl ?_
      refine hv_iconst (v := 0) dX12_sell_16 (by decide) ?_
      refine hv_iconst (v := 1) dX12_sell_17 (by decide) ?_
      refine hv_cs3 (d_in) dX12_sell_18 ml_X12_319 mk_X12_in rfl rfl rfl ?_
      rintro _ _ _ _ ⟨rfl, rfl, rfl, rfl⟩
      refine hv_if_ne (tgt := 26) dX12_sell_21 (by decide) (fun c_21 => ?_) (fun c_21 => ?_)
      · rw [if_pos ⟨bI_1 c_5, bI_1 c_12, bI_1 c_21⟩]
        obtain ⟨ai, hai, rfl⟩ := isH_ix k2 (bI_1 c_5)
        obtain ⟨ni, hni, rfl⟩ := inI_ix (n := 24) (by decide) (bI_1 c_12)
        rw [nI_clamp (by omega), nI_clamp (by omega)]
        refine hv_aload_n dX12_sell_26 rfl ?_
        refine hv_cv0 (d_copies ok.1.1 ok.1.2.1) dX12_sell_27 ml_X12_373 mk_X12_copies (by first | rfl | assumption) rfl rfl rfl rfl rfl ?_
        rintro _ _ σ1 _ ⟨rfl, rfl, rfl, q1, q2, q3⟩
        have qc := cp_of ok q1 q2 q3
        refine hv_iconst (v := 0) dX12_sell_30 (by decide) ?_
        refine hv_istore dX12_sell_31 rfl rfl ?_
        refine hv_iconst (v := -1) dX12_sell_33 (by decide) ?_
        refine hv_istore dX12_sell_34 rfl rfl ?_
        refine hv_iconst (v := 0) dX12_sell_36 (by decide) ?_
        refine hv_istore dX12_sell_37 rfl rfl ?_
        exact loop ai ni hai hni (ni + 1) 0 σ1 _ _ _ (by omega) (pSl_0 k2 q1 qc) rfl rfl
      · rw [if_neg (fun qq => by rw [bI_0 c_21] at qq; exact absurd qq.2.2 (by decide))]
        refine hv_iconst (v := -1) dX12_sell_24 (by decide) ?_
        refine hv_iret dX12_sell_25 rfl ?_
        exact ⟨rfl, rfl, rfl, fun _ _ => rfl, k64_rf⟩
theorem d_dearest {L h : Nat} {LF : Nat → hF → Int32} {n w : Int32} (ok : okR σ L h LF) : hCal G (m_X12_dearest (hRq (if inI 0 24 n = true ∧ inI 0 1 w = true then (if w = 0 then (fBest (fDear (twM σ L h LF) (σ 85 L) (dyM σ 98)) 0 (n.toNatClampNeg + 1)).1 else (fBest (fDear (twM σ L h LF) (σ 85 L) (dyM σ 98)) 0 (n.toNatClampNeg + 1)).2) else -1) x y σ τ)) [.ref (hgA G 64), .int n, .int w] shp (rr 38 51 x y) σ τ := by
  have k2 := ok.1.2.2.2.1
  refine hv_enter pn_X12 rfl ?_
  have loop : ∀ ni, ni ≤ 24 → ∀ k i (σ' : hS) (be mo res : Int32), i + k = ni + 1 → pSl L h LF i σ σ' → (be, mo) = fBest (fDear (twM σ L h LF) (σ 85 L) (dyM σ 98)) 0 i → (res = if w = 0 then (fBest (fDear (twM σ L h LF) (σ 85 L) (dyM σ 98)) 0 (ni + 1)).1 else (fBest (fDear (twM σ L h LF) (σ 85 L) (dyM σ 98)) 0 (ni + 1)).2) → hV G (m_X12_dearest (hRq res x y σ τ)) 0 0 shp 30 [some (.ref (hgA G 64)), some (.int (nI ni)), some (.int w), some (.int be), some (.int mo), some (.int (nI i)), none] [] (rr 38 51 x y) σ' τ := by
    intro ni hni k
    induction k with
    | zero =>
      intro i σ' be mo res hi hp hb hres
      obtain rfl : i = ni + 1 := by omega
      rw [← hb] at hres
      refine hv_iload dX12_dearest_30 rfl ?_
      refine hv_iload_n dX12_dearest_32 rfl ?_
      refine hv_icmp_gt (tgt := 66) dX12_dearest_33 (by decide) (fun c_33 => ?_) (fun c_33 => absurd ((nI_lt (by omega) (by omega))) c_33)
      refine hv_iload_n dX12_dearest_66 rfl ?_
      refine hv_if_ne (tgt := 74) dX12_dearest_67 (by decide) (fun c_67 => ?_) (fun c_67 => ?_)
      · rw [if_neg c_67] at hres
        refine hv_iload dX12_dearest_74 rfl ?_
        refine hv_iret dX12_dearest_76 rfl ?_
        exact ⟨congrArg (fun z => some (Value.int z)) hres, rfl, rfl, hp.1, hp.2.1⟩
      · rw [if_pos c_67] at hres
        refine hv_iload_n dX12_dearest_70 rfl ?_
        refine hv_goto (tgt := 76) dX12_dearest_71 (by decide) ?_
        refine hv_iret dX12_dearest_76 rfl ?_
        exact ⟨congrArg (fun z => some (Value.int z)) hres, rfl, rfl, hp.1, hp.2.1⟩
    | succ k ih =>
      intro i σ' be mo res hi hp hb hres
      have okt : okT σ' L h LF := okT_of ok.1 hp.1 rfl (hp.2.1 18 (by decide) (by decide) (by decide))
      have hb1 := congrArg Prod.fst hb
      have hb2 := congrArg Prod.snd hb
      dsimp only at hb1 hb2
      refine hv_iload dX12_dearest_30 rfl ?_
      refine hv_iload_n dX12_dearest_32 rfl ?_
      refine hv_icmp_gt (tgt := 66) dX12_dearest_33 (by decide) (fun c_33 => absurd c_33 ((nI_nlt (by omega) (by omega)))) (fun c_33 => ?_)
      refine hv_aload_n dX12_dearest_36 rfl ?_
      skip
      skip
      refine hv_cv0 (d_priceNow okt hp.2.2.1) dX12_dearest_37 ml_X12_379 mk_X12_priceNow (by first | rfl | assumption) rfl rfl rfl rfl rfl ?_
      rintro _ _ σ1 _ ⟨rfl, rfl, rfl, q1, q2⟩
      rw [twM_of hp.1 rfl, fPrice_congr (tEqM ok.1) (show dEq (tH (twM σ L h LF)) _ _ from hp.2.2.2.2.2)]
      have e99 : σ1 99 = σ' 99 := q1 99 (by decide)
      have hp1 : pSl L h LF i σ σ1 := by
        obtain ⟨p1, p2, p3, p4, p5, p6⟩ := hp
        refine ⟨off_tr p1 q1 (by decide) (by decide), k64_law p2 q2, ?_, ?_, (q2 53 (by decide)).trans p5, ?_⟩
        · unfold okZ; rw [e99]; exact p3
        · unfold okN; rw [e99]; exact p4
        · rw [show dyM σ1 99 = dyM σ' 99 by unfold dyM; rw [e99]]; exact p6
      refine hv_istore dX12_dearest_40 rfl rfl ?_
      refine hv_iload dX12_dearest_42 rfl ?_
      refine hv_iload dX12_dearest_44 rfl ?_
      refine hv_icmp_le (tgt := 56) dX12_dearest_46 (by decide) (fun c_46 => ?_) (fun c_46 => ?_)
      · refine hv_aload_n dX12_dearest_56 rfl ?_
        refine hv_cv0 (d_dayGoes (okT_of okt q1 rfl (q2 18 (by decide))) hp1.2.2.1 hp1.2.2.2.1) dX12_dearest_57 ml_X12_364 mk_X12_dayGoes (by first | rfl | assumption) rfl rfl rfl rfl rfl ?_
        rintro _ _ σ2 _ ⟨rfl, rfl, rfl, q3, q4⟩
        refine hv_iinc dX12_dearest_60 rfl (nI_1 i) rfl rfl ?_
        refine hv_goto (tgt := 30) dX12_dearest_63 (by decide) ?_
        refine hv_drop 6 ?_
        first
          | exact ih (i + 1) σ2 _ _ res (by omega) (pSl_s ok hp1 q3 q4) (by rw [fBest, if_pos (by rw [← hb2]; exact Int32.not_le.mp c_46)]; rfl) hres
          | exact ih (i + 1) σ2 _ _ res (by omega) (pSl_s ok hp1 q3 q4) (by rw [fBest, if_neg (by rw [← hb2]; exact Int32.not_lt.mpr c_46)]; exact hb) hres
      · refine hv_iload dX12_dearest_49 rfl ?_
        refine hv_istore_n dX12_dearest_51 rfl rfl ?_
        refine hv_iload dX12_dearest_52 rfl ?_
        refine hv_istore dX12_dearest_54 rfl rfl ?_
        refine hv_aload_n dX12_dearest_56 rfl ?_
        refine hv_cv0 (d_dayGoes (okT_of okt q1 rfl (q2 18 (by decide))) hp1.2.2.1 hp1.2.2.2.1) dX12_dearest_57 ml_X12_364 mk_X12_dayGoes (by first | rfl | assumption) rfl rfl rfl rfl rfl ?_
        rintro _ _ σ2 _ ⟨rfl, rfl, rfl, q3, q4⟩
        refine hv_iinc dX12_dearest_60 rfl (nI_1 i) rfl rfl ?_
        refine hv_goto (tgt := 30) dX12_dearest_63 (by decide) ?_
        refine hv_drop 6 ?_
        first
          | exact ih (i + 1) σ2 _ _ res (by omega) (pSl_s ok hp1 q3 q4) (by rw [fBest, if_pos (by rw [← hb2]; exact Int32.not_le.mp c_46)]; rfl) hres
          | exact ih (i + 1) σ2 _ _ res (by omega) (pSl_s ok hp1 q3 q4) (by rw [fBest, if_neg (by rw [← hb2]; exact Int32.not_lt.mpr c_46)]; exact hb) hres
  refine hv_iload_n dX12_dearest_0 rfl ?_
  refine hv_cs1 (d_isFew) dX12_dearest_1 ml_X12_425 mk_X12_isFew rfl rfl rfl ?_
  rintro _ _ _ _ ⟨rfl, rfl, rfl, rfl⟩
  refine hv_if_eq (tgt := 16) dX12_dearest_4 (by decide) (fun c_4 => ?_) (fun c_4 => ?_)
  · rw [if_neg (fun qq => by rw [bI_0 c_4] at qq; exact absurd qq.1 (by decide))]
    refine hv_iconst (v := -1) dX12_dearest_16 (by decide) ?_
    refine hv_iret dX12_dearest_17 rfl ?_
    exact ⟨rfl, rfl, rfl, fun _ _ => rfl, k64_rf⟩
  · refine hv_iload_n dX12_dearest_7 rfl ?_
    refine hv_iconst (v := 0) dX12_dearest_8 (by decide) ?_
    refine hv_iconst (v := 1) dX12_dearest_9 (by decide) ?_
    refine hv_cs3 (d_in) dX12_dearest_10 ml_X12_319 mk_X12_in rfl rfl rfl ?_
    rintro _ _ _ _ ⟨rfl, rfl, rfl, rfl⟩
    refine hv_if_ne (tgt := 18) dX12_dearest_13 (by decide) (fun c_13 => ?_) (fun c_13 => ?_)
    · rw [if_pos ⟨bI_1 c_4, bI_1 c_13⟩]
      skip
      obtain ⟨ni, hni, rfl⟩ := inI_ix (n := 24) (by decide) (bI_1 c_4)
      rw [nI_clamp (by omega)]
      refine hv_aload_n dX12_dearest_18 rfl ?_
      refine hv_cv0 (d_copies ok.1.1 ok.1.2.1) dX12_dearest_19 ml_X12_373 mk_X12_copies (by first | rfl | assumption) rfl rfl rfl rfl rfl ?_
      rintro _ _ σ1 _ ⟨rfl, rfl, rfl, q1, q2, q3⟩
      have qc := cp_of ok q1 q2 q3
      refine hv_iconst (v := 0) dX12_dearest_22 (by decide) ?_
      refine hv_istore_n dX12_dearest_23 rfl rfl ?_
      refine hv_iconst (v := -1) dX12_dearest_24 (by decide) ?_
      refine hv_istore dX12_dearest_25 rfl rfl ?_
      refine hv_iconst (v := 0) dX12_dearest_27 (by decide) ?_
      refine hv_istore dX12_dearest_28 rfl rfl ?_
      exact loop ni hni (ni + 1) 0 σ1 _ _ _ (by omega) (pSl_0 k2 q1 qc) rfl rfl
    · rw [if_neg (fun qq => by rw [bI_0 c_13] at qq; exact absurd qq.2 (by decide))]
      refine hv_iconst (v := -1) dX12_dearest_16 (by decide) ?_
      refine hv_iret dX12_dearest_17 rfl ?_
      exact ⟨rfl, rfl, rfl, fun _ _ => rfl, k64_rf⟩
end S48

