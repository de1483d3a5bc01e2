abbrev m_X11_power (Q : hPo) : hMe := (hrm 4, 0, 0, yX11_power, cX11_power, 6, (some FieldType.int), shp, none, Q)
abbrev m_X11_strongest (Q : hPo) : hMe := (hrm 4, 0, 0, yX11_strongest, cX11_strongest, 3, (some FieldType.int), shp, none, Q)
abbrev m_X11_divisor (Q : hPo) : hMe := (hrm 1, 0, 0, yX11_divisor, cX11_divisor, 6, (some FieldType.int), shp, none, Q)
abbrev m_X11_sell (Q : hPo) : hMe := (hrm 6, 0, 0, yX11_sell, cX11_sell, 4, (some FieldType.int), shp, none, Q)
abbrev m_X11_salting (Q : hPo) : hMe := (hrm 7, 0, 0, yX11_salting, cX11_salting, 3, (some FieldType.int), shp, none, Q)
abbrev m_X11_dearest (Q : hPo) : hMe := (hrm 6, 0, 0, yX11_dearest, cX11_dearest, 3, (some FieldType.int), shp, none, Q)
abbrev m_X11_tells (Q : hPo) : hMe := (hrm 3, 0, 0, yX11_tells, cX11_tells, 3, (some FieldType.int), shp, none, Q)
theorem off_wk {X Z : List Nat} {σ σ1 : hS} (h1 : ∀ k, k ∉ X → σ1 k = σ k) (hX : X.all (fun c => Z.contains c) = true) : ∀ k, k ∉ Z → σ1 k = σ k := off_tr (Y := []) h1 (fun _ _ => rfl) hX rfl
def fTold (σ : hS) (k : Nat) (th : Nat → Nat) (ta : hF) : Prop := ∀ i, i < k → σ 36 i = nI (th i) ∧ th i < 7 ∧ σ 37 i = ta i
def fBegan (e : Nat → Nat) (th : Nat → Nat) (ta : hF) (h td : Nat) (k w : Int32) : Int32 := if inI 0 (nI td) k = true ∧ (w = 0 ∨ w = 1) then (if w = 0 then nI (pop7 (fSus e th ta k.toNatClampNeg h)) else nI (fSus e th ta k.toNatClampNeg h)) else -1
def fAskA (e : Nat → Nat) (th : Nat → Nat) (ta : hF) (h td : Nat) (k : Int32) : Int32 := if inI 0 (nI td) k = true then (if fSus e th ta k.toNatClampNeg h = 0 then -2 else (fAsk (fSus e th ta k.toNatClampNeg h) (fun a => fQui e a h) h).1) else -1
section S25
variable {G : hGl} {σ : hS} {τ : hT} {x y : Option Nat}
theorem c_began {h td : Nat} {k w : Int32} {hd fe th : Nat → Nat} {ta : hF} (ok : okP σ h hd fe) (htd : σ 35 2 = nI td) (ht20 : td ≤ 20) (hto : fTold σ td th ta) : hCal G (m_X11_began (hEq (some (.int (fBegan (fun i => fEat hd fe h 0 i) th ta h td k w))) (rr 38 51 x y) σ τ)) [.ref (hgA G 0), .int k, .int w] shp (rr 38 51 x y) σ τ := by
  have k2 := ok.2.1
  refine hv_enter pn_X11 rfl ?_
  unfold fBegan
  refine hv_iload_n dX11_began_0 rfl ?_
  refine hv_if_lt (tgt := 23) dX11_began_1 (by decide) (fun c_1 => ?_) (fun c_1 => ?_)
  · rw [if_neg (fun qq => Int32.not_lt.mpr (of_decide_eq_true qq.1).1 c_1)]
    refine hv_iconst (v := -1) dX11_began_23 (by decide) ?_
    refine hv_iret dX11_began_24 rfl ?_
    exact ⟨rfl, rfl, rfl, rfl⟩
  · refine hv_iload_n dX11_began_4 rfl ?_
    refine hv_aload_n dX11_began_5 rfl ?_
    refine hv_getr dX11_began_6 fl_X11_74 (by first | rfl | assumption) rfl (by first | rfl | assumption) ?_
    refine hv_geti dX11_began_9 fl_X11_341 (by first | rfl | assumption) rfl ?_
    rw [htd]
    refine hv_icmp_gt (tgt := 23) dX11_began_12 (by decide) (fun c_12 => ?_) (fun c_12 => ?_)
    · rw [if_neg (fun qq => Int32.not_lt.mpr (of_decide_eq_true qq.1).2 c_12)]
      refine hv_iconst (v := -1) dX11_began_23 (by decide) ?_
      refine hv_iret dX11_began_24 rfl ?_
      exact ⟨rfl, rfl, rfl, rfl⟩
    · refine hv_aload_n dX11_began_15 rfl ?_
      refine hv_iload_n dX11_began_16 rfl ?_
      refine hv_cv1 (c_isFS) dX11_began_17 ml_X11_238 mk_X11_isFirstOrSecond (by first | rfl | assumption) rfl rfl rfl rfl rfl ?_
      rintro _ _ _ _ ⟨rfl, rfl, rfl, rfl⟩
      refine hv_if_ne (tgt := 25) dX11_began_20 (by decide) (fun c_20 => ?_) (fun c_20 => ?_)
      · have hin : inI 0 (nI td) k = true := decide_eq_true ⟨Int32.not_lt.mp c_1, Int32.not_lt.mp c_12⟩
        rw [if_pos ⟨hin, of_decide_eq_true (bI_1 c_20)⟩]
        obtain ⟨ki, hki, rfl⟩ := inI_ix (by omega) hin
        rw [nI_clamp (by omega)]
        refine hv_aload_n dX11_began_25 rfl ?_
        refine hv_getr dX11_began_26 fl_X11_74 (by first | rfl | assumption) rfl (by first | rfl | assumption) ?_
        refine hv_aload_n dX11_began_29 rfl ?_
        refine hv_getr dX11_began_30 fl_X11_81 (by first | rfl | assumption) rfl (by first | rfl | assumption) ?_
        refine hv_iload_n dX11_began_33 rfl ?_
        refine hv_cv2 (c_suspects ok (by omega) (fun i hi => ⟨(hto i (by omega)).1, (hto i (by omega)).2.1⟩) (fun i hi => (hto i (by omega)).2.2)) dX11_began_34 ml_X11_348 mk_X3_suspects (by first | rfl | assumption) rfl rfl rfl rfl rfl ?_
        rintro _ _ _ _ ⟨rfl, rfl, rfl, rfl⟩
        refine hv_istore_n dX11_began_37 rfl rfl ?_
        refine hv_iload_n dX11_began_38 rfl ?_
        refine hv_if_ne (tgt := 49) dX11_began_39 (by decide) (fun c_39 => ?_) (fun c_39 => ?_)
        · rw [if_neg c_39]
          refine hv_iload_n dX11_began_49 rfl ?_
          refine hv_iret dX11_began_50 rfl ?_
          exact ⟨rfl, rfl, rfl, rfl⟩
        · rw [if_pos c_39]
          refine hv_iload_n dX11_began_42 rfl ?_
          refine hv_cs1 (c_bitCount (fSus_lt _ _ _ _ _ k2)) dX11_began_43 ml_X11_248 mk_J6_bitCount_0f7a4 rfl rfl rfl ?_
          rintro _ _ _ _ ⟨rfl, rfl, rfl, rfl⟩
          refine hv_goto (tgt := 50) dX11_began_46 (by decide) ?_
          refine hv_iret dX11_began_50 rfl ?_
          exact ⟨rfl, rfl, rfl, rfl⟩
      · rw [if_neg (fun qq => of_decide_eq_false (bI_0 c_20) qq.2)]
        refine hv_iconst (v := -1) dX11_began_23 (by decide) ?_
        refine hv_iret dX11_began_24 rfl ?_
        exact ⟨rfl, rfl, rfl, rfl⟩
theorem c_ask {h td : Nat} {k : Int32} {hd fe th : Nat → Nat} {ta : hF} (ok : okP σ h hd fe) (htd : σ 35 2 = nI td) (ht20 : td ≤ 20) (hto : fTold σ td th ta) : hCal G (m_X11_ask (hEq (some (.int (fAskA (fun i => fEat hd fe h 0 i) th ta h td k))) (rr 38 51 x y) σ τ)) [.ref (hgA G 0), .int k] shp (rr 38 51 x y) σ τ := by
  have k2 := ok.2.1
  refine hv_enter pn_X11 rfl ?_
  unfold fAskA
  refine hv_iload_n dX11_ask_0 rfl ?_
  refine hv_if_lt (tgt := 15) dX11_ask_1 (by decide) (fun c_1 => ?_) (fun c_1 => ?_)
  · rw [if_neg (fun qq => Int32.not_lt.mpr (of_decide_eq_true qq).1 c_1)]
    refine hv_iconst (v := -1) dX11_ask_15 (by decide) ?_
    refine hv_iret dX11_ask_16 rfl ?_
    exact ⟨rfl, rfl, rfl, rfl⟩
  · refine hv_iload_n dX11_ask_4 rfl ?_
    refine hv_aload_n dX11_ask_5 rfl ?_
    refine hv_getr dX11_ask_6 fl_X11_74 (by first | rfl | assumption) rfl (by first | rfl | assumption) ?_
    refine hv_geti dX11_ask_9 fl_X11_341 (by first | rfl | assumption) rfl ?_
    rw [htd]
    refine hv_icmp_le (tgt := 17) dX11_ask_12 (by decide) (fun c_12 => ?_) (fun c_12 => ?_)
    · have hin : inI 0 (nI td) k = true := decide_eq_true ⟨Int32.not_lt.mp c_1, c_12⟩
      rw [if_pos hin]
      obtain ⟨ki, hki, rfl⟩ := inI_ix (by omega) hin
      rw [nI_clamp (by omega)]
      have hs128 := fSus_lt (fun i => fEat hd fe h 0 i) th ta ki h k2
      obtain ⟨sm, hsm⟩ : ∃ sm, fSus (fun i => fEat hd fe h 0 i) th ta ki h = sm := ⟨_, rfl⟩
      rw [hsm] at hs128 ⊢
      refine hv_aload_n dX11_ask_17 rfl ?_
      refine hv_getr dX11_ask_18 fl_X11_74 (by first | rfl | assumption) rfl (by first | rfl | assumption) ?_
      refine hv_aload_n dX11_ask_21 rfl ?_
      refine hv_getr dX11_ask_22 fl_X11_81 (by first | rfl | assumption) rfl (by first | rfl | assumption) ?_
      refine hv_iload_n dX11_ask_25 rfl ?_
      refine hv_cv2 (c_suspects ok (by omega) (fun i hi => ⟨(hto i (by omega)).1, (hto i (by omega)).2.1⟩) (fun i hi => (hto i (by omega)).2.2)) dX11_ask_26 ml_X11_348 mk_X3_suspects (by first | rfl | assumption) rfl rfl rfl rfl rfl ?_
      rintro _ _ _ _ ⟨rfl, rfl, rfl, rfl⟩
      rw [hsm]
      refine hv_istore_n dX11_ask_29 rfl rfl ?_
      refine hv_iload_n dX11_ask_30 rfl ?_
      refine hv_if_ne (tgt := 39) dX11_ask_31 (by decide) (fun c_31 => ?_) (fun c_31 => ?_)
      · rw [if_neg (fun qq => c_31 (by rw [qq]; rfl))]
        refine hv_aload_n dX11_ask_39 rfl ?_
        refine hv_getr dX11_ask_40 fl_X11_74 (by first | rfl | assumption) rfl (by first | rfl | assumption) ?_
        refine hv_aload_n dX11_ask_43 rfl ?_
        refine hv_getr dX11_ask_44 fl_X11_81 (by first | rfl | assumption) rfl (by first | rfl | assumption) ?_
        refine hv_iload_n dX11_ask_47 rfl ?_
        refine hv_cv2 (c_bestQuestion ok hs128) dX11_ask_48 ml_X11_351 mk_X3_bestQuestion (by first | rfl | assumption) rfl rfl rfl rfl rfl ?_
        rintro _ _ _ _ ⟨rfl, rfl, rfl, rfl⟩
        refine hv_iret dX11_ask_51 rfl ?_
        exact ⟨rfl, rfl, rfl, rfl⟩
      · rw [if_pos ((nI_eq (b := 0) (by omega) (by decide)).mp c_31)]
        refine hv_bipush (v := -2) dX11_ask_34 (by decide) ?_
        refine hv_goto (tgt := 51) dX11_ask_36 (by decide) ?_
        refine hv_iret dX11_ask_51 rfl ?_
        exact ⟨rfl, rfl, rfl, rfl⟩
    · rw [if_neg (fun qq => c_12 (of_decide_eq_true qq).2)]
      refine hv_iconst (v := -1) dX11_ask_15 (by decide) ?_
      refine hv_iret dX11_ask_16 rfl ?_
      exact ⟨rfl, rfl, rfl, rfl⟩
theorem c_tell {h td : Nat} {a v : Int32} (h38 : σ 38 7 = nI h) (k2 : h ≤ 7) (htd : σ 35 2 = nI td) (ht20 : td ≤ 20) (hv : v = 0 ∨ v = 1) : hCal G (m_X11_tell (fun v' r' σ' τ' => rr 38 51 x y = r' ∧ τ = τ' ∧ (∀ k, k ∉ [35, 36, 37] → σ' k = σ k) ∧ ((isH h a = true ∧ td < 20 ∧ v' = some (.int (nI td)) ∧ σ' 36 = upd (σ 36) td a ∧ σ' 37 = upd (σ 37) td v ∧ σ' 35 2 = nI (td + 1)) ∨ (¬ (isH h a = true ∧ td < 20) ∧ v' = some (.int (-1)) ∧ σ = σ')))) [.ref (hgA G 0), .int a, .int v] shp (rr 38 51 x y) σ τ := by
  refine hv_enter pn_X11 rfl ?_
  refine hv_aload_n dX11_tell_0 rfl ?_
  refine hv_iload_n dX11_tell_1 rfl ?_
  refine hv_cv1 (c_isHouse h38) dX11_tell_2 ml_X11_141 mk_X11_isHouse (by first | rfl | assumption) rfl rfl rfl rfl rfl ?_
  rintro _ _ _ _ ⟨rfl, rfl, rfl, rfl⟩
  refine hv_if_eq (tgt := 20) dX11_tell_5 (by decide) (fun c_5 => ?_) (fun c_5 => ?_)
  · refine hv_iconst (v := -1) dX11_tell_20 (by decide) ?_
    refine hv_iret dX11_tell_21 rfl ?_
    first
      | exact ⟨rfl, rfl, fun _ _ => rfl, Or.inr ⟨fun qq => c_17 (nI_lt (b := 20) qq.2 (by decide)), rfl, rfl⟩⟩
      | exact ⟨rfl, rfl, fun _ _ => rfl, Or.inr ⟨fun qq => by rw [bI_0 c_5] at qq; exact absurd qq.1 (by decide), rfl, rfl⟩⟩
  · obtain ⟨i, hi, rfl⟩ := isH_ix k2 (bI_1 c_5)
    refine hv_aload_n dX11_tell_8 rfl ?_
    refine hv_getr dX11_tell_9 fl_X11_74 (by first | rfl | assumption) rfl (by first | rfl | assumption) ?_
    refine hv_geti dX11_tell_12 fl_X11_341 (by first | rfl | assumption) rfl ?_
    refine hv_bipush (v := 20) dX11_tell_15 (by decide) ?_
    rw [htd]
    refine hv_icmp_lt (tgt := 22) dX11_tell_17 (by decide) (fun c_17 => ?_) (fun c_17 => ?_)
    · have ht2 : td < 20 := (nI_ltI (b := 20) (by omega) (by decide)).mp c_17
      refine hv_aload_n dX11_tell_22 rfl ?_
      refine hv_getr dX11_tell_23 fl_X11_74 (by first | rfl | assumption) rfl (by first | rfl | assumption) ?_
      refine hv_iload_n dX11_tell_26 rfl ?_
      refine hv_iload_n dX11_tell_27 rfl ?_
      refine hv_cv2 (c_note htd ht2 hv) dX11_tell_28 ml_X11_344 mk_X3_note (by first | rfl | assumption) rfl rfl rfl rfl rfl ?_
      rintro _ _ σ1 _ ⟨rfl, rfl, rfl, hq1, hq2, hq3, hq4⟩
      refine hv_iret dX11_tell_31 rfl ?_
      exact ⟨rfl, rfl, hq1, Or.inl ⟨bI_1 c_5, ht2, rfl, hq2, hq3, hq4⟩⟩
    · refine hv_iconst (v := -1) dX11_tell_20 (by decide) ?_
      refine hv_iret dX11_tell_21 rfl ?_
      first
        | exact ⟨rfl, rfl, fun _ _ => rfl, Or.inr ⟨fun qq => c_17 (nI_lt (b := 20) qq.2 (by decide)), rfl, rfl⟩⟩
        | exact ⟨rfl, rfl, fun _ _ => rfl, Or.inr ⟨fun qq => by rw [bI_0 c_5] at qq; exact absurd qq.1 (by decide), rfl, rfl⟩⟩
theorem c_priceIn {h sz : Nat} {n : Int32} (ok : okC σ h sz) (hs5 : σ 11 5 = nI h) : hCal G (m_X11_priceIn (hQx xQ (some (.int (if inI 0 60 n = true then fDear (twC σ h sz) (σ 38 12) (dyC σ 11) n.toNatClampNeg else -1))) (rr 38 51 x y) σ τ)) [.ref (hgA G 0), .int n] shp (rr 38 51 x y) σ τ := by
  refine hv_enter pn_X11 rfl ?_
  refine hv_aload_n dX11_priceIn_0 rfl ?_
  refine hv_iload_n dX11_priceIn_1 rfl ?_
  refine hv_cv1 (c_isSpan) dX11_priceIn_2 ml_X11_217 mk_X11_isSpan (by first | rfl | assumption) rfl rfl rfl rfl rfl ?_
  rintro _ _ _ _ ⟨rfl, rfl, rfl, rfl⟩
  refine hv_if_eq (tgt := 45) dX11_priceIn_5 (by decide) (fun c_5 => ?_) (fun c_5 => ?_)
  · rw [if_neg (by rw [bI_0 c_5]; decide)]
    refine hv_iconst (v := -1) dX11_priceIn_45 (by decide) ?_
    refine hv_iret dX11_priceIn_46 rfl ?_
    first
      | (refine ⟨?_, rfl, rfl, off_tr hq1 hq4 (by decide) (by decide)⟩
         rw [twC_of hq1 rfl, fPrice_congr (tEq.rf (σ := σ) (h := h) (sz := sz)) (show dEq (tH (twC σ h sz)) _ _ from hq2)]
         rfl)
      | exact ⟨rfl, rfl, rfl, fun _ _ => rfl⟩
  · rw [if_pos (bI_1 c_5)]
    obtain ⟨ni, hni, rfl⟩ := inI_ix (n := 60) (by decide) (bI_1 c_5)
    rw [nI_clamp (by omega)]
    refine hv_aload_n dX11_priceIn_8 rfl ?_
    refine hv_getr dX11_priceIn_9 fl_X11_58 (by first | rfl | assumption) rfl (by first | rfl | assumption) ?_
    refine hv_aload_n dX11_priceIn_12 rfl ?_
    refine hv_getr dX11_priceIn_13 fl_X11_81 (by first | rfl | assumption) rfl (by first | rfl | assumption) ?_
    refine hv_aload_n dX11_priceIn_16 rfl ?_
    refine hv_getr dX11_priceIn_17 fl_X11_58 (by first | rfl | assumption) rfl (by first | rfl | assumption) ?_
    refine hv_aload_n dX11_priceIn_20 rfl ?_
    refine hv_getr dX11_priceIn_21 fl_X11_81 (by first | rfl | assumption) rfl (by first | rfl | assumption) ?_
    refine hv_aload_n dX11_priceIn_24 rfl ?_
    refine hv_getr dX11_priceIn_25 fl_X11_44 (by first | rfl | assumption) rfl (by first | rfl | assumption) ?_
    refine hv_iload_n dX11_priceIn_28 rfl ?_
    refine hv_aload_n dX11_priceIn_29 rfl ?_
    refine hv_getr dX11_priceIn_30 fl_X11_81 (by first | rfl | assumption) rfl (by first | rfl | assumption) ?_
    refine hv_geti dX11_priceIn_33 fl_X11_220 (by first | rfl | assumption) rfl ?_
    refine hv_cv4 (c_after ok hs5 (by omega)) dX11_priceIn_36 ml_X11_323 mk_X2_after (by first | rfl | assumption) rfl rfl rfl rfl rfl ?_
    rintro _ _ σ1 _ ⟨rfl, rfl, rfl, hq1, hq2, hq3⟩
    refine hv_cv2 (c_price_22 (okC_of ok hq1 rfl) hq3) dX11_priceIn_39 ml_X11_180 mk_X2_price (by first | rfl | assumption) rfl rfl rfl rfl rfl ?_
    rintro _ _ σ2 _ ⟨rfl, rfl, rfl, hq4⟩
    refine hv_goto (tgt := 46) dX11_priceIn_42 (by decide) ?_
    refine hv_iret dX11_priceIn_46 rfl ?_
    first
      | (refine ⟨?_, rfl, rfl, off_tr hq1 hq4 (by decide) (by decide)⟩
         rw [twC_of hq1 rfl, fPrice_congr (tEq.rf (σ := σ) (h := h) (sz := sz)) (show dEq (tH (twC σ h sz)) _ _ from hq2)]
         rfl)
      | exact ⟨rfl, rfl, rfl, fun _ _ => rfl⟩
theorem c_allIn {h sz : Nat} {n : Int32} (ok : okC σ h sz) (hs5 : σ 11 5 = nI h) : hCal G (m_X11_allIn (hQx xQ (some (.int (if inI 0 60 n = true then hsum (dF (fDays (twC σ h sz) (fGl (twC σ h sz) (σ 38 12)) n.toNatClampNeg (dyC σ 11))) h else -1))) (rr 38 51 x y) σ τ)) [.ref (hgA G 0), .int n] shp (rr 38 51 x y) σ τ := by
  have k2 := ok.2.1
  refine hv_enter pn_X11 rfl ?_
  refine hv_aload_n dX11_allIn_0 rfl ?_
  refine hv_iload_n dX11_allIn_1 rfl ?_
  refine hv_cv1 (c_isSpan) dX11_allIn_2 ml_X11_217 mk_X11_isSpan (by first | rfl | assumption) rfl rfl rfl rfl rfl ?_
  rintro _ _ _ _ ⟨rfl, rfl, rfl, rfl⟩
  refine hv_if_eq (tgt := 37) dX11_allIn_5 (by decide) (fun c_5 => ?_) (fun c_5 => ?_)
  · rw [if_neg (by rw [bI_0 c_5]; decide)]
    refine hv_iconst (v := -1) dX11_allIn_37 (by decide) ?_
    refine hv_iret dX11_allIn_38 rfl ?_
    first
      | (refine ⟨?_, rfl, rfl, off_wk hq1 (by decide)⟩
         rw [hsum_congr (f := σ1 23) h (fun a ha => (hq2.1 a ha).1)])
      | exact ⟨rfl, rfl, rfl, fun _ _ => rfl⟩
  · rw [if_pos (bI_1 c_5)]
    obtain ⟨ni, hni, rfl⟩ := inI_ix (n := 60) (by decide) (bI_1 c_5)
    rw [nI_clamp (by omega)]
    refine hv_aload_n dX11_allIn_8 rfl ?_
    refine hv_getr dX11_allIn_9 fl_X11_58 (by first | rfl | assumption) rfl (by first | rfl | assumption) ?_
    refine hv_aload_n dX11_allIn_12 rfl ?_
    refine hv_getr dX11_allIn_13 fl_X11_81 (by first | rfl | assumption) rfl (by first | rfl | assumption) ?_
    refine hv_aload_n dX11_allIn_16 rfl ?_
    refine hv_getr dX11_allIn_17 fl_X11_44 (by first | rfl | assumption) rfl (by first | rfl | assumption) ?_
    refine hv_iload_n dX11_allIn_20 rfl ?_
    refine hv_aload_n dX11_allIn_21 rfl ?_
    refine hv_getr dX11_allIn_22 fl_X11_81 (by first | rfl | assumption) rfl (by first | rfl | assumption) ?_
    refine hv_geti dX11_allIn_25 fl_X11_220 (by first | rfl | assumption) rfl ?_
    refine hv_cv4 (c_after ok hs5 (by omega)) dX11_allIn_28 ml_X11_323 mk_X2_after (by first | rfl | assumption) rfl rfl rfl rfl rfl ?_
    rintro _ _ σ1 _ ⟨rfl, rfl, rfl, hq1, hq2, hq3⟩
    refine hv_cv0 (c_allFish_22 hq3 k2) dX11_allIn_31 ml_X11_166 mk_X6_allFish (by first | rfl | assumption) rfl rfl rfl rfl rfl ?_
    rintro _ _ _ _ ⟨rfl, rfl, rfl, rfl⟩
    refine hv_goto (tgt := 38) dX11_allIn_34 (by decide) ?_
    refine hv_iret dX11_allIn_38 rfl ?_
    first
      | (refine ⟨?_, rfl, rfl, off_wk hq1 (by decide)⟩
         rw [hsum_congr (f := σ1 23) h (fun a ha => (hq2.1 a ha).1)])
      | exact ⟨rfl, rfl, rfl, fun _ _ => rfl⟩
theorem c_salting {h sz : Nat} {a n : Int32} (ok : okC σ h sz) (hs5 : σ 11 5 = nI h) (hfr : ∀ i, i < h → ∃ f, σ 12 i - σ 14 i = nI f ∧ f < 2 ^ 31) : hCal G (m_X11_salting (hQx xQ (some (.int (if isH h a = true ∧ inI 0 24 n = true ∧ ¬ n = 0 then fLst (fun i => decide (dF (fDays (twC σ h sz) (fGl (twC σ h sz) (σ 38 12)) n.toNatClampNeg (dSalt (dyC σ 11) a.toNatClampNeg (σ 12 a.toNatClampNeg - σ 14 a.toNatClampNeg))) a.toNatClampNeg ≤ dF (fDays (twC σ h sz) (fGl (twC σ h sz) (σ 38 12)) n.toNatClampNeg (dSalt (dyC σ 11) a.toNatClampNeg (nI i))) a.toNatClampNeg)) (min (σ 12 a.toNatClampNeg - σ 14 a.toNatClampNeg).toNatClampNeg 99 + 1) 0 else -1))) (rr 38 51 x y) σ τ)) [.ref (hgA G 0), .int a, .int n] shp (rr 38 51 x y) σ τ := by
  have k2 := ok.2.1
  refine hv_enter pn_X11 rfl ?_
  refine hv_aload_n dX11_salting_0 rfl ?_
  refine hv_iload_n dX11_salting_1 rfl ?_
  refine hv_cv1 (c_isHouse ok.1) dX11_salting_2 ml_X11_141 mk_X11_isHouse (by first | rfl | assumption) rfl rfl rfl rfl rfl ?_
  rintro _ _ _ _ ⟨rfl, rfl, rfl, rfl⟩
  refine hv_if_eq (tgt := 20) dX11_salting_5 (by decide) (fun c_5 => ?_) (fun c_5 => ?_)
  · rw [if_neg (fun qq => by rw [bI_0 c_5] at qq; exact absurd qq.1 (by decide))]
    refine hv_iconst (v := -1) dX11_salting_20 (by decide) ?_
    refine hv_iret dX11_salting_21 rfl ?_
    exact ⟨rfl, rfl, rfl, fun _ _ => rfl⟩
  · refine hv_aload_n dX11_salting_8 rfl ?_
    refine hv_iload_n dX11_salting_9 rfl ?_
    refine hv_cv1 (c_isLook) dX11_salting_10 ml_X11_304 mk_X11_isLook (by first | rfl | assumption) rfl rfl rfl rfl rfl ?_
    rintro _ _ _ _ ⟨rfl, rfl, rfl, rfl⟩
    refine hv_if_eq (tgt := 20) dX11_salting_13 (by decide) (fun c_13 => ?_) (fun c_13 => ?_)
    · rw [if_neg (fun qq => by rw [bI_0 c_13] at qq; exact absurd qq.2.1 (by decide))]
      refine hv_iconst (v := -1) dX11_salting_20 (by decide) ?_
      refine hv_iret dX11_salting_21 rfl ?_
      exact ⟨rfl, rfl, rfl, fun _ _ => rfl⟩
    · refine hv_iload_n dX11_salting_16 rfl ?_
      refine hv_if_ne (tgt := 22) dX11_salting_17 (by decide) (fun c_17 => ?_) (fun c_17 => ?_)
      · rw [if_pos ⟨bI_1 c_5, bI_1 c_13, c_17⟩]
        obtain ⟨ai, hai, rfl⟩ := isH_ix k2 (bI_1 c_5)
        obtain ⟨ni, hni, rfl⟩ := inI_ix (n := 24) (by decide) (bI_1 c_13)
        obtain ⟨ff, hff, hfb⟩ := hfr ai hai
        rw [nI_clamp (by omega), nI_clamp (by omega), hff, nI_clamp hfb]
        refine hv_aload_n dX11_salting_22 rfl ?_
        refine hv_getr dX11_salting_23 fl_X11_58 (by first | rfl | assumption) rfl (by first | rfl | assumption) ?_
        refine hv_aload_n dX11_salting_26 rfl ?_
        refine hv_getr dX11_salting_27 fl_X11_81 (by first | rfl | assumption) rfl (by first | rfl | assumption) ?_
        refine hv_aload_n dX11_salting_30 rfl ?_
        refine hv_getr dX11_salting_31 fl_X11_44 (by first | rfl | assumption) rfl (by first | rfl | assumption) ?_
        refine hv_iload_n dX11_salting_34 rfl ?_
        refine hv_iload_n dX11_salting_35 rfl ?_
        refine hv_cv4 (c_leastSalting ok hs5 (by omega) hai hff hfb) dX11_salting_36 ml_X11_316 mk_X2_leastSalting (by first | rfl | assumption) rfl rfl rfl rfl rfl ?_
        rintro _ _ σ1 _ ⟨rfl, rfl, rfl, hq1⟩
        refine hv_iret dX11_salting_39 rfl ?_
        exact ⟨rfl, rfl, rfl, off_wk hq1 (by decide)⟩
      · rw [if_neg (fun qq => qq.2.2 c_17)]
        refine hv_iconst (v := -1) dX11_salting_20 (by decide) ?_
        refine hv_iret dX11_salting_21 rfl ?_
        exact ⟨rfl, rfl, rfl, fun _ _ => rfl⟩
theorem c_sell {h sz : Nat} {a n w : Int32} (ok : okC σ h sz) (hs5 : σ 11 5 = nI h) : hCal G (m_X11_sell (hQx xQ (some (.int (if isH h a = true ∧ inI 0 24 n = true ∧ (w = 0 ∨ w = 1) then (if w = 0 then (fBest (fSale (twC σ h sz) (σ 38 12) (dyC σ 11) a.toNatClampNeg) (σ 21 4) (n.toNatClampNeg + 1)).1 else (fBest (fSale (twC σ h sz) (σ 38 12) (dyC σ 11) a.toNatClampNeg) (σ 21 4) (n.toNatClampNeg + 1)).2) else -1))) (rr 38 51 x y) σ τ)) [.ref (hgA G 0), .int a, .int n, .int w] shp (rr 38 51 x y) σ τ := by
  have k2 := ok.2.1
  refine hv_enter pn_X11 rfl ?_
  refine hv_aload_n dX11_sell_0 rfl ?_
  refine hv_iload_n dX11_sell_1 rfl ?_
  refine hv_cv1 (c_isHouse ok.1) dX11_sell_2 ml_X11_141 mk_X11_isHouse (by first | rfl | assumption) rfl rfl rfl rfl rfl ?_
  rintro _ _ _ _ ⟨rfl, rfl, rfl, rfl⟩
  refine hv_if_eq (tgt := 24) dX11_sell_5 (by decide) (fun c_5 => ?_) (fun c_5 => ?_)
  · rw [if_neg (fun qq => by rw [bI_0 c_5] at qq; exact absurd qq.1 (by decide))]
    refine hv_iconst (v := -1) dX11_sell_24 (by decide) ?_
    refine hv_iret dX11_sell_25 rfl ?_
    exact ⟨rfl, rfl, rfl, fun _ _ => rfl⟩
  · refine hv_aload_n dX11_sell_8 rfl ?_
    refine hv_iload_n dX11_sell_9 rfl ?_
    refine hv_cv1 (c_isLook) dX11_sell_10 ml_X11_304 mk_X11_isLook (by first | rfl | assumption) rfl rfl rfl rfl rfl ?_
    rintro _ _ _ _ ⟨rfl, rfl, rfl, rfl⟩
    refine hv_if_eq (tgt := 24) dX11_sell_13 (by decide) (fun c_13 => ?_) (fun c_13 => ?_)
    · rw [if_neg (fun qq => by rw [bI_0 c_13] at qq; exact absurd qq.2.1 (by decide))]
      refine hv_iconst (v := -1) dX11_sell_24 (by decide) ?_
      refine hv_iret dX11_sell_25 rfl ?_
      exact ⟨rfl, rfl, rfl, fun _ _ => rfl⟩
    · refine hv_aload_n dX11_sell_16 rfl ?_
      refine hv_iload_n dX11_sell_17 rfl ?_
      refine hv_cv1 (c_isFS) dX11_sell_18 ml_X11_238 mk_X11_isFirstOrSecond (by first | rfl | assumption) rfl rfl rfl rfl rfl ?_
      rintro _ _ _ _ ⟨rfl, rfl, rfl, rfl⟩
      refine hv_if_ne (tgt := 26) dX11_sell_21 (by decide) (fun c_21 => ?_) (fun c_21 => ?_)
      · rw [if_pos ⟨bI_1 c_5, bI_1 c_13, of_decide_eq_true (bI_1 c_21)⟩]
        obtain ⟨ai, hai, rfl⟩ := isH_ix k2 (bI_1 c_5)
        obtain ⟨ni, hni, rfl⟩ := inI_ix (n := 24) (by decide) (bI_1 c_13)
        rw [nI_clamp (by omega), nI_clamp (by omega)]
        refine hv_aload_n dX11_sell_26 rfl ?_
        refine hv_getr dX11_sell_27 fl_X11_58 (by first | rfl | assumption) rfl (by first | rfl | assumption) ?_
        refine hv_aload_n dX11_sell_30 rfl ?_
        refine hv_getr dX11_sell_31 fl_X11_81 (by first | rfl | assumption) rfl (by first | rfl | assumption) ?_
        refine hv_aload_n dX11_sell_34 rfl ?_
        refine hv_getr dX11_sell_35 fl_X11_44 (by first | rfl | assumption) rfl (by first | rfl | assumption) ?_
        refine hv_iload_n dX11_sell_38 rfl ?_
        refine hv_iload_n dX11_sell_39 rfl ?_
        refine hv_cv4 (c_findBestSale (Q := fun v' r' σ' τ' => none = v' ∧ rr 38 51 x y = r' ∧ τ = τ' ∧ (∀ c, c ∉ xBst → σ' c = σ c) ∧ (σ' 21 4, σ' 21 5) = fBest (fSale (twC σ h sz) (σ 38 12) (dyC σ 11) ai) (σ 21 4) (ni + 1)) ok hs5 hni hai (fun σ' u1 u2 => ⟨rfl, rfl, rfl, u1, u2⟩)) dX11_sell_40 ml_X11_307 mk_X2_findBestSale (by first | rfl | assumption) rfl rfl rfl rfl rfl ?_
        rintro _ _ σ1 _ ⟨rfl, rfl, rfl, hq1, hq2⟩
        have hb1 := congrArg Prod.fst hq2
        have hb2 := congrArg Prod.snd hq2
        refine hv_iload_n dX11_sell_43 rfl ?_
        refine hv_if_ne (tgt := 57) dX11_sell_44 (by decide) (fun c_44 => ?_) (fun c_44 => ?_)
        · rw [if_neg c_44]
          refine hv_aload_n dX11_sell_57 rfl ?_
          refine hv_getr dX11_sell_58 fl_X11_58 (by first | rfl | assumption) rfl (by first | rfl | assumption) ?_
          refine hv_geti dX11_sell_61 fl_X11_313 (by first | rfl | assumption) rfl ?_
          refine hv_iret dX11_sell_64 rfl ?_
          first
            | exact ⟨congrArg (fun z => some (Value.int z)) hb1.symm, rfl, rfl, off_wk hq1 (by decide)⟩
            | exact ⟨congrArg (fun z => some (Value.int z)) hb2.symm, rfl, rfl, off_wk hq1 (by decide)⟩
        · rw [if_pos c_44]
          refine hv_aload_n dX11_sell_47 rfl ?_
          refine hv_getr dX11_sell_48 fl_X11_58 (by first | rfl | assumption) rfl (by first | rfl | assumption) ?_
          refine hv_geti dX11_sell_51 fl_X11_310 (by first | rfl | assumption) rfl ?_
          refine hv_goto (tgt := 64) dX11_sell_54 (by decide) ?_
          refine hv_iret dX11_sell_64 rfl ?_
          first
            | exact ⟨congrArg (fun z => some (Value.int z)) hb1.symm, rfl, rfl, off_wk hq1 (by decide)⟩
            | exact ⟨congrArg (fun z => some (Value.int z)) hb2.symm, rfl, rfl, off_wk hq1 (by decide)⟩
      · rw [if_neg (fun qq => of_decide_eq_false (bI_0 c_21) qq.2.2)]
        refine hv_iconst (v := -1) dX11_sell_24 (by decide) ?_
        refine hv_iret dX11_sell_25 rfl ?_
        exact ⟨rfl, rfl, rfl, fun _ _ => rfl⟩
theorem c_dearest {h sz : Nat} {n w : Int32} (ok : okC σ h sz) (hs5 : σ 11 5 = nI h) : hCal G (m_X11_dearest (hQx xQ (some (.int (if inI 0 24 n = true ∧ (w = 0 ∨ w = 1) then (if w = 0 then (fBest (fDear (twC σ h sz) (σ 38 12) (dyC σ 11)) (σ 21 4) (n.toNatClampNeg + 1)).1 else (fBest (fDear (twC σ h sz) (σ 38 12) (dyC σ 11)) (σ 21 4) (n.toNatClampNeg + 1)).2) else -1))) (rr 38 51 x y) σ τ)) [.ref (hgA G 0), .int n, .int w] shp (rr 38 51 x y) σ τ := by
  refine hv_enter pn_X11 rfl ?_
  refine hv_aload_n dX11_dearest_0 rfl ?_
  refine hv_iload_n dX11_dearest_1 rfl ?_
  refine hv_cv1 (c_isLook) dX11_dearest_2 ml_X11_304 mk_X11_isLook (by first | rfl | assumption) rfl rfl rfl rfl rfl ?_
  rintro _ _ _ _ ⟨rfl, rfl, rfl, rfl⟩
  refine hv_if_eq (tgt := 16) dX11_dearest_5 (by decide) (fun c_5 => ?_) (fun c_5 => ?_)
  · rw [if_neg (fun qq => by rw [bI_0 c_5] at qq; exact absurd qq.1 (by decide))]
    refine hv_iconst (v := -1) dX11_dearest_16 (by decide) ?_
    refine hv_iret dX11_dearest_17 rfl ?_
    exact ⟨rfl, rfl, rfl, fun _ _ => rfl⟩
  · refine hv_aload_n dX11_dearest_8 rfl ?_
    refine hv_iload_n dX11_dearest_9 rfl ?_
    refine hv_cv1 (c_isFS) dX11_dearest_10 ml_X11_238 mk_X11_isFirstOrSecond (by first | rfl | assumption) rfl rfl rfl rfl rfl ?_
    rintro _ _ _ _ ⟨rfl, rfl, rfl, rfl⟩
    refine hv_if_ne (tgt := 18) dX11_dearest_13 (by decide) (fun c_13 => ?_) (fun c_13 => ?_)
    · rw [if_pos ⟨bI_1 c_5, of_decide_eq_true (bI_1 c_13)⟩]
      obtain ⟨ni, hni, rfl⟩ := inI_ix (n := 24) (by decide) (bI_1 c_5)
      rw [nI_clamp (by omega)]
      refine hv_aload_n dX11_dearest_18 rfl ?_
      refine hv_getr dX11_dearest_19 fl_X11_58 (by first | rfl | assumption) rfl (by first | rfl | assumption) ?_
      refine hv_aload_n dX11_dearest_22 rfl ?_
      refine hv_getr dX11_dearest_23 fl_X11_81 (by first | rfl | assumption) rfl (by first | rfl | assumption) ?_
      refine hv_aload_n dX11_dearest_26 rfl ?_
      refine hv_getr dX11_dearest_27 fl_X11_44 (by first | rfl | assumption) rfl (by first | rfl | assumption) ?_
      refine hv_iload_n dX11_dearest_30 rfl ?_
      refine hv_cv3 (c_findDearest (Q := fun v' r' σ' τ' => none = v' ∧ rr 38 51 x y = r' ∧ τ = τ' ∧ (∀ c, c ∉ xBst → σ' c = σ c) ∧ (σ' 21 4, σ' 21 5) = fBest (fDear (twC σ h sz) (σ 38 12) (dyC σ 11)) (σ 21 4) (ni + 1)) ok hs5 hni (fun σ' u1 u2 => ⟨rfl, rfl, rfl, u1, u2⟩)) dX11_dearest_31 ml_X11_319 mk_X2_findDearest (by first | rfl | assumption) rfl rfl rfl rfl rfl ?_
      rintro _ _ σ1 _ ⟨rfl, rfl, rfl, hq1, hq2⟩
      have hb1 := congrArg Prod.fst hq2
      have hb2 := congrArg Prod.snd hq2
      refine hv_iload_n dX11_dearest_34 rfl ?_
      refine hv_if_ne (tgt := 48) dX11_dearest_35 (by decide) (fun c_35 => ?_) (fun c_35 => ?_)
      · rw [if_neg c_35]
        refine hv_aload_n dX11_dearest_48 rfl ?_
        refine hv_getr dX11_dearest_49 fl_X11_58 (by first | rfl | assumption) rfl (by first | rfl | assumption) ?_
        refine hv_geti dX11_dearest_52 fl_X11_313 (by first | rfl | assumption) rfl ?_
        refine hv_iret dX11_dearest_55 rfl ?_
        first
          | exact ⟨congrArg (fun z => some (Value.int z)) hb1.symm, rfl, rfl, off_wk hq1 (by decide)⟩
          | exact ⟨congrArg (fun z => some (Value.int z)) hb2.symm, rfl, rfl, off_wk hq1 (by decide)⟩
      · rw [if_pos c_35]
        refine hv_aload_n dX11_dearest_38 rfl ?_
        refine hv_getr dX11_dearest_39 fl_X11_58 (by first | rfl | assumption) rfl (by first | rfl | assumption) ?_
        refine hv_geti dX11_dearest_42 fl_X11_310 (by first | rfl | assumption) rfl ?_
        refine hv_goto (tgt := 55) dX11_dearest_45 (by decide) ?_
        refine hv_iret dX11_dearest_55 rfl ?_
        first
          | exact ⟨congrArg (fun z => some (Value.int z)) hb1.symm, rfl, rfl, off_wk hq1 (by decide)⟩
          | exact ⟨congrArg (fun z => some (Value.int z)) hb2.symm, rfl, rfl, off_wk hq1 (by decide)⟩
    · rw [if_neg (fun qq => of_decide_eq_false (bI_0 c_13) qq.2)]
      refine hv_iconst (v := -1) dX11_dearest_16 (by decide) ?_
      refine hv_iret dX11_dearest_17 rfl ?_
      exact ⟨rfl, rfl, rfl, fun _ _ => rfl⟩
end S25

