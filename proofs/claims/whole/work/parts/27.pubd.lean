section S27
variable {G : hGl} {σ : hS} {τ : hT} {x y : Option Nat}
theorem c_poorest {h sz : Nat} {n w : Int32} (ok : okC σ h sz) (hs5 : σ 11 5 = nI h) : hCal G (m_X11_poorest (hQx xQ (some (.int (if inI 0 60 n = true ∧ (w = 0 ∨ w = 1) then (if h = 0 then -2 else if w = 0 then nI (amin (dF (fDays (twC σ h sz) (fGl (twC σ h sz) (σ 38 12)) n.toNatClampNeg (dyC σ 11))) h) else dF (fDays (twC σ h sz) (fGl (twC σ h sz) (σ 38 12)) n.toNatClampNeg (dyC σ 11)) (amin (dF (fDays (twC σ h sz) (fGl (twC σ h sz) (σ 38 12)) n.toNatClampNeg (dyC σ 11))) h)) else -1))) (rr 38 51 x y) σ τ)) [.ref (hgA G 0), .int n, .int w] shp (rr 38 51 x y) σ τ := by
  have k2 := ok.2.1
  refine hv_enter pn_X11 rfl ?_
  refine hv_aload_n dX11_poorest_0 rfl ?_
  refine hv_iload_n dX11_poorest_1 rfl ?_
  refine hv_cv1 (c_isSpan) dX11_poorest_2 ml_X11_217 mk_X11_isSpan (by first | rfl | assumption) rfl rfl rfl rfl rfl ?_
  rintro _ _ _ _ ⟨rfl, rfl, rfl, rfl⟩
  refine hv_if_eq (tgt := 16) dX11_poorest_5 (by decide) (fun c_5 => ?_) (fun c_5 => ?_)
  · rw [if_neg (fun qq => by rw [bI_0 c_5] at qq; exact absurd qq.1 (by decide))]
    refine hv_iconst (v := -1) dX11_poorest_16 (by decide) ?_
    refine hv_iret dX11_poorest_17 rfl ?_
    exact ⟨rfl, rfl, rfl, fun _ _ => rfl⟩
  · refine hv_aload_n dX11_poorest_8 rfl ?_
    refine hv_iload_n dX11_poorest_9 rfl ?_
    refine hv_cv1 (c_isFS) dX11_poorest_10 ml_X11_238 mk_X11_isFirstOrSecond (by first | rfl | assumption) rfl rfl rfl rfl rfl ?_
    rintro _ _ _ _ ⟨rfl, rfl, rfl, rfl⟩
    refine hv_if_ne (tgt := 18) dX11_poorest_13 (by decide) (fun c_13 => ?_) (fun c_13 => ?_)
    · rw [if_pos ⟨bI_1 c_5, of_decide_eq_true (bI_1 c_13)⟩]
      obtain ⟨ni, hni, rfl⟩ := inI_ix (n := 60) (by decide) (bI_1 c_5)
      rw [nI_clamp (by omega)]
      refine hv_aload_n dX11_poorest_18 rfl ?_
      refine hv_getr dX11_poorest_19 fl_X11_81 (by first | rfl | assumption) rfl (by first | rfl | assumption) ?_
      refine hv_geti dX11_poorest_22 fl_X11_241 (by first | rfl | assumption) rfl ?_
      rw [ok.1]
      refine hv_if_ne (tgt := 31) dX11_poorest_25 (by decide) (fun c_25 => ?_) (fun c_25 => ?_)
      · have hh0 : ¬ h = 0 := fun qq => c_25 (by rw [qq]; rfl)
        rw [if_neg hh0]
        refine hv_aload_n dX11_poorest_31 rfl ?_
        refine hv_getr dX11_poorest_32 fl_X11_58 (by first | rfl | assumption) rfl (by first | rfl | assumption) ?_
        refine hv_aload_n dX11_poorest_35 rfl ?_
        refine hv_getr dX11_poorest_36 fl_X11_81 (by first | rfl | assumption) rfl (by first | rfl | assumption) ?_
        refine hv_aload_n dX11_poorest_39 rfl ?_
        refine hv_getr dX11_poorest_40 fl_X11_44 (by first | rfl | assumption) rfl (by first | rfl | assumption) ?_
        refine hv_iload_n dX11_poorest_43 rfl ?_
        refine hv_aload_n dX11_poorest_44 rfl ?_
        refine hv_getr dX11_poorest_45 fl_X11_81 (by first | rfl | assumption) rfl (by first | rfl | assumption) ?_
        refine hv_geti dX11_poorest_48 fl_X11_220 (by first | rfl | assumption) rfl ?_
        refine hv_cv4 (c_after ok hs5 (by omega)) dX11_poorest_51 ml_X11_323 mk_X2_after (by first | rfl | assumption) rfl rfl rfl rfl rfl ?_
        rintro _ _ σ1 _ ⟨rfl, rfl, rfl, hq1, hq2, hq3⟩
        refine hv_astore_n dX11_poorest_54 rfl rfl ?_
        refine hv_aload_n dX11_poorest_55 rfl ?_
        refine hv_cv0 (c_fewestFish hq3 k2 (by omega)) dX11_poorest_56 ml_X11_327 mk_X6_fewestFish (by first | rfl | assumption) rfl rfl rfl rfl rfl ?_
        rintro _ _ _ _ ⟨rfl, rfl, rfl, rfl⟩
        rw [amin_congr (f := σ1 23) h (fun a ha => (hq2.1 a ha).1)]
        have hml := amin_le (dF (fDays (twC σ h sz) (fGl (twC σ h sz) (σ 38 12)) ni (dyC σ 11))) h
        obtain ⟨am, ham⟩ : ∃ am, amin (dF (fDays (twC σ h sz) (fGl (twC σ h sz) (σ 38 12)) ni (dyC σ 11))) h = am := ⟨_, rfl⟩
        rw [ham] at hml ⊢
        refine hv_istore dX11_poorest_59 rfl rfl ?_
        refine hv_iload_n dX11_poorest_61 rfl ?_
        refine hv_if_ne (tgt := 70) dX11_poorest_62 (by decide) (fun c_62 => ?_) (fun c_62 => ?_)
        · rw [if_neg c_62]
          refine hv_aload_n dX11_poorest_70 rfl ?_
          refine hv_getr dX11_poorest_71 fl_X11_144 (by first | rfl | assumption) rfl (by first | rfl | assumption) ?_
          refine hv_iload dX11_poorest_74 rfl ?_
          refine hv_iald dX11_poorest_76 (by first | rfl | assumption) rfl (by first | assumption | omega) (by first | decide | assumption) ?_
          refine hv_iret dX11_poorest_77 rfl ?_
          first
            | exact ⟨congrArg (fun z => some (Value.int z)) (hq2.1 am (by omega)).1.symm, rfl, rfl, off_wk hq1 (by decide)⟩
            | exact ⟨rfl, rfl, rfl, off_wk hq1 (by decide)⟩
        · rw [if_pos c_62]
          refine hv_iload dX11_poorest_65 rfl ?_
          refine hv_goto (tgt := 77) dX11_poorest_67 (by decide) ?_
          refine hv_iret dX11_poorest_77 rfl ?_
          first
            | exact ⟨congrArg (fun z => some (Value.int z)) (hq2.1 am (by omega)).1.symm, rfl, rfl, off_wk hq1 (by decide)⟩
            | exact ⟨rfl, rfl, rfl, off_wk hq1 (by decide)⟩
      · rw [if_pos ((nI_eq (b := 0) (by omega) (by decide)).mp c_25)]
        refine hv_bipush (v := -2) dX11_poorest_28 (by decide) ?_
        refine hv_iret dX11_poorest_30 rfl ?_
        exact ⟨rfl, rfl, rfl, fun _ _ => rfl⟩
    · rw [if_neg (fun qq => of_decide_eq_false (bI_0 c_13) qq.2)]
      refine hv_iconst (v := -1) dX11_poorest_16 (by decide) ?_
      refine hv_iret dX11_poorest_17 rfl ?_
      exact ⟨rfl, rfl, rfl, fun _ _ => rfl⟩
theorem c_then {h sz : Nat} {a n w : Int32} (ok : okC σ h sz) (hs5 : σ 11 5 = nI h) : hCal G (m_X11_then (hQx xQ (some (.int (if isH h a = true ∧ inI 0 60 n = true ∧ inI 0 2 w = true then (if w = 0 then dF (fDays (twC σ h sz) (fGl (twC σ h sz) (σ 38 12)) n.toNatClampNeg (dyC σ 11)) a.toNatClampNeg else if w = 1 then dA (fDays (twC σ h sz) (fGl (twC σ h sz) (σ 38 12)) n.toNatClampNeg (dyC σ 11)) a.toNatClampNeg - σ 15 a.toNatClampNeg else dS (fDays (twC σ h sz) (fGl (twC σ h sz) (σ 38 12)) n.toNatClampNeg (dyC σ 11)) a.toNatClampNeg) else -1))) (rr 38 51 x y) σ τ)) [.ref (hgA G 0), .int a, .int n, .int w] shp (rr 38 51 x y) σ τ := by
  have k2 := ok.2.1
  refine hv_enter pn_X11 rfl ?_
  refine hv_aload_n dX11_then_0 rfl ?_
  refine hv_iload_n dX11_then_1 rfl ?_
  refine hv_cv1 (c_isHouse ok.1) dX11_then_2 ml_X11_141 mk_X11_isHouse (by first | rfl | assumption) rfl rfl rfl rfl rfl ?_
  rintro _ _ _ _ ⟨rfl, rfl, rfl, rfl⟩
  refine hv_if_eq (tgt := 25) dX11_then_5 (by decide) (fun c_5 => ?_) (fun c_5 => ?_)
  · rw [if_neg (fun qq => by rw [bI_0 c_5] at qq; exact absurd qq.1 (by decide))]
    refine hv_iconst (v := -1) dX11_then_25 (by decide) ?_
    refine hv_iret dX11_then_26 rfl ?_
    exact ⟨rfl, rfl, rfl, fun _ _ => rfl⟩
  · refine hv_aload_n dX11_then_8 rfl ?_
    refine hv_iload_n dX11_then_9 rfl ?_
    refine hv_cv1 (c_isSpan) dX11_then_10 ml_X11_217 mk_X11_isSpan (by first | rfl | assumption) rfl rfl rfl rfl rfl ?_
    rintro _ _ _ _ ⟨rfl, rfl, rfl, rfl⟩
    refine hv_if_eq (tgt := 25) dX11_then_13 (by decide) (fun c_13 => ?_) (fun c_13 => ?_)
    · rw [if_neg (fun qq => by rw [bI_0 c_13] at qq; exact absurd qq.2.1 (by decide))]
      refine hv_iconst (v := -1) dX11_then_25 (by decide) ?_
      refine hv_iret dX11_then_26 rfl ?_
      exact ⟨rfl, rfl, rfl, fun _ _ => rfl⟩
    · refine hv_iload_n dX11_then_16 rfl ?_
      refine hv_if_lt (tgt := 25) dX11_then_17 (by decide) (fun c_17 => ?_) (fun c_17 => ?_)
      · rw [if_neg (fun qq => Int32.not_lt.mpr (of_decide_eq_true qq.2.2).1 c_17)]
        refine hv_iconst (v := -1) dX11_then_25 (by decide) ?_
        refine hv_iret dX11_then_26 rfl ?_
        exact ⟨rfl, rfl, rfl, fun _ _ => rfl⟩
      · refine hv_iload_n dX11_then_20 rfl ?_
        refine hv_iconst (v := 2) dX11_then_21 (by decide) ?_
        refine hv_icmp_le (tgt := 27) dX11_then_22 (by decide) (fun c_22 => ?_) (fun c_22 => ?_)
        · rw [if_pos ⟨bI_1 c_5, bI_1 c_13, decide_eq_true ⟨Int32.not_lt.mp c_17, c_22⟩⟩]
          obtain ⟨ai, hai, rfl⟩ := isH_ix k2 (bI_1 c_5)
          obtain ⟨ni, hni, rfl⟩ := inI_ix (n := 60) (by decide) (bI_1 c_13)
          rw [nI_clamp (by omega), nI_clamp (by omega)]
          refine hv_aload_n dX11_then_27 rfl ?_
          refine hv_getr dX11_then_28 fl_X11_58 (by first | rfl | assumption) rfl (by first | rfl | assumption) ?_
          refine hv_aload_n dX11_then_31 rfl ?_
          refine hv_getr dX11_then_32 fl_X11_81 (by first | rfl | assumption) rfl (by first | rfl | assumption) ?_
          refine hv_aload_n dX11_then_35 rfl ?_
          refine hv_getr dX11_then_36 fl_X11_44 (by first | rfl | assumption) rfl (by first | rfl | assumption) ?_
          refine hv_iload_n dX11_then_39 rfl ?_
          refine hv_aload_n dX11_then_40 rfl ?_
          refine hv_getr dX11_then_41 fl_X11_81 (by first | rfl | assumption) rfl (by first | rfl | assumption) ?_
          refine hv_geti dX11_then_44 fl_X11_220 (by first | rfl | assumption) rfl ?_
          refine hv_cv4 (c_after ok hs5 (by omega)) dX11_then_47 ml_X11_323 mk_X2_after (by first | rfl | assumption) rfl rfl rfl rfl rfl ?_
          rintro _ _ σ1 _ ⟨rfl, rfl, rfl, hq1, hq2, hq3⟩
          obtain ⟨r1, -, r3, r4, -⟩ := hq2.1 ai hai
          refine hv_astore dX11_then_50 rfl rfl ?_
          refine hv_iload_n dX11_then_52 rfl ?_
          by_cases c_53_0 : w = 0
          · refine hv_lkin (off := 27) (tgt := 80) dX11_then_53 c_53_0 (by decide) (by decide) (by decide) ?_
            refine hv_aload dX11_then_80 rfl ?_
            refine hv_getr dX11_then_82 fl_X11_144 (by first | rfl | assumption) rfl (by first | rfl | assumption) ?_
            refine hv_iload_n dX11_then_85 rfl ?_
            refine hv_iald dX11_then_86 (by first | rfl | assumption) rfl (by first | assumption | omega) (by first | decide | assumption) ?_
            refine hv_iret dX11_then_87 rfl ?_
            rw [if_pos c_53_0]; exact ⟨congrArg (fun z => some (Value.int z)) r1.symm, rfl, rfl, off_wk hq1 (by decide)⟩
          by_cases c_53_1 : w = 1
          · refine hv_lkin (off := 35) (tgt := 88) dX11_then_53 c_53_1 (by decide) (by decide) (by decide) ?_
            refine hv_aload dX11_then_88 rfl ?_
            refine hv_getr dX11_then_90 fl_X11_160 (by first | rfl | assumption) rfl (by first | rfl | assumption) ?_
            refine hv_iload_n dX11_then_93 rfl ?_
            refine hv_iald dX11_then_94 (by first | rfl | assumption) rfl (by first | assumption | omega) (by first | decide | assumption) ?_
            refine hv_aload_n dX11_then_95 rfl ?_
            refine hv_getr dX11_then_96 fl_X11_44 (by first | rfl | assumption) rfl (by first | rfl | assumption) ?_
            refine hv_getr dX11_then_99 fl_X11_160 (by first | rfl | assumption) rfl (by first | rfl | assumption) ?_
            refine hv_iload_n dX11_then_102 rfl ?_
            refine hv_iald dX11_then_103 (by first | rfl | assumption) rfl (by first | assumption | omega) (by first | decide | assumption) ?_
            refine hv_isub dX11_then_104 ?_
            refine hv_iret dX11_then_105 rfl ?_
            rw [if_neg c_53_0, if_pos c_53_1, hq1 15 (by decide)]; exact ⟨congrArg (fun z => some (Value.int (z - σ 15 ai))) r4.symm, rfl, rfl, off_wk hq1 (by decide)⟩
          refine hv_lkout (tgt := 106) dX11_then_53 (by decide) (by show Op.lookupswitch.offset [(0, 27), (1, 35)] 53 _ = 53; rw [lv_osw (k := 0) c_53_0 (by decide), lv_osw (k := 1) c_53_1 (by decide)]; rfl) (by decide) ?_
          refine hv_aload dX11_then_106 rfl ?_
          refine hv_getr dX11_then_108 fl_X11_157 (by first | rfl | assumption) rfl (by first | rfl | assumption) ?_
          refine hv_iload_n dX11_then_111 rfl ?_
          refine hv_iald dX11_then_112 (by first | rfl | assumption) rfl (by first | assumption | omega) (by first | decide | assumption) ?_
          refine hv_iret dX11_then_113 rfl ?_
          rw [if_neg c_53_0, if_neg c_53_1]; exact ⟨congrArg (fun z => some (Value.int z)) r3.symm, rfl, rfl, off_wk hq1 (by decide)⟩
        · rw [if_neg (fun qq => c_22 (of_decide_eq_true qq.2.2).2)]
          refine hv_iconst (v := -1) dX11_then_25 (by decide) ?_
          refine hv_iret dX11_then_26 rfl ?_
          exact ⟨rfl, rfl, rfl, fun _ _ => rfl⟩
theorem c_tells {h sz : Nat} {a w : Int32} (ok : okC σ h sz) (hs5 : σ 11 5 = nI h) : hCal G (m_X11_tells (hQx xQ (some (.int (if w = 0 then fPrice (twC σ h sz) (dyC σ 11) else hsel h a (-1) (fun i => if w = 1 then fEats (twC σ h sz) (dyC σ 11) (hsum (σ 12) h) i else if w = 2 then fRots (twC σ h sz) (dyC σ 11) (hsum (σ 12) h) i else if w = 3 then fGlut (twC σ h sz) (dyC σ 11) (hsum (σ 12) h) i else -1)))) (rr 38 51 x y) σ τ)) [.ref (hgA G 0), .int a, .int w] shp (rr 38 51 x y) σ τ := by
  have k2 := ok.2.1
  refine hv_enter pn_X11 rfl ?_
  refine hv_iload_n dX11_tells_0 rfl ?_
  refine hv_if_ne (tgt := 20) dX11_tells_1 (by decide) (fun c_1 => ?_) (fun c_1 => ?_)
  · rw [if_neg c_1]
    refine hv_aload_n dX11_tells_20 rfl ?_
    refine hv_iload_n dX11_tells_21 rfl ?_
    refine hv_cv1 (c_isHouse ok.1) dX11_tells_22 ml_X11_141 mk_X11_isHouse (by first | rfl | assumption) rfl rfl rfl rfl rfl ?_
    rintro _ _ _ _ ⟨rfl, rfl, rfl, rfl⟩
    refine hv_if_ne (tgt := 30) dX11_tells_25 (by decide) (fun c_25 => ?_) (fun c_25 => ?_)
    · obtain ⟨i, hi, rfl⟩ := isH_ix k2 (bI_1 c_25)
      rw [hsel_yes hi k2]
      refine hv_iload_n dX11_tells_30 rfl ?_
      by_cases c_31_0 : w = 1
      · refine hv_tin (off := 25) (tgt := 56) (i := 0) dX11_tells_31 c_31_0 (by decide) (by decide) (by decide) (by decide) ?_
        refine hv_aload_n dX11_tells_56 rfl ?_
        refine hv_getr dX11_tells_57 fl_X11_58 (by first | rfl | assumption) rfl (by first | rfl | assumption) ?_
        refine hv_aload_n dX11_tells_60 rfl ?_
        refine hv_getr dX11_tells_61 fl_X11_81 (by first | rfl | assumption) rfl (by first | rfl | assumption) ?_
        refine hv_aload_n dX11_tells_64 rfl ?_
        refine hv_getr dX11_tells_65 fl_X11_44 (by first | rfl | assumption) rfl (by first | rfl | assumption) ?_
        refine hv_iload_n dX11_tells_68 rfl ?_
        refine hv_aload_n dX11_tells_69 rfl ?_
        refine hv_getr dX11_tells_70 fl_X11_44 (by first | rfl | assumption) rfl (by first | rfl | assumption) ?_
        refine hv_cv0 (c_allFish_11 hs5 k2) dX11_tells_73 ml_X11_166 mk_X6_allFish (by first | rfl | assumption) rfl rfl rfl rfl rfl ?_
        rintro _ _ _ _ ⟨rfl, rfl, rfl, rfl⟩
        refine hv_cv4 (c_eaten_11 ok (by omega)) dX11_tells_76 ml_X11_184 mk_X2_eaten (by first | rfl | assumption) rfl rfl rfl rfl rfl ?_
        rintro _ _ σ1 _ ⟨rfl, rfl, rfl, hq1⟩
        refine hv_iret dX11_tells_79 rfl ?_
        rw [if_pos c_31_0]; exact ⟨rfl, rfl, rfl, off_wk hq1 (by decide)⟩
      by_cases c_31_1 : w = 2
      · refine hv_tin (off := 49) (tgt := 80) (i := 1) dX11_tells_31 c_31_1 (by decide) (by decide) (by decide) (by decide) ?_
        refine hv_aload_n dX11_tells_80 rfl ?_
        refine hv_getr dX11_tells_81 fl_X11_58 (by first | rfl | assumption) rfl (by first | rfl | assumption) ?_
        refine hv_aload_n dX11_tells_84 rfl ?_
        refine hv_getr dX11_tells_85 fl_X11_81 (by first | rfl | assumption) rfl (by first | rfl | assumption) ?_
        refine hv_aload_n dX11_tells_88 rfl ?_
        refine hv_getr dX11_tells_89 fl_X11_44 (by first | rfl | assumption) rfl (by first | rfl | assumption) ?_
        refine hv_iload_n dX11_tells_92 rfl ?_
        refine hv_aload_n dX11_tells_93 rfl ?_
        refine hv_getr dX11_tells_94 fl_X11_44 (by first | rfl | assumption) rfl (by first | rfl | assumption) ?_
        refine hv_cv0 (c_allFish_11 hs5 k2) dX11_tells_97 ml_X11_166 mk_X6_allFish (by first | rfl | assumption) rfl rfl rfl rfl rfl ?_
        rintro _ _ _ _ ⟨rfl, rfl, rfl, rfl⟩
        refine hv_cv4 (c_rotten_11 ok (by omega)) dX11_tells_100 ml_X11_187 mk_X2_rotten (by first | rfl | assumption) rfl rfl rfl rfl rfl ?_
        rintro _ _ σ1 _ ⟨rfl, rfl, rfl, hq1⟩
        refine hv_iret dX11_tells_103 rfl ?_
        rw [if_neg c_31_0, if_pos c_31_1]; exact ⟨rfl, rfl, rfl, off_wk hq1 (by decide)⟩
      by_cases c_31_2 : w = 3
      · refine hv_tin (off := 73) (tgt := 104) (i := 2) dX11_tells_31 c_31_2 (by decide) (by decide) (by decide) (by decide) ?_
        refine hv_aload_n dX11_tells_104 rfl ?_
        refine hv_getr dX11_tells_105 fl_X11_58 (by first | rfl | assumption) rfl (by first | rfl | assumption) ?_
        refine hv_aload_n dX11_tells_108 rfl ?_
        refine hv_getr dX11_tells_109 fl_X11_81 (by first | rfl | assumption) rfl (by first | rfl | assumption) ?_
        refine hv_aload_n dX11_tells_112 rfl ?_
        refine hv_getr dX11_tells_113 fl_X11_44 (by first | rfl | assumption) rfl (by first | rfl | assumption) ?_
        refine hv_iload_n dX11_tells_116 rfl ?_
        refine hv_aload_n dX11_tells_117 rfl ?_
        refine hv_getr dX11_tells_118 fl_X11_44 (by first | rfl | assumption) rfl (by first | rfl | assumption) ?_
        refine hv_cv0 (c_allFish_11 hs5 k2) dX11_tells_121 ml_X11_166 mk_X6_allFish (by first | rfl | assumption) rfl rfl rfl rfl rfl ?_
        rintro _ _ _ _ ⟨rfl, rfl, rfl, rfl⟩
        refine hv_cv4 (c_caught_11 ok (by omega)) dX11_tells_124 ml_X11_190 mk_X2_caught (by first | rfl | assumption) rfl rfl rfl rfl rfl ?_
        rintro _ _ σ1 _ ⟨rfl, rfl, rfl, hq1⟩
        refine hv_iret dX11_tells_127 rfl ?_
        rw [if_neg c_31_0, if_neg c_31_1, if_pos c_31_2]; exact ⟨rfl, rfl, rfl, off_wk hq1 (by decide)⟩
      refine hv_tout (tgt := 128) dX11_tells_31 (by have q0 := lv_neT (a := 1) c_31_0 (by decide); have q1 := lv_neT (a := 2) c_31_1 (by decide); have q2 := lv_neT (a := 3) c_31_2 (by decide); omega) (by decide) ?_
      refine hv_iconst (v := -1) dX11_tells_128 (by decide) ?_
      refine hv_iret dX11_tells_129 rfl ?_
      rw [if_neg c_31_0, if_neg c_31_1, if_neg c_31_2]; exact ⟨rfl, rfl, rfl, fun _ _ => rfl⟩
    · rw [hsel_no (bI_0 c_25)]
      refine hv_iconst (v := -1) dX11_tells_28 (by decide) ?_
      refine hv_iret dX11_tells_29 rfl ?_
      exact ⟨rfl, rfl, rfl, fun _ _ => rfl⟩
  · rw [if_pos c_1]
    refine hv_aload_n dX11_tells_4 rfl ?_
    refine hv_getr dX11_tells_5 fl_X11_58 (by first | rfl | assumption) rfl (by first | rfl | assumption) ?_
    refine hv_aload_n dX11_tells_8 rfl ?_
    refine hv_getr dX11_tells_9 fl_X11_81 (by first | rfl | assumption) rfl (by first | rfl | assumption) ?_
    refine hv_aload_n dX11_tells_12 rfl ?_
    refine hv_getr dX11_tells_13 fl_X11_44 (by first | rfl | assumption) rfl (by first | rfl | assumption) ?_
    refine hv_cv2 (c_price_11 ok hs5) dX11_tells_16 ml_X11_180 mk_X2_price (by first | rfl | assumption) rfl rfl rfl rfl rfl ?_
    rintro _ _ σ1 _ ⟨rfl, rfl, rfl, hq1⟩
    refine hv_iret dX11_tells_19 rfl ?_
    exact ⟨rfl, rfl, rfl, off_wk hq1 (by decide)⟩
theorem c_allies {h sz : Nat} {pr : Nat → Option Nat} {V : hF} {a : Int32} {R : Nat → Int32} (ok : okC σ h sz) (hs5 : σ 11 5 = nI h) (hpr : okX σ h pr) (hvv : V = fVotes (twC σ h sz) (dyC σ 11) (hsum (σ 12) h)) (hR : ∀ f : hF, (∀ i, i < 7 → f i = fHad V pr h i) → ∀ i, i < h → R i = fMaj f h (fSm f (2 ^ h - 1) 7) 8 (2 ^ i) 0) : hCal G (m_X11_allies (hQx xQ (some (.int (hsel h a (-1) R))) (rr 38 51 x y) σ τ)) [.ref (hgA G 0), .int a] shp (rr 38 51 x y) σ τ := by
  have k2 := ok.2.1
  refine hv_enter pn_X11 rfl ?_
  refine hv_aload_n dX11_allies_0 rfl ?_
  refine hv_iload_n dX11_allies_1 rfl ?_
  refine hv_cv1 (c_isHouse ok.1) dX11_allies_2 ml_X11_141 mk_X11_isHouse (by first | rfl | assumption) rfl rfl rfl rfl rfl ?_
  rintro _ _ _ _ ⟨rfl, rfl, rfl, rfl⟩
  refine hv_if_ne (tgt := 10) dX11_allies_5 (by decide) (fun c_5 => ?_) (fun c_5 => ?_)
  · obtain ⟨i, hi, rfl⟩ := isH_ix k2 (bI_1 c_5)
    rw [hsel_yes hi k2]
    have hp7 := pow_lt7 (i := i) (by omega)
    refine hv_aload_n dX11_allies_10 rfl ?_
    refine hv_getr dX11_allies_11 fl_X11_67 (by first | rfl | assumption) rfl (by first | rfl | assumption) ?_
    refine hv_aload_n dX11_allies_14 rfl ?_
    refine hv_getr dX11_allies_15 fl_X11_81 (by first | rfl | assumption) rfl (by first | rfl | assumption) ?_
    refine hv_aload_n dX11_allies_18 rfl ?_
    refine hv_getr dX11_allies_19 fl_X11_44 (by first | rfl | assumption) rfl (by first | rfl | assumption) ?_
    refine hv_cv2 (c_gather ok hs5 hpr hvv) dX11_allies_22 ml_X11_260 mk_X0_gather (by first | rfl | assumption) rfl rfl rfl rfl rfl ?_
    rintro _ _ σ1 _ ⟨rfl, rfl, rfl, hq1, hq2, hq3, hq4⟩
    refine hv_aload_n dX11_allies_25 rfl ?_
    refine hv_getr dX11_allies_26 fl_X11_67 (by first | rfl | assumption) rfl (by first | rfl | assumption) ?_
    refine hv_aload_n dX11_allies_29 rfl ?_
    refine hv_getr dX11_allies_30 fl_X11_67 (by first | rfl | assumption) rfl (by first | rfl | assumption) ?_
    refine hv_getr dX11_allies_33 fl_X11_279 (by first | rfl | assumption) rfl (by first | rfl | assumption) ?_
    refine hv_iconst (v := 1) dX11_allies_36 (by decide) ?_
    refine hv_iload_n dX11_allies_37 rfl ?_
    refine hv_ishl dX11_allies_38 ?_
    rw [b_shl (by omega)]
    refine hv_aload_n dX11_allies_39 rfl ?_
    refine hv_getr dX11_allies_40 fl_X11_81 (by first | rfl | assumption) rfl (by first | rfl | assumption) ?_
    refine hv_geti dX11_allies_43 fl_X11_241 (by first | rfl | assumption) rfl ?_
    rw [hq1 38 (by decide), ok.1]
    refine hv_cv3 (c_fewestToMajority rfl (by omega) k2) dX11_allies_46 ml_X11_282 mk_X0_fewestToMajority (by first | rfl | assumption) rfl rfl rfl rfl rfl ?_
    rintro _ _ _ _ ⟨rfl, rfl, rfl, rfl⟩
    rw [hR (σ1 32) hq4 i hi]
    refine hv_iret dX11_allies_49 rfl ?_
    exact ⟨rfl, rfl, rfl, off_wk hq1 (by decide)⟩
  · rw [hsel_no (bI_0 c_5)]
    refine hv_iconst (v := -1) dX11_allies_8 (by decide) ?_
    refine hv_iret dX11_allies_9 rfl ?_
    exact ⟨rfl, rfl, rfl, fun _ _ => rfl⟩
theorem c_strongest {h sz : Nat} {pr : Nat → Option Nat} {V T : hF} {w : Int32} (ok : okC σ h sz) (hs5 : σ 11 5 = nI h) (hpr : okX σ h pr) (hvv : V = fVotes (twC σ h sz) (dyC σ 11) (hsum (σ 12) h)) (hT : ∀ f : hF, (∀ i, i < 7 → f i = fHad V pr h i) → ∀ i, i < h → T i = nI (fTurn f (hsum V h) i (2 ^ h))) (hmx : ∀ f g : hF, (∀ i, i < h → f i = g i) → amax f h = amax g h) : hCal G (m_X11_strongest (hQx xQ (some (.int (if ¬ (w = 0 ∨ w = 1) then -1 else if h = 0 then -2 else if w = 0 then nI (amax T h) else T (amax T h)))) (rr 38 51 x y) σ τ)) [.ref (hgA G 0), .int w] shp (rr 38 51 x y) σ τ := by
  have k2 := ok.2.1
  refine hv_enter pn_X11 rfl ?_
  refine hv_aload_n dX11_strongest_0 rfl ?_
  refine hv_iload_n dX11_strongest_1 rfl ?_
  refine hv_cv1 (c_isFS) dX11_strongest_2 ml_X11_238 mk_X11_isFirstOrSecond (by first | rfl | assumption) rfl rfl rfl rfl rfl ?_
  rintro _ _ _ _ ⟨rfl, rfl, rfl, rfl⟩
  refine hv_if_ne (tgt := 10) dX11_strongest_5 (by decide) (fun c_5 => ?_) (fun c_5 => ?_)
  · rw [if_neg (fun qq => qq (of_decide_eq_true (bI_1 c_5)))]
    refine hv_aload_n dX11_strongest_10 rfl ?_
    refine hv_getr dX11_strongest_11 fl_X11_81 (by first | rfl | assumption) rfl (by first | rfl | assumption) ?_
    refine hv_geti dX11_strongest_14 fl_X11_241 (by first | rfl | assumption) rfl ?_
    rw [ok.1]
    refine hv_if_ne (tgt := 23) dX11_strongest_17 (by decide) (fun c_17 => ?_) (fun c_17 => ?_)
    · have hh0 : ¬ h = 0 := fun qq => c_17 (by rw [qq]; rfl)
      rw [if_neg hh0]
      refine hv_aload_n dX11_strongest_23 rfl ?_
      refine hv_getr dX11_strongest_24 fl_X11_67 (by first | rfl | assumption) rfl (by first | rfl | assumption) ?_
      refine hv_aload_n dX11_strongest_27 rfl ?_
      refine hv_getr dX11_strongest_28 fl_X11_81 (by first | rfl | assumption) rfl (by first | rfl | assumption) ?_
      refine hv_aload_n dX11_strongest_31 rfl ?_
      refine hv_getr dX11_strongest_32 fl_X11_44 (by first | rfl | assumption) rfl (by first | rfl | assumption) ?_
      refine hv_cv2 (c_gather ok hs5 hpr hvv) dX11_strongest_35 ml_X11_260 mk_X0_gather (by first | rfl | assumption) rfl rfl rfl rfl rfl ?_
      rintro _ _ σ1 _ ⟨rfl, rfl, rfl, hq1, hq2, hq3, hq4⟩
      refine hv_aload_n dX11_strongest_38 rfl ?_
      refine hv_getr dX11_strongest_39 fl_X11_67 (by first | rfl | assumption) rfl (by first | rfl | assumption) ?_
      refine hv_cv0 (c_countTurns hq2 k2) dX11_strongest_42 ml_X11_264 mk_X0_countTurns (by first | rfl | assumption) rfl rfl rfl rfl rfl ?_
      rintro _ _ σ2 _ ⟨rfl, rfl, rfl, hq5, hq6⟩
      have hTi : ∀ j, j < h → σ2 33 j = T j := fun j hj => by rw [hq6 j hj, hq3, hT (σ1 32) hq4 j hj]
      refine hv_aload_n dX11_strongest_45 rfl ?_
      refine hv_getr dX11_strongest_46 fl_X11_67 (by first | rfl | assumption) rfl (by first | rfl | assumption) ?_
      refine hv_cv0 (c_mostTurns (by rw [hq5 31 (by decide)]; exact hq2) k2 (by omega)) dX11_strongest_49 ml_X11_276 mk_X0_mostTurns (by first | rfl | assumption) rfl rfl rfl rfl rfl ?_
      rintro _ _ _ _ ⟨rfl, rfl, rfl, rfl⟩
      rw [hmx (σ2 33) T hTi]
      have hml := amax_le T h
      obtain ⟨am, ham⟩ : ∃ am, amax T h = am := ⟨_, rfl⟩
      rw [ham] at hml ⊢
      refine hv_istore_n dX11_strongest_52 rfl rfl ?_
      refine hv_iload_n dX11_strongest_53 rfl ?_
      refine hv_if_ne (tgt := 61) dX11_strongest_54 (by decide) (fun c_54 => ?_) (fun c_54 => ?_)
      · rw [if_neg c_54]
        refine hv_aload_n dX11_strongest_61 rfl ?_
        refine hv_getr dX11_strongest_62 fl_X11_67 (by first | rfl | assumption) rfl (by first | rfl | assumption) ?_
        refine hv_getr dX11_strongest_65 fl_X11_267 (by first | rfl | assumption) rfl (by first | rfl | assumption) ?_
        refine hv_iload_n dX11_strongest_68 rfl ?_
        refine hv_iald dX11_strongest_69 (by first | rfl | assumption) rfl (by first | assumption | omega) (by first | decide | assumption) ?_
        refine hv_iret dX11_strongest_70 rfl ?_
        first
          | exact ⟨congrArg (fun z => some (Value.int z)) (hTi am (by omega)).symm, rfl, rfl, off_tr hq1 hq5 (by decide) (by decide)⟩
          | exact ⟨rfl, rfl, rfl, off_tr hq1 hq5 (by decide) (by decide)⟩
      · rw [if_pos c_54]
        refine hv_iload_n dX11_strongest_57 rfl ?_
        refine hv_goto (tgt := 70) dX11_strongest_58 (by decide) ?_
        refine hv_iret dX11_strongest_70 rfl ?_
        first
          | exact ⟨congrArg (fun z => some (Value.int z)) (hTi am (by omega)).symm, rfl, rfl, off_tr hq1 hq5 (by decide) (by decide)⟩
          | exact ⟨rfl, rfl, rfl, off_tr hq1 hq5 (by decide) (by decide)⟩
    · rw [if_pos ((nI_eq (b := 0) (by omega) (by decide)).mp c_17)]
      refine hv_bipush (v := -2) dX11_strongest_20 (by decide) ?_
      refine hv_iret dX11_strongest_22 rfl ?_
      exact ⟨rfl, rfl, rfl, fun _ _ => rfl⟩
  · rw [if_pos (of_decide_eq_false (bI_0 c_5))]
    refine hv_iconst (v := -1) dX11_strongest_8 (by decide) ?_
    refine hv_iret dX11_strongest_9 rfl ?_
    exact ⟨rfl, rfl, rfl, fun _ _ => rfl⟩
theorem c_votesHad {h sz i : Nat} {pr : Nat → Option Nat} {V : hF} (ok : okC σ h sz) (hs5 : σ 11 5 = nI h) (hpr : okX σ h pr) (hvv : V = fVotes (twC σ h sz) (dyC σ 11) (hsum (σ 12) h)) (hi : i < 7) : hCal G (m_X11_votesHad (hQx xQ (some (.int (fHad V pr h i))) (rr 38 51 x y) σ τ)) [.ref (hgA G 0), .int (nI i)] shp (rr 38 51 x y) σ τ := by
  refine hv_enter pn_X11 rfl ?_
  refine hv_aload_n dX11_votesHad_0 rfl ?_
  refine hv_getr dX11_votesHad_1 fl_X11_67 (by first | rfl | assumption) rfl (by first | rfl | assumption) ?_
  refine hv_aload_n dX11_votesHad_4 rfl ?_
  refine hv_getr dX11_votesHad_5 fl_X11_81 (by first | rfl | assumption) rfl (by first | rfl | assumption) ?_
  refine hv_aload_n dX11_votesHad_8 rfl ?_
  refine hv_getr dX11_votesHad_9 fl_X11_44 (by first | rfl | assumption) rfl (by first | rfl | assumption) ?_
  refine hv_cv2 (c_gather ok hs5 hpr hvv) dX11_votesHad_12 ml_X11_260 mk_X0_gather (by first | rfl | assumption) rfl rfl rfl rfl rfl ?_
  rintro _ _ σ1 _ ⟨rfl, rfl, rfl, hq1, hq2, hq3, hq4⟩
  refine hv_aload_n dX11_votesHad_15 rfl ?_
  refine hv_getr dX11_votesHad_16 fl_X11_67 (by first | rfl | assumption) rfl (by first | rfl | assumption) ?_
  refine hv_getr dX11_votesHad_19 fl_X11_279 (by first | rfl | assumption) rfl (by first | rfl | assumption) ?_
  refine hv_iload_n dX11_votesHad_22 rfl ?_
  refine hv_iald dX11_votesHad_23 (by first | rfl | assumption) rfl (by first | assumption | omega) (by first | decide | assumption) ?_
  refine hv_iret dX11_votesHad_24 rfl ?_
  exact ⟨congrArg (fun z => some (Value.int z)) (hq4 i hi).symm, rfl, rfl, off_wk hq1 (by decide)⟩
theorem c_allVotes {h sz : Nat} {pr : Nat → Option Nat} {V : hF} (ok : okC σ h sz) (hs5 : σ 11 5 = nI h) (hpr : okX σ h pr) (hvv : V = fVotes (twC σ h sz) (dyC σ 11) (hsum (σ 12) h)) : hCal G (m_X11_allVotes (hQx xQ (some (.int (hsum V h))) (rr 38 51 x y) σ τ)) [.ref (hgA G 0)] shp (rr 38 51 x y) σ τ := by
  refine hv_enter pn_X11 rfl ?_
  refine hv_aload_n dX11_allVotes_0 rfl ?_
  refine hv_getr dX11_allVotes_1 fl_X11_67 (by first | rfl | assumption) rfl (by first | rfl | assumption) ?_
  refine hv_aload_n dX11_allVotes_4 rfl ?_
  refine hv_getr dX11_allVotes_5 fl_X11_81 (by first | rfl | assumption) rfl (by first | rfl | assumption) ?_
  refine hv_aload_n dX11_allVotes_8 rfl ?_
  refine hv_getr dX11_allVotes_9 fl_X11_44 (by first | rfl | assumption) rfl (by first | rfl | assumption) ?_
  refine hv_cv2 (c_gather ok hs5 hpr hvv) dX11_allVotes_12 ml_X11_260 mk_X0_gather (by first | rfl | assumption) rfl rfl rfl rfl rfl ?_
  rintro _ _ σ1 _ ⟨rfl, rfl, rfl, hq1, hq2, hq3, hq4⟩
  refine hv_aload_n dX11_allVotes_15 rfl ?_
  refine hv_getr dX11_allVotes_16 fl_X11_67 (by first | rfl | assumption) rfl (by first | rfl | assumption) ?_
  refine hv_geti dX11_allVotes_19 fl_X11_301 (by first | rfl | assumption) rfl ?_
  refine hv_iret dX11_allVotes_22 rfl ?_
  exact ⟨congrArg (fun z => some (Value.int z)) hq3.symm, rfl, rfl, off_wk hq1 (by decide)⟩
theorem c_house {h sz : Nat} {pr : Nat → Option Nat} {V : hF} {a w : Int32} (ok : okC σ h sz) (hs5 : σ 11 5 = nI h) (hpr : okX σ h pr) (hvv : V = fVotes (twC σ h sz) (dyC σ 11) (hsum (σ 12) h)) : hCal G (m_X11_house (hQx xQ (some (.int (hsel h a (-1) (fun i => if w = 0 then σ 12 i else if w = 1 then σ 13 i else if w = 2 then σ 41 i else if w = 3 then σ 42 i else if w = 4 then σ 14 i else if w = 5 then σ 15 i else if w = 6 then (if ¬ σ 16 i = -1 then σ 16 i else -2) else if w = 7 then V i else if w = 8 then fHad V pr h i else if w = 9 then σ 43 i else -1)))) (rr 38 51 x y) σ τ)) [.ref (hgA G 0), .int a, .int w] shp (rr 38 51 x y) σ τ := by
  have k2 := ok.2.1
  refine hv_enter pn_X11 rfl ?_
  refine hv_aload_n dX11_house_0 rfl ?_
  refine hv_iload_n dX11_house_1 rfl ?_
  refine hv_cv1 (c_isHouse ok.1) dX11_house_2 ml_X11_141 mk_X11_isHouse (by first | rfl | assumption) rfl rfl rfl rfl rfl ?_
  rintro _ _ _ _ ⟨rfl, rfl, rfl, rfl⟩
  refine hv_if_ne (tgt := 10) dX11_house_5 (by decide) (fun c_5 => ?_) (fun c_5 => ?_)
  · obtain ⟨i, hi, rfl⟩ := isH_ix k2 (bI_1 c_5)
    rw [hsel_yes hi k2]
    refine hv_iload_n dX11_house_10 rfl ?_
    by_cases c_11_0 : w = 0
    · refine hv_tin (off := 53) (tgt := 64) (i := 0) dX11_house_11 c_11_0 (by decide) (by decide) (by decide) (by decide) ?_
      refine hv_aload_n dX11_house_64 rfl ?_
      refine hv_getr dX11_house_65 fl_X11_44 (by first | rfl | assumption) rfl (by first | rfl | assumption) ?_
      refine hv_getr dX11_house_68 fl_X11_144 (by first | rfl | assumption) rfl (by first | rfl | assumption) ?_
      refine hv_iload_n dX11_house_71 rfl ?_
      refine hv_iald dX11_house_72 (by first | rfl | assumption) rfl (by first | assumption | omega) (by first | decide | assumption) ?_
      refine hv_iret dX11_house_73 rfl ?_
      rw [if_pos c_11_0]; exact ⟨rfl, rfl, rfl, fun _ _ => rfl⟩
    by_cases c_11_1 : w = 1
    · refine hv_tin (off := 63) (tgt := 74) (i := 1) dX11_house_11 c_11_1 (by decide) (by decide) (by decide) (by decide) ?_
      refine hv_aload_n dX11_house_74 rfl ?_
      refine hv_getr dX11_house_75 fl_X11_44 (by first | rfl | assumption) rfl (by first | rfl | assumption) ?_
      refine hv_getr dX11_house_78 fl_X11_148 (by first | rfl | assumption) rfl (by first | rfl | assumption) ?_
      refine hv_iload_n dX11_house_81 rfl ?_
      refine hv_iald dX11_house_82 (by first | rfl | assumption) rfl (by first | assumption | omega) (by first | decide | assumption) ?_
      refine hv_iret dX11_house_83 rfl ?_
      rw [if_neg c_11_0, if_pos c_11_1]; exact ⟨rfl, rfl, rfl, fun _ _ => rfl⟩
    by_cases c_11_2 : w = 2
    · refine hv_tin (off := 73) (tgt := 84) (i := 2) dX11_house_11 c_11_2 (by decide) (by decide) (by decide) (by decide) ?_
      refine hv_aload_n dX11_house_84 rfl ?_
      refine hv_getr dX11_house_85 fl_X11_81 (by first | rfl | assumption) rfl (by first | rfl | assumption) ?_
      refine hv_getr dX11_house_88 fl_X11_151 (by first | rfl | assumption) rfl (by first | rfl | assumption) ?_
      refine hv_iload_n dX11_house_91 rfl ?_
      refine hv_iald dX11_house_92 (by first | rfl | assumption) rfl (by first | assumption | omega) (by first | decide | assumption) ?_
      refine hv_iret dX11_house_93 rfl ?_
      rw [if_neg c_11_0, if_neg c_11_1, if_pos c_11_2]; exact ⟨rfl, rfl, rfl, fun _ _ => rfl⟩
    by_cases c_11_3 : w = 3
    · refine hv_tin (off := 83) (tgt := 94) (i := 3) dX11_house_11 c_11_3 (by decide) (by decide) (by decide) (by decide) ?_
      refine hv_aload_n dX11_house_94 rfl ?_
      refine hv_getr dX11_house_95 fl_X11_81 (by first | rfl | assumption) rfl (by first | rfl | assumption) ?_
      refine hv_getr dX11_house_98 fl_X11_154 (by first | rfl | assumption) rfl (by first | rfl | assumption) ?_
      refine hv_iload_n dX11_house_101 rfl ?_
      refine hv_iald dX11_house_102 (by first | rfl | assumption) rfl (by first | assumption | omega) (by first | decide | assumption) ?_
      refine hv_iret dX11_house_103 rfl ?_
      rw [if_neg c_11_0, if_neg c_11_1, if_neg c_11_2, if_pos c_11_3]; exact ⟨rfl, rfl, rfl, fun _ _ => rfl⟩
    by_cases c_11_4 : w = 4
    · refine hv_tin (off := 93) (tgt := 104) (i := 4) dX11_house_11 c_11_4 (by decide) (by decide) (by decide) (by decide) ?_
      refine hv_aload_n dX11_house_104 rfl ?_
      refine hv_getr dX11_house_105 fl_X11_44 (by first | rfl | assumption) rfl (by first | rfl | assumption) ?_
      refine hv_getr dX11_house_108 fl_X11_157 (by first | rfl | assumption) rfl (by first | rfl | assumption) ?_
      refine hv_iload_n dX11_house_111 rfl ?_
      refine hv_iald dX11_house_112 (by first | rfl | assumption) rfl (by first | assumption | omega) (by first | decide | assumption) ?_
      refine hv_iret dX11_house_113 rfl ?_
      rw [if_neg c_11_0, if_neg c_11_1, if_neg c_11_2, if_neg c_11_3, if_pos c_11_4]; exact ⟨rfl, rfl, rfl, fun _ _ => rfl⟩
    by_cases c_11_5 : w = 5
    · refine hv_tin (off := 103) (tgt := 114) (i := 5) dX11_house_11 c_11_5 (by decide) (by decide) (by decide) (by decide) ?_
      refine hv_aload_n dX11_house_114 rfl ?_
      refine hv_getr dX11_house_115 fl_X11_44 (by first | rfl | assumption) rfl (by first | rfl | assumption) ?_
      refine hv_getr dX11_house_118 fl_X11_160 (by first | rfl | assumption) rfl (by first | rfl | assumption) ?_
      refine hv_iload_n dX11_house_121 rfl ?_
      refine hv_iald dX11_house_122 (by first | rfl | assumption) rfl (by first | assumption | omega) (by first | decide | assumption) ?_
      refine hv_iret dX11_house_123 rfl ?_
      rw [if_neg c_11_0, if_neg c_11_1, if_neg c_11_2, if_neg c_11_3, if_neg c_11_4, if_pos c_11_5]; exact ⟨rfl, rfl, rfl, fun _ _ => rfl⟩
    by_cases c_11_6 : w = 6
    · refine hv_tin (off := 113) (tgt := 124) (i := 6) dX11_house_11 c_11_6 (by decide) (by decide) (by decide) (by decide) ?_
      refine hv_aload_n dX11_house_124 rfl ?_
      refine hv_getr dX11_house_125 fl_X11_44 (by first | rfl | assumption) rfl (by first | rfl | assumption) ?_
      refine hv_getr dX11_house_128 fl_X11_163 (by first | rfl | assumption) rfl (by first | rfl | assumption) ?_
      refine hv_iload_n dX11_house_131 rfl ?_
      refine hv_iald dX11_house_132 (by first | rfl | assumption) rfl (by first | assumption | omega) (by first | decide | assumption) ?_
      refine hv_iconst (v := -1) dX11_house_133 (by decide) ?_
      refine hv_icmp_ne (tgt := 142) dX11_house_134 (by decide) (fun c_134 => ?_) (fun c_134 => ?_)
      · refine hv_aload_n dX11_house_142 rfl ?_
        refine hv_getr dX11_house_143 fl_X11_44 (by first | rfl | assumption) rfl (by first | rfl | assumption) ?_
        refine hv_getr dX11_house_146 fl_X11_163 (by first | rfl | assumption) rfl (by first | rfl | assumption) ?_
        refine hv_iload_n dX11_house_149 rfl ?_
        refine hv_iald dX11_house_150 (by first | rfl | assumption) rfl (by first | assumption | omega) (by first | decide | assumption) ?_
        refine hv_iret dX11_house_151 rfl ?_
        rw [if_neg c_11_0, if_neg c_11_1, if_neg c_11_2, if_neg c_11_3, if_neg c_11_4, if_neg c_11_5, if_pos c_11_6]
        first | (rw [if_pos c_134]; exact ⟨rfl, rfl, rfl, fun _ _ => rfl⟩) | (rw [if_neg (fun qq => qq c_134)]; exact ⟨rfl, rfl, rfl, fun _ _ => rfl⟩)
      · refine hv_bipush (v := -2) dX11_house_137 (by decide) ?_
        refine hv_goto (tgt := 151) dX11_house_139 (by decide) ?_
        refine hv_iret dX11_house_151 rfl ?_
        rw [if_neg c_11_0, if_neg c_11_1, if_neg c_11_2, if_neg c_11_3, if_neg c_11_4, if_neg c_11_5, if_pos c_11_6]
        first | (rw [if_pos c_134]; exact ⟨rfl, rfl, rfl, fun _ _ => rfl⟩) | (rw [if_neg (fun qq => qq c_134)]; exact ⟨rfl, rfl, rfl, fun _ _ => rfl⟩)
    by_cases c_11_7 : w = 7
    · refine hv_tin (off := 141) (tgt := 152) (i := 7) dX11_house_11 c_11_7 (by decide) (by decide) (by decide) (by decide) ?_
      refine hv_aload_n dX11_house_152 rfl ?_
      refine hv_getr dX11_house_153 fl_X11_58 (by first | rfl | assumption) rfl (by first | rfl | assumption) ?_
      refine hv_aload_n dX11_house_156 rfl ?_
      refine hv_getr dX11_house_157 fl_X11_81 (by first | rfl | assumption) rfl (by first | rfl | assumption) ?_
      refine hv_aload_n dX11_house_160 rfl ?_
      refine hv_getr dX11_house_161 fl_X11_44 (by first | rfl | assumption) rfl (by first | rfl | assumption) ?_
      refine hv_iload_n dX11_house_164 rfl ?_
      refine hv_aload_n dX11_house_165 rfl ?_
      refine hv_getr dX11_house_166 fl_X11_44 (by first | rfl | assumption) rfl (by first | rfl | assumption) ?_
      refine hv_cv0 (c_allFish_11 hs5 k2) dX11_house_169 ml_X11_166 mk_X6_allFish (by first | rfl | assumption) rfl rfl rfl rfl rfl ?_
      rintro _ _ _ _ ⟨rfl, rfl, rfl, rfl⟩
      refine hv_cv4 (c_votes_11 ok (by omega)) dX11_house_172 ml_X11_170 mk_X2_votes (by first | rfl | assumption) rfl rfl rfl rfl rfl ?_
      rintro _ _ σ1 _ ⟨rfl, rfl, rfl, hq1⟩
      rw [← hvv]
      refine hv_iret dX11_house_175 rfl ?_
      simp only [c_11_0, c_11_1, c_11_2, c_11_3, c_11_4, c_11_5, c_11_6, c_11_7, if_false, if_true]; exact ⟨rfl, rfl, rfl, off_wk hq1 (by decide)⟩
    by_cases c_11_8 : w = 8
    · refine hv_tin (off := 165) (tgt := 176) (i := 8) dX11_house_11 c_11_8 (by decide) (by decide) (by decide) (by decide) ?_
      refine hv_aload_n dX11_house_176 rfl ?_
      refine hv_iload_n dX11_house_177 rfl ?_
      refine hv_cv1 (c_votesHad ok hs5 hpr hvv (by omega)) dX11_house_178 ml_X11_174 mk_X11_votesHad (by first | rfl | assumption) rfl rfl rfl rfl rfl ?_
      rintro _ _ σ1 _ ⟨rfl, rfl, rfl, hq1⟩
      refine hv_iret dX11_house_181 rfl ?_
      simp only [c_11_0, c_11_1, c_11_2, c_11_3, c_11_4, c_11_5, c_11_6, c_11_7, c_11_8, if_false, if_true]; exact ⟨rfl, rfl, rfl, hq1⟩
    by_cases c_11_9 : w = 9
    · refine hv_tin (off := 171) (tgt := 182) (i := 9) dX11_house_11 c_11_9 (by decide) (by decide) (by decide) (by decide) ?_
      refine hv_aload_n dX11_house_182 rfl ?_
      refine hv_getr dX11_house_183 fl_X11_81 (by first | rfl | assumption) rfl (by first | rfl | assumption) ?_
      refine hv_getr dX11_house_186 fl_X11_177 (by first | rfl | assumption) rfl (by first | rfl | assumption) ?_
      refine hv_iload_n dX11_house_189 rfl ?_
      refine hv_iald dX11_house_190 (by first | rfl | assumption) rfl (by first | assumption | omega) (by first | decide | assumption) ?_
      refine hv_iret dX11_house_191 rfl ?_
      rw [if_neg c_11_0, if_neg c_11_1, if_neg c_11_2, if_neg c_11_3, if_neg c_11_4, if_neg c_11_5, if_neg c_11_6, if_neg c_11_7, if_neg c_11_8, if_pos c_11_9]; exact ⟨rfl, rfl, rfl, fun _ _ => rfl⟩
    refine hv_tout (tgt := 192) dX11_house_11 (by have q0 := lv_neT (a := 0) c_11_0 (by decide); have q1 := lv_neT (a := 1) c_11_1 (by decide); have q2 := lv_neT (a := 2) c_11_2 (by decide); have q3 := lv_neT (a := 3) c_11_3 (by decide); have q4 := lv_neT (a := 4) c_11_4 (by decide); have q5 := lv_neT (a := 5) c_11_5 (by decide); have q6 := lv_neT (a := 6) c_11_6 (by decide); have q7 := lv_neT (a := 7) c_11_7 (by decide); have q8 := lv_neT (a := 8) c_11_8 (by decide); have q9 := lv_neT (a := 9) c_11_9 (by decide); omega) (by decide) ?_
    refine hv_iconst (v := -1) dX11_house_192 (by decide) ?_
    refine hv_iret dX11_house_193 rfl ?_
    rw [if_neg c_11_0, if_neg c_11_1, if_neg c_11_2, if_neg c_11_3, if_neg c_11_4, if_neg c_11_5, if_neg c_11_6, if_neg c_11_7, if_neg c_11_8, if_neg c_11_9]; exact ⟨rfl, rfl, rfl, fun _ _ => rfl⟩
  · rw [hsel_no (bI_0 c_5)]
    refine hv_iconst (v := -1) dX11_house_8 (by decide) ?_
    refine hv_iret dX11_house_9 rfl ?_
    exact ⟨rfl, rfl, rfl, fun _ _ => rfl⟩
end S27

