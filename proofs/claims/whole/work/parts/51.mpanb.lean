abbrev m_X12_ithOf (Q : hPo) : hMe := (hrm 0, 0, 0, yX12_ithOf, cX12_ithOf, 4, (some FieldType.int), shp, none, Q)
abbrev m_X12_isEarlier (Q : hPo) : hMe := (hrm 1, 0, 0, yX12_isEarlier, cX12_isEarlier, 3, (some FieldType.boolean), shp, none, Q)
abbrev m_X12_calm (Q : hPo) : hMe := (hrm 2, 0, 0, yX12_calm, cX12_calm, 7, (some FieldType.int), shp, none, Q)
theorem fEat_has {hd fe : Nat → Nat} {h cm b : Nat} (hh : h ≤ 7) (hb : b < h) : bsub (2 ^ b) (fEat hd fe h cm b) := by
  rw [fEat, eIt_itN]
  exact (g_it (eRnd_g (hd := hd) (fe := fe) (cm := cm) hh) (pow_lt7 (by omega)) (pow_tb hb) h).2.2.1
theorem fEat_pop {hd fe : Nat → Nat} {h cm b : Nat} (hh : h ≤ 7) (hb : b < h) : 1 ≤ pop7 (fEat hd fe h cm b) := by
  rw [← popN_7]
  exact Nat.le_trans (pow_pop b (by omega)) (popN_mono (fEat_has hh hb) 7 (Nat.le_refl _))
theorem fWid_at {f : Nat → Nat} {h : Nat} (hf : ∀ i, i < h → 1 ≤ f i) : ∀ n, n ≤ h → 1 ≤ n → f (fWid f n).1 = (fWid f n).2
  | 0, _, h1 => absurd h1 (by omega)
  | n + 1, hn, _ => by
    unfold fWid
    split
    · rfl
    · rename_i c
      by_cases e : n = 0
      · subst e
        have := hf 0 (by omega)
        exact absurd (show (fWid f 0).2 < f 0 by rw [fWid]; omega) c
      · exact fWid_at hf n (by omega) (by omega)
/-- the reference's way of saying it -/
def wdM (f : Nat → Nat) (i : Nat) (be mo : Int32) : Prop := (i = 0 ∧ be = -2 ∧ mo = -2) ∨ (1 ≤ i ∧ be = nI (fWid f i).1 ∧ mo = nI (fWid f i).2)
set_option maxRecDepth 100000 in
theorem nI_gtm2 : ∀ n, n ≤ 7 → ¬ nI n ≤ -2 := by decide
section S51
variable {G : hGl} {σ : hS} {τ : hT} {x y : Option Nat}
theorem okPM_is {L h : Nat} {hd fe : Nat → Nat} {a : Int32} (ok : okPM σ L h hd fe) : hCal G (m_X12_isHouse (hEq (some (.int (bI (isH h a)))) (rr 38 51 x y) σ τ)) [.ref (hgA G 64), .int a] shp (rr 38 51 x y) σ τ := d_isHouse ok.1 ok.2.1 ok.2.2.1 ok.2.2.2.1
theorem d_panic {L h : Nat} {a : Int32} {hd fe : Nat → Nat} (ok : okPM σ L h hd fe) : hCal G (m_X12_panic (hEq (some (.int (hsel h a (-1) (fun i => nI (fEat hd fe h 0 i))))) (rr 38 51 x y) σ τ)) [.ref (hgA G 64), .int a] shp (rr 38 51 x y) σ τ := by
  have k2 := ok.2.2.2.1
  refine hv_enter pn_X12 rfl ?_
  refine hv_aload_n dX12_panic_0 rfl ?_
  refine hv_iload_n dX12_panic_1 rfl ?_
  refine hv_cv1 (okPM_is ok) dX12_panic_2 ml_X12_370 mk_X12_isHouse (by first | rfl | assumption) rfl rfl rfl rfl rfl ?_
  rintro _ _ _ _ ⟨rfl, rfl, rfl, rfl⟩
  refine hv_if_eq (tgt := 17) dX12_panic_5 (by decide) (fun c_5 => ?_) (fun c_5 => ?_)
  · rw [hsel_no (bI_0 c_5)]
    refine hv_iconst (v := -1) dX12_panic_17 (by decide) ?_
    refine hv_iret dX12_panic_18 rfl ?_
    exact ⟨rfl, rfl, rfl, rfl⟩
  · obtain ⟨i, hi, rfl⟩ := isH_ix k2 (bI_1 c_5)
    rw [hsel_yes hi k2]
    refine hv_aload_n dX12_panic_8 rfl ?_
    refine hv_iload_n dX12_panic_9 rfl ?_
    refine hv_iconst (v := 0) dX12_panic_10 (by decide) ?_
    refine hv_cv2 (d_panicBy (cm := 0) ok hi (by decide)) dX12_panic_11 ml_X12_397 mk_X12_panicBy (by first | rfl | assumption) rfl rfl rfl rfl rfl ?_
    rintro _ _ _ _ ⟨rfl, rfl, rfl, rfl⟩
    refine hv_goto (tgt := 18) dX12_panic_14 (by decide) ?_
    refine hv_iret dX12_panic_18 rfl ?_
    exact ⟨rfl, rfl, rfl, rfl⟩
theorem d_quiet {L h : Nat} {a : Int32} {hd fe : Nat → Nat} (ok : okPM σ L h hd fe) : hCal G (m_X12_quiet (hEq (some (.int (hsel h a (-1) (fun i => nI (fQui (fun b => fEat hd fe h 0 b) i h))))) (rr 38 51 x y) σ τ)) [.ref (hgA G 64), .int a] shp (rr 38 51 x y) σ τ := by
  have k2 := ok.2.2.2.1
  have hL2 := ok.2.1
  refine hv_enter pn_X12 rfl ?_
  have loop : ∀ ai, ai < h → ∀ k i S, i + k = h → S < 128 → S = fQui (fun b => fEat hd fe h 0 b) ai i → hV G (m_X12_quiet (hEq (some (.int (nI (fQui (fun b => fEat hd fe h 0 b) ai h)))) (rr 38 51 x y) σ τ)) 0 0 shp 14 [some (.ref (hgA G 64)), some (.int (nI ai)), some (.int (nI S)), some (.int (nI i))] [] (rr 38 51 x y) σ τ := by
    intro ai hai k
    induction k with
    | zero =>
      intro i S hi hS he
      obtain rfl : i = h := by omega
      refine hv_iload_n dX12_quiet_14 rfl ?_
      refine hv_aload_n dX12_quiet_15 rfl ?_
      refine hv_getr dX12_quiet_16 fl_X12_46 (by first | rfl | assumption) rfl (by first | rfl | assumption) ?_
      refine hv_aload_n dX12_quiet_19 rfl ?_
      refine hv_geti dX12_quiet_20 fl_X12_233 (by first | rfl | assumption) rfl ?_
      refine hv_iald dX12_quiet_23 (by first | rfl | assumption) (j := L) ok.1 (by omega) (by first | decide | assumption) ?_
      refine hv_icmp_ge (tgt := 52) dX12_quiet_24 (by decide) (fun c_24 => ?_) (fun c_24 => absurd ((by rw [ok.2.2.1]; exact nI_le (Nat.le_refl _) (by omega))) c_24)
      refine hv_iload_n dX12_quiet_52 rfl ?_
      refine hv_iret dX12_quiet_53 rfl ?_
      rw [he]; exact ⟨rfl, rfl, rfl, rfl⟩
    | succ k ih =>
      intro i S hi hS he
      have nx : fQui (fun b => fEat hd fe h 0 b) ai (i + 1) = S ||| (if (fEat hd fe h 0 i).testBit ai = true then 0 else 2 ^ i) := by rw [fQui, ← he]
      refine hv_iload_n dX12_quiet_14 rfl ?_
      refine hv_aload_n dX12_quiet_15 rfl ?_
      refine hv_getr dX12_quiet_16 fl_X12_46 (by first | rfl | assumption) rfl (by first | rfl | assumption) ?_
      refine hv_aload_n dX12_quiet_19 rfl ?_
      refine hv_geti dX12_quiet_20 fl_X12_233 (by first | rfl | assumption) rfl ?_
      refine hv_iald dX12_quiet_23 (by first | rfl | assumption) (j := L) ok.1 (by omega) (by first | decide | assumption) ?_
      refine hv_icmp_ge (tgt := 52) dX12_quiet_24 (by decide) (fun c_24 => absurd c_24 ((by rw [ok.2.2.1]; exact nI_ge (by omega) (by omega)))) (fun c_24 => ?_)
      refine hv_aload_n dX12_quiet_27 rfl ?_
      refine hv_iload_n dX12_quiet_28 rfl ?_
      refine hv_iconst (v := 0) dX12_quiet_29 (by decide) ?_
      refine hv_cv2 (d_panicBy (cm := 0) ok (by omega) (by decide)) dX12_quiet_30 ml_X12_397 mk_X12_panicBy (by first | rfl | assumption) rfl rfl rfl rfl rfl ?_
      rintro _ _ _ _ ⟨rfl, rfl, rfl, rfl⟩
      refine hv_iload_n dX12_quiet_33 rfl ?_
      refine hv_ishr dX12_quiet_34 ?_
      refine hv_iconst (v := 1) dX12_quiet_35 (by decide) ?_
      refine hv_iand dX12_quiet_36 ?_
      rw [b_bit (fEat_lt (by omega) k2) (by omega)]
      refine hv_if_ne (tgt := 46) dX12_quiet_37 (by decide) (fun c_37 => ?_) (fun c_37 => ?_)
      · rw [if_pos (bI_1 c_37), Nat.or_zero] at nx
        refine hv_iinc dX12_quiet_46 rfl (nI_1 i) rfl rfl ?_
        refine hv_goto (tgt := 14) dX12_quiet_49 (by decide) ?_
        first
          | exact ih (i + 1) S2 (by omega) (by rw [← hS2]; exact or_lt128 hS (pow_lt7 (by omega))) nx.symm
          | exact ih (i + 1) S (by omega) hS nx.symm
      · rw [if_neg (by rw [bI_0 c_37]; decide)] at nx
        refine hv_iload_n dX12_quiet_40 rfl ?_
        refine hv_iconst (v := 1) dX12_quiet_41 (by decide) ?_
        refine hv_iload_n dX12_quiet_42 rfl ?_
        refine hv_ishl dX12_quiet_43 ?_
        refine hv_ior dX12_quiet_44 ?_
        rw [b_shl (by omega), b_or (by omega) (by have := pow_lt7 (i := i) (by omega); omega)]
        obtain ⟨S2, hS2⟩ : ∃ S2, S ||| 2 ^ i = S2 := ⟨_, rfl⟩
        rw [hS2] at nx
        rw [hS2]
        refine hv_istore_n dX12_quiet_45 rfl rfl ?_
        refine hv_iinc dX12_quiet_46 rfl (nI_1 i) rfl rfl ?_
        refine hv_goto (tgt := 14) dX12_quiet_49 (by decide) ?_
        first
          | exact ih (i + 1) S2 (by omega) (by rw [← hS2]; exact or_lt128 hS (pow_lt7 (by omega))) nx.symm
          | exact ih (i + 1) S (by omega) hS nx.symm
  refine hv_aload_n dX12_quiet_0 rfl ?_
  refine hv_iload_n dX12_quiet_1 rfl ?_
  refine hv_cv1 (okPM_is ok) dX12_quiet_2 ml_X12_370 mk_X12_isHouse (by first | rfl | assumption) rfl rfl rfl rfl rfl ?_
  rintro _ _ _ _ ⟨rfl, rfl, rfl, rfl⟩
  refine hv_if_ne (tgt := 10) dX12_quiet_5 (by decide) (fun c_5 => ?_) (fun c_5 => ?_)
  · obtain ⟨ai, hai, rfl⟩ := isH_ix k2 (bI_1 c_5)
    rw [hsel_yes hai k2]
    refine hv_iconst (v := 0) dX12_quiet_10 (by decide) ?_
    refine hv_istore_n dX12_quiet_11 rfl rfl ?_
    refine hv_iconst (v := 0) dX12_quiet_12 (by decide) ?_
    refine hv_istore_n dX12_quiet_13 rfl rfl ?_
    exact loop ai hai h 0 0 (by omega) (by decide) rfl
  · rw [hsel_no (bI_0 c_5)]
    refine hv_iconst (v := -1) dX12_quiet_8 (by decide) ?_
    refine hv_iret dX12_quiet_9 rfl ?_
    exact ⟨rfl, rfl, rfl, rfl⟩
theorem d_spark {L h : Nat} {w : Int32} {hd fe : Nat → Nat} (ok : okPM σ L h hd fe) : hCal G (m_X12_spark (hEq (some (.int (fSpark (fun i => fEat hd fe h 0 i) h w))) (rr 38 51 x y) σ τ)) [.ref (hgA G 64), .int w] shp (rr 38 51 x y) σ τ := by
  have k2 := ok.2.2.2.1
  have hL2 := ok.2.1
  refine hv_enter pn_X12 rfl ?_
  obtain ⟨f, hf⟩ : ∃ f, (fun i => pop7 (fEat hd fe h 0 i)) = f := ⟨_, rfl⟩
  have hf7 : ∀ i, f i ≤ 7 := fun i => by rw [← hf]; exact pop7_le _
  have hf1 : ∀ i, i < h → 1 ≤ f i := fun i hi => by rw [← hf]; exact fEat_pop k2 hi
  have loop : ∀ res, (w = 0 ∨ w = 1) → (res = if h = 0 then -2 else if w = 0 then nI (fWid f h).1 else nI (fWid f h).2) → ∀ k i be mo (l5 : Option Value), i + k = h → wdM f i be mo → hV G (m_X12_spark (hEq (some (.int res)) (rr 38 51 x y) σ τ)) 0 0 shp 20 [some (.ref (hgA G 64)), some (.int w), some (.int be), some (.int mo), some (.int (nI i)), l5] [] (rr 38 51 x y) σ τ := by
    intro res hw hres k
    induction k with
    | zero =>
      intro i be mo l5 hi hp
      obtain rfl : i = h := by omega
      refine hv_iload dX12_spark_20 rfl ?_
      refine hv_aload_n dX12_spark_22 rfl ?_
      refine hv_getr dX12_spark_23 fl_X12_46 (by first | rfl | assumption) rfl (by first | rfl | assumption) ?_
      refine hv_aload_n dX12_spark_26 rfl ?_
      refine hv_geti dX12_spark_27 fl_X12_233 (by first | rfl | assumption) rfl ?_
      refine hv_iald dX12_spark_30 (by first | rfl | assumption) (j := L) ok.1 (by omega) (by first | decide | assumption) ?_
      refine hv_icmp_ge (tgt := 67) dX12_spark_31 (by decide) (fun c_31 => ?_) (fun c_31 => absurd ((by rw [ok.2.2.1]; exact nI_le (Nat.le_refl _) (by omega))) c_31)
      refine hv_iload_n dX12_spark_67 rfl ?_
      refine hv_if_ne (tgt := 75) dX12_spark_68 (by decide) (fun c_68 => ?_) (fun c_68 => ?_)
      · refine hv_iload_n dX12_spark_75 rfl ?_
        refine hv_iret dX12_spark_76 rfl ?_
        refine ⟨congrArg (fun z => some (Value.int z)) ?_, rfl, rfl, rfl⟩
        rw [hres]
        rcases hp with ⟨p1, p2, p3⟩ | ⟨p1, p2, p3⟩
        · rw [if_pos p1]; first | exact p2.symm | exact p3.symm
        · rw [if_neg (by omega)]
          first
          | (rw [if_pos c_68]; exact p2.symm)
          | (rw [if_neg c_68]; exact p3.symm)
      · refine hv_iload_n dX12_spark_71 rfl ?_
        refine hv_goto (tgt := 76) dX12_spark_72 (by decide) ?_
        refine hv_iret dX12_spark_76 rfl ?_
        refine ⟨congrArg (fun z => some (Value.int z)) ?_, rfl, rfl, rfl⟩
        rw [hres]
        rcases hp with ⟨p1, p2, p3⟩ | ⟨p1, p2, p3⟩
        · rw [if_pos p1]; first | exact p2.symm | exact p3.symm
        · rw [if_neg (by omega)]
          first
          | (rw [if_pos c_68]; exact p2.symm)
          | (rw [if_neg c_68]; exact p3.symm)
    | succ k ih =>
      intro i be mo l5 hi hp
      refine hv_iload dX12_spark_20 rfl ?_
      refine hv_aload_n dX12_spark_22 rfl ?_
      refine hv_getr dX12_spark_23 fl_X12_46 (by first | rfl | assumption) rfl (by first | rfl | assumption) ?_
      refine hv_aload_n dX12_spark_26 rfl ?_
      refine hv_geti dX12_spark_27 fl_X12_233 (by first | rfl | assumption) rfl ?_
      refine hv_iald dX12_spark_30 (by first | rfl | assumption) (j := L) ok.1 (by omega) (by first | decide | assumption) ?_
      refine hv_icmp_ge (tgt := 67) dX12_spark_31 (by decide) (fun c_31 => absurd c_31 ((by rw [ok.2.2.1]; exact nI_ge (by omega) (by omega)))) (fun c_31 => ?_)
      refine hv_aload_n dX12_spark_34 rfl ?_
      refine hv_iload dX12_spark_35 rfl ?_
      refine hv_iconst (v := 0) dX12_spark_37 (by decide) ?_
      refine hv_cv2 (d_panicBy (cm := 0) ok (by omega) (by decide)) dX12_spark_38 ml_X12_397 mk_X12_panicBy (by first | rfl | assumption) rfl rfl rfl rfl rfl ?_
      rintro _ _ _ _ ⟨rfl, rfl, rfl, rfl⟩
      refine hv_cs1 (d_bits (fEat_lt (by omega) k2)) dX12_spark_41 ml_X12_394 mk_X12_bits rfl rfl rfl ?_
      rintro _ _ _ _ ⟨rfl, rfl, rfl, rfl⟩
      rw [show pop7 (fEat hd fe h 0 i) = f i from congrFun hf i]
      refine hv_istore dX12_spark_44 rfl rfl ?_
      refine hv_iload dX12_spark_46 rfl ?_
      refine hv_iload_n dX12_spark_48 rfl ?_
      refine hv_icmp_gt (tgt := 55) dX12_spark_49 (by decide) (fun c_49 => ?_) (fun c_49 => ?_)
      · refine hv_iload dX12_spark_55 rfl ?_
        refine hv_istore_n dX12_spark_57 rfl rfl ?_
        refine hv_iload dX12_spark_58 rfl ?_
        refine hv_istore_n dX12_spark_60 rfl rfl ?_
        refine hv_iinc dX12_spark_61 rfl (nI_1 i) rfl rfl ?_
        refine hv_goto (tgt := 20) dX12_spark_64 (by decide) ?_
        have hfi := hf7 i
        first
          | (refine ih (i + 1) (nI i) (nI (f i)) _ (by omega) (Or.inr ⟨by omega, ?_⟩)
             have cn : ¬ nI (f i) ≤ mo := Int32.not_le.mpr c_49
             rw [fWid]
             rcases hp with ⟨p1, p2, p3⟩ | ⟨p1, p2, p3⟩
             · subst p1; rw [if_pos (show (fWid f 0).2 < f 0 by have := hf1 0 (by omega); rw [fWid]; omega)]; exact ⟨rfl, rfl⟩
             · have hl := (fWid_le f hf7 i).2
               rw [if_pos (by rw [p3] at cn; exact (nI_ltI (by omega) (by omega)).mp (Int32.not_le.mp cn))]; exact ⟨rfl, rfl⟩)
          | (refine ih (i + 1) be mo _ (by omega) (Or.inr ⟨by omega, ?_⟩)
             rw [fWid]
             have cp : nI (f i) ≤ mo := Int32.not_lt.mp c_49
             rcases hp with ⟨p1, p2, p3⟩ | ⟨p1, p2, p3⟩
             · rw [p3] at cp; exact absurd cp (nI_gtm2 _ (hf7 i))
             · have hl := (fWid_le f hf7 i).2
               rw [if_neg (by rw [p3] at cp; have := (nI_leI (by omega) (by omega)).mp cp; omega)]; exact ⟨p2, p3⟩)
      · refine hv_goto (tgt := 61) dX12_spark_52 (by decide) ?_
        refine hv_iinc dX12_spark_61 rfl (nI_1 i) rfl rfl ?_
        refine hv_goto (tgt := 20) dX12_spark_64 (by decide) ?_
        have hfi := hf7 i
        first
          | (refine ih (i + 1) (nI i) (nI (f i)) _ (by omega) (Or.inr ⟨by omega, ?_⟩)
             have cn : ¬ nI (f i) ≤ mo := Int32.not_le.mpr c_49
             rw [fWid]
             rcases hp with ⟨p1, p2, p3⟩ | ⟨p1, p2, p3⟩
             · subst p1; rw [if_pos (show (fWid f 0).2 < f 0 by have := hf1 0 (by omega); rw [fWid]; omega)]; exact ⟨rfl, rfl⟩
             · have hl := (fWid_le f hf7 i).2
               rw [if_pos (by rw [p3] at cn; exact (nI_ltI (by omega) (by omega)).mp (Int32.not_le.mp cn))]; exact ⟨rfl, rfl⟩)
          | (refine ih (i + 1) be mo _ (by omega) (Or.inr ⟨by omega, ?_⟩)
             rw [fWid]
             have cp : nI (f i) ≤ mo := Int32.not_lt.mp c_49
             rcases hp with ⟨p1, p2, p3⟩ | ⟨p1, p2, p3⟩
             · rw [p3] at cp; exact absurd cp (nI_gtm2 _ (hf7 i))
             · have hl := (fWid_le f hf7 i).2
               rw [if_neg (by rw [p3] at cp; have := (nI_leI (by omega) (by omega)).mp cp; omega)]; exact ⟨p2, p3⟩)
  have heq : ∀ (w0 : w = 0 ∨ w = 1), fSpark (fun i => fEat hd fe h 0 i) h w = if h = 0 then -2 else if w = 0 then nI (fWid f h).1 else nI (fWid f h).2 := by
    intro w0
    unfold fSpark
    rw [if_neg (fun q => q w0), hf]
    by_cases e : h = 0
    · rw [if_pos e, if_pos e]
    · rw [if_neg e, if_neg e, show pop7 (fEat hd fe h 0 (fWid f h).1) = f (fWid f h).1 from congrFun hf _, fWid_at hf1 h (Nat.le_refl _) (by omega)]
  refine hv_iload_n dX12_spark_0 rfl ?_
  refine hv_iconst (v := 0) dX12_spark_1 (by decide) ?_
  refine hv_iconst (v := 1) dX12_spark_2 (by decide) ?_
  refine hv_cs3 (d_in) dX12_spark_3 ml_X12_319 mk_X12_in rfl rfl rfl ?_
  rintro _ _ _ _ ⟨rfl, rfl, rfl, rfl⟩
  refine hv_if_ne (tgt := 11) dX12_spark_6 (by decide) (fun c_6 => ?_) (fun c_6 => ?_)
  · have hw : w = 0 ∨ w = 1 := by
      obtain ⟨wi, hwi, rfl⟩ := inI_ix (n := 1) (by decide) (bI_1 c_6)
      rcases (show wi = 0 ∨ wi = 1 by omega) with rfl | rfl
      · exact Or.inl rfl
      · exact Or.inr rfl
    rw [heq hw]
    refine hv_bipush (v := -2) dX12_spark_11 (by decide) ?_
    refine hv_istore_n dX12_spark_13 rfl rfl ?_
    refine hv_bipush (v := -2) dX12_spark_14 (by decide) ?_
    refine hv_istore_n dX12_spark_16 rfl rfl ?_
    refine hv_iconst (v := 0) dX12_spark_17 (by decide) ?_
    refine hv_istore dX12_spark_18 rfl rfl ?_
    exact loop _ hw rfl h 0 (-2) (-2) none (by omega) (Or.inl ⟨rfl, rfl, rfl⟩)
  · have hw : ¬ (w = 0 ∨ w = 1) := fun qq => by
      have := bI_0 c_6
      rcases qq with rfl | rfl <;> exact absurd this (by decide)
    unfold fSpark
    rw [if_pos hw]
    refine hv_iconst (v := -1) dX12_spark_9 (by decide) ?_
    refine hv_iret dX12_spark_10 rfl ?_
    exact ⟨rfl, rfl, rfl, rfl⟩
theorem d_ithOf {m : Nat} {i : Int32} {r : hR} (hm : m < 128) : hCal G (m_X12_ithOf (hEq (some (.int (fMem m i 7 0 0))) r σ τ)) [.int (nI m), .int i] shp r σ τ := by
  refine hv_enter pn_X12 rfl ?_
  have loop : ∀ k hs sn (res : Int32), hs + k = 7 → fMem m i k hs sn = res → sn ≤ hs → hV G (m_X12_ithOf (hEq (some (.int res)) r σ τ)) 0 0 shp 4 [some (.int (nI m)), some (.int i), some (.int (nI sn)), some (.int (nI hs))] [] r σ τ := by
    intro k
    induction k with
    | zero =>
      intro hs sn res hi hr hsn
      obtain rfl : hs = 7 := by omega
      refine hv_iload_n dX12_ithOf_4 rfl ?_
      refine hv_bipush (v := 7) dX12_ithOf_5 (by decide) ?_
      refine hv_icmp_ge (tgt := 37) dX12_ithOf_7 (by decide) (fun c_7 => ?_) (fun c_7 => absurd ((by decide)) c_7)
      refine hv_iconst (v := -1) dX12_ithOf_37 (by decide) ?_
      refine hv_iret dX12_ithOf_38 rfl ?_
      rw [← hr]; exact ⟨rfl, rfl, rfl, rfl⟩
    | succ k ih =>
      intro hs sn res hi hr hsn
      rw [fMem] at hr
      refine hv_iload_n dX12_ithOf_4 rfl ?_
      refine hv_bipush (v := 7) dX12_ithOf_5 (by decide) ?_
      refine hv_icmp_ge (tgt := 37) dX12_ithOf_7 (by decide) (fun c_7 => absurd c_7 ((nI_ge (b := 7) (by omega) (by decide)))) (fun c_7 => ?_)
      refine hv_iload_n dX12_ithOf_10 rfl ?_
      refine hv_iload_n dX12_ithOf_11 rfl ?_
      refine hv_ishr dX12_ithOf_12 ?_
      refine hv_iconst (v := 1) dX12_ithOf_13 (by decide) ?_
      refine hv_iand dX12_ithOf_14 ?_
      rw [b_bit hm (by omega)]
      refine hv_if_ne (tgt := 21) dX12_ithOf_15 (by decide) (fun c_15 => ?_) (fun c_15 => ?_)
      · rw [if_pos (bI_1 c_15)] at hr
        refine hv_iload_n dX12_ithOf_21 rfl ?_
        refine hv_iload_n dX12_ithOf_22 rfl ?_
        refine hv_icmp_ne (tgt := 28) dX12_ithOf_23 (by decide) (fun c_23 => ?_) (fun c_23 => ?_)
        · rw [if_neg c_23] at hr
          refine hv_iinc dX12_ithOf_28 rfl (nI_1 sn) rfl rfl ?_
          refine hv_iinc dX12_ithOf_31 rfl (nI_1 hs) rfl rfl ?_
          refine hv_goto (tgt := 4) dX12_ithOf_34 (by decide) ?_
          first
            | exact ih (hs + 1) (sn + 1) res (by omega) hr (by omega)
            | exact ih (hs + 1) sn res (by omega) hr (by omega)
        · rw [if_pos c_23] at hr
          refine hv_iload_n dX12_ithOf_26 rfl ?_
          refine hv_iret dX12_ithOf_27 rfl ?_
          rw [← hr]; exact ⟨rfl, rfl, rfl, rfl⟩
      · rw [if_neg (by rw [bI_0 c_15]; decide)] at hr
        refine hv_goto (tgt := 31) dX12_ithOf_18 (by decide) ?_
        refine hv_iinc dX12_ithOf_31 rfl (nI_1 hs) rfl rfl ?_
        refine hv_goto (tgt := 4) dX12_ithOf_34 (by decide) ?_
        first
          | exact ih (hs + 1) (sn + 1) res (by omega) hr (by omega)
          | exact ih (hs + 1) sn res (by omega) hr (by omega)
  refine hv_iconst (v := 0) dX12_ithOf_0 (by decide) ?_
  refine hv_istore_n dX12_ithOf_1 rfl rfl ?_
  refine hv_iconst (v := 0) dX12_ithOf_2 (by decide) ?_
  refine hv_istore_n dX12_ithOf_3 rfl rfl ?_
  exact loop 7 0 0 _ (by omega) rfl (by omega)
end S51

