abbrev m_X12_house (Q : hPo) : hMe := (hrm 5, 0, 0, yX12_house, cX12_house, 3, (some FieldType.int), shp, none, Q)
abbrev m_X12_tells (Q : hPo) : hMe := (hrm 4, 0, 0, yX12_tells, cX12_tells, 3, (some FieldType.int), shp, none, Q)
def okDl (p : Nat × Int32) : Prop := (p.1 = 0 → p.2 = -2) ∧ (p.1 ≠ 0 → ∃ z, z ≤ 100 ∧ p.2 = nI z)
theorem okDl_1 {D : Nat → Nat → Bool} {g : Nat} {s : Nat × Int32} (hg : g < 7) (hs : okDl s) : ∀ n, n ≤ 7 → okDl (fDl1 D g s n)
  | 0, _ => hs
  | n + 1, hn => by
    have ih := okDl_1 (D := D) hg hs n (by omega)
    unfold fDl1
    split
    · refine ⟨fun q => absurd q (by simp), fun _ => ?_⟩
      dsimp only
      by_cases c : (fDl1 D g s n).1 = 0
      · rw [if_pos c]
        exact ⟨10 * g + n, by omega, by rw [show (10 : Int32) * nI g = nI (10 * g) from pk_mul 10 g, nI_add]⟩
      · rw [if_neg c]; exact ih.2 c
    · exact ih
theorem okDl_n {D : Nat → Nat → Bool} {h : Nat} (hh : h ≤ 7) : ∀ n, n ≤ 7 → okDl (fDl D h n)
  | 0, _ => ⟨fun _ => rfl, fun q => absurd rfl q⟩
  | n + 1, hn => by unfold fDl; exact okDl_1 (by omega) (okDl_n hh n (by omega)) h hh
section S58
variable {G : hGl} {σ : hS} {τ : hT} {x y : Option Nat}
theorem d_deals {L h : Nat} {LF : Nat → hF → Int32} {w P : Int32} (ok : okR σ L h LF) (hP : P = fPrice (twM σ L h LF) (dyM σ 98)) : hCal G (m_X12_deals (hRq (if w = 0 ∨ w = 1 then (if w = 0 then nI (fDl (fDealA (dF (dyM σ 98)) (dC (dyM σ 98)) (tU (twM σ L h LF)) P) h h).1 else (fDl (fDealA (dF (dyM σ 98)) (dC (dyM σ 98)) (tU (twM σ L h LF)) P) h h).2) else -1) x y σ τ)) [.ref (hgA G 64), .int w] shp (rr 38 51 x y) σ τ := by
  have k2 := ok.1.2.2.2.1
  have hL2 := ok.1.2.1
  obtain ⟨D, hD⟩ : ∃ D, fDealA (dF (dyM σ 98)) (dC (dyM σ 98)) (tU (twM σ L h LF)) P = D := ⟨_, rfl⟩
  have hDi : ∀ g t, D g t = true ↔ (0 < σ 98 g ∧ σ 98 (7 + g) < P ∧ P ≤ σ 98 (7 + t) ∧ σ 77 (7 * L + g) < σ 77 (7 * L + t)) := fun g t => by rw [← hD]; unfold fDealA; rw [decide_eq_true_iff]; exact Iff.rfl
  rw [hD]
  refine hv_enter pn_X12 rfl ?_
  have inner : ∀ Q (R : hS), R 64 18 = nI L → R 74 L = nI h → R 77 = σ 77 → (∀ j, j < 37 → R 99 j = σ 98 j) → ∀ k t g (s : Nat × Int32) (fo : Nat) (fi : Int32), t + k = h → g < h → okDl s → s.1 ≤ g * h → (fo, fi) = fDl1 D g s t → (∀ (fo2 : Nat) (fi2 : Int32), (fo2, fi2) = fDl1 D g s h → hV G (m_X12_deals Q) 0 0 shp 158 [some (.ref (hgA G 64)), some (.int w), some (.int P), some (.int (nI fo2)), some (.int fi2), some (.int (nI g)), some (.int (nI h))] [] (rr 38 51 x y) R τ) → hV G (m_X12_deals Q) 0 0 shp 46 [some (.ref (hgA G 64)), some (.int w), some (.int P), some (.int (nI fo)), some (.int fi), some (.int (nI g)), some (.int (nI t))] [] (rr 38 51 x y) R τ := by
    intro Q R eL eh e77 e99 k
    induction k with
    | zero =>
      intro t g s fo fi hi hg hok hsl hff kk
      obtain rfl : t = h := by omega
      refine hv_iload dX12_deals_46 rfl ?_
      refine hv_aload_n dX12_deals_48 rfl ?_
      refine hv_getr dX12_deals_49 fl_X12_46 (by first | rfl | assumption) rfl (by first | rfl | assumption) ?_
      refine hv_aload_n dX12_deals_52 rfl ?_
      refine hv_geti dX12_deals_53 fl_X12_233 (by first | rfl | assumption) rfl ?_
      refine hv_iald dX12_deals_56 (by first | rfl | assumption) (j := L) eL (by omega) (by first | decide | assumption) ?_
      refine hv_icmp_ge (tgt := 158) dX12_deals_57 (by decide) (fun c_57 => ?_) (fun c_57 => absurd ((by rw [eh]; exact nI_le (Nat.le_refl _) (by omega))) c_57)
      exact kk fo fi hff
    | succ k ih =>
      intro t g s fo fi hi hg hok hsl hff kk
      have hfl : fo ≤ 56 := by
        have hq := fDl1_le D g s t
        rw [← hff] at hq
        have hq2 : g * h ≤ 7 * 7 := Nat.mul_le_mul (by omega) k2
        have hq3 : fo ≤ s.1 + t := hq
        omega
      have hok2 : okDl (fo, fi) := by rw [hff]; exact okDl_1 (by omega) hok t (by omega)
      have hnx : fDl1 D g s (t + 1) = if D g t = true then (fo + 1, if fo = 0 then 10 * nI g + nI t else fi) else (fo, fi) := by rw [fDl1, ← hff]
      have hDg := hDi g t
      have hp0 := (ok.2.2 g hg).1
      refine hv_iload dX12_deals_46 rfl ?_
      refine hv_aload_n dX12_deals_48 rfl ?_
      refine hv_getr dX12_deals_49 fl_X12_46 (by first | rfl | assumption) rfl (by first | rfl | assumption) ?_
      refine hv_aload_n dX12_deals_52 rfl ?_
      refine hv_geti dX12_deals_53 fl_X12_233 (by first | rfl | assumption) rfl ?_
      refine hv_iald dX12_deals_56 (by first | rfl | assumption) (j := L) eL (by omega) (by first | decide | assumption) ?_
      refine hv_icmp_ge (tgt := 158) dX12_deals_57 (by decide) (fun c_57 => absurd c_57 ((by rw [eh]; exact nI_ge (by omega) (by omega)))) (fun c_57 => ?_)
      refine hv_aload_n dX12_deals_60 rfl ?_
      refine hv_getr dX12_deals_61 fl_X12_122 (by first | rfl | assumption) rfl (by first | rfl | assumption) ?_
      refine hv_iload dX12_deals_64 rfl ?_
      refine hv_iald dX12_deals_66 (by first | rfl | assumption) rfl (by first | assumption | omega) (by first | decide | assumption) ?_
      rw [e99 g (by omega)]
      refine hv_if_eq (tgt := 152) dX12_deals_67 (by decide) (fun c_67 => ?_) (fun c_67 => ?_)
      · rw [if_neg (fun qq => by have := (hDg.mp qq).1; rw [c_67] at this; exact absurd this (by decide))] at hnx
        refine hv_iinc dX12_deals_152 rfl (nI_1 t) rfl rfl ?_
        refine hv_goto (tgt := 46) dX12_deals_155 (by decide) ?_
        first
          | exact ih (t + 1) g s (fo + 1) _ (by omega) hg hok hsl hnx.symm kk
          | exact ih (t + 1) g s fo fi (by omega) hg hok hsl hnx.symm kk
      · refine hv_aload_n dX12_deals_70 rfl ?_
        refine hv_getr dX12_deals_71 fl_X12_122 (by first | rfl | assumption) rfl (by first | rfl | assumption) ?_
        refine hv_bipush (v := 7) dX12_deals_74 (by decide) ?_
        refine hv_iload dX12_deals_76 rfl ?_
        refine hv_iadd dX12_deals_78 ?_
        refine hv_iald dX12_deals_79 (by first | rfl | assumption) (j := 7 + g) (nI_add 7 g) (by omega) (by first | decide | assumption) ?_
        refine hv_iload_n dX12_deals_80 rfl ?_
        rw [e99 (7 + g) (by omega)]
        refine hv_icmp_ge (tgt := 152) dX12_deals_81 (by decide) (fun c_81 => ?_) (fun c_81 => ?_)
        · rw [if_neg (fun qq => Int32.not_lt.mpr c_81 (hDg.mp qq).2.1)] at hnx
          refine hv_iinc dX12_deals_152 rfl (nI_1 t) rfl rfl ?_
          refine hv_goto (tgt := 46) dX12_deals_155 (by decide) ?_
          first
            | exact ih (t + 1) g s (fo + 1) _ (by omega) hg hok hsl hnx.symm kk
            | exact ih (t + 1) g s fo fi (by omega) hg hok hsl hnx.symm kk
        · refine hv_aload_n dX12_deals_84 rfl ?_
          refine hv_getr dX12_deals_85 fl_X12_122 (by first | rfl | assumption) rfl (by first | rfl | assumption) ?_
          refine hv_bipush (v := 7) dX12_deals_88 (by decide) ?_
          refine hv_iload dX12_deals_90 rfl ?_
          refine hv_iadd dX12_deals_92 ?_
          refine hv_iald dX12_deals_93 (by first | rfl | assumption) (j := 7 + t) (nI_add 7 t) (by omega) (by first | decide | assumption) ?_
          refine hv_iload_n dX12_deals_94 rfl ?_
          rw [e99 (7 + t) (by omega)]
          refine hv_icmp_lt (tgt := 152) dX12_deals_95 (by decide) (fun c_95 => ?_) (fun c_95 => ?_)
          · rw [if_neg (fun qq => Int32.not_lt.mpr (hDg.mp qq).2.2.1 c_95)] at hnx
            refine hv_iinc dX12_deals_152 rfl (nI_1 t) rfl rfl ?_
            refine hv_goto (tgt := 46) dX12_deals_155 (by decide) ?_
            first
              | exact ih (t + 1) g s (fo + 1) _ (by omega) hg hok hsl hnx.symm kk
              | exact ih (t + 1) g s fo fi (by omega) hg hok hsl hnx.symm kk
          · refine hv_aload_n dX12_deals_98 rfl ?_
            refine hv_getr dX12_deals_99 fl_X12_55 (by first | rfl | assumption) rfl (by first | rfl | assumption) ?_
            refine hv_bipush (v := 7) dX12_deals_102 (by decide) ?_
            refine hv_aload_n dX12_deals_104 rfl ?_
            refine hv_geti dX12_deals_105 fl_X12_233 (by first | rfl | assumption) rfl ?_
            refine hv_imul dX12_deals_108 ?_
            refine hv_iload dX12_deals_109 rfl ?_
            refine hv_iadd dX12_deals_111 ?_
            refine hv_iald dX12_deals_112 (by first | rfl | assumption) (j := 7 * L + t) (by rw [eL]; exact ix7) (by omega) (by first | decide | assumption) ?_
            refine hv_aload_n dX12_deals_113 rfl ?_
            refine hv_getr dX12_deals_114 fl_X12_55 (by first | rfl | assumption) rfl (by first | rfl | assumption) ?_
            refine hv_bipush (v := 7) dX12_deals_117 (by decide) ?_
            refine hv_aload_n dX12_deals_119 rfl ?_
            refine hv_geti dX12_deals_120 fl_X12_233 (by first | rfl | assumption) rfl ?_
            refine hv_imul dX12_deals_123 ?_
            refine hv_iload dX12_deals_124 rfl ?_
            refine hv_iadd dX12_deals_126 ?_
            refine hv_iald dX12_deals_127 (by first | rfl | assumption) (j := 7 * L + g) (by rw [eL]; exact ix7) (by omega) (by first | decide | assumption) ?_
            rw [e77]
            refine hv_icmp_gt (tgt := 134) dX12_deals_128 (by decide) (fun c_128 => ?_) (fun c_128 => ?_)
            · rw [if_pos (hDg.mpr ⟨Int32.lt_of_le_of_ne hp0 (fun qq => c_67 qq.symm), Int32.not_le.mp c_81, Int32.not_lt.mp c_95, c_128⟩)] at hnx
              refine hv_iinc dX12_deals_134 rfl (nI_1 fo) rfl rfl ?_
              refine hv_iload dX12_deals_137 rfl ?_
              refine hv_if_ge (tgt := 152) dX12_deals_139 (by decide) (fun c_139 => ?_) (fun c_139 => ?_)
              · rw [if_neg (fun qq => by have hz : fi = -2 := hok2.1 qq; rw [hz] at c_139; exact absurd c_139 (by decide))] at hnx
                refine hv_iinc dX12_deals_152 rfl (nI_1 t) rfl rfl ?_
                refine hv_goto (tgt := 46) dX12_deals_155 (by decide) ?_
                first
                  | exact ih (t + 1) g s (fo + 1) _ (by omega) hg hok hsl hnx.symm kk
                  | exact ih (t + 1) g s fo fi (by omega) hg hok hsl hnx.symm kk
              · rw [if_pos (Classical.byContradiction fun qq => by obtain ⟨z, hz1, hz2⟩ := hok2.2 qq; rw [show fi = nI z from hz2] at c_139; exact c_139 (nI_pos' (by omega)))] at hnx
                refine hv_bipush (v := 10) dX12_deals_142 (by decide) ?_
                refine hv_iload dX12_deals_144 rfl ?_
                refine hv_imul dX12_deals_146 ?_
                refine hv_iload dX12_deals_147 rfl ?_
                refine hv_iadd dX12_deals_149 ?_
                refine hv_istore dX12_deals_150 rfl rfl ?_
                refine hv_iinc dX12_deals_152 rfl (nI_1 t) rfl rfl ?_
                refine hv_goto (tgt := 46) dX12_deals_155 (by decide) ?_
                first
                  | exact ih (t + 1) g s (fo + 1) _ (by omega) hg hok hsl hnx.symm kk
                  | exact ih (t + 1) g s fo fi (by omega) hg hok hsl hnx.symm kk
            · rw [if_neg (fun qq => c_128 (hDg.mp qq).2.2.2)] at hnx
              refine hv_goto (tgt := 152) dX12_deals_131 (by decide) ?_
              refine hv_iinc dX12_deals_152 rfl (nI_1 t) rfl rfl ?_
              refine hv_goto (tgt := 46) dX12_deals_155 (by decide) ?_
              first
                | exact ih (t + 1) g s (fo + 1) _ (by omega) hg hok hsl hnx.symm kk
                | exact ih (t + 1) g s fo fi (by omega) hg hok hsl hnx.symm kk
  have outer : ∀ (R : hS) res, R 64 18 = nI L → R 74 L = nI h → R 77 = σ 77 → (∀ j, j < 37 → R 99 j = σ 98 j) → (∀ k, k ∉ xRq → R k = σ k) → k64 σ R → (res = if w = 0 then nI (fDl D h h).1 else (fDl D h h).2) → ∀ k g (fo : Nat) (fi : Int32) (i6 : Option Value), g + k = h → (fo, fi) = fDl D h g → hV G (m_X12_deals (hRq res x y σ τ)) 0 0 shp 29 [some (.ref (hgA G 64)), some (.int w), some (.int P), some (.int (nI fo)), some (.int fi), some (.int (nI g)), i6] [] (rr 38 51 x y) R τ := by
    intro R res eL eh e77 e99 hR1 hR2 hres k
    induction k with
    | zero =>
      intro g fo fi i6 hi hff
      obtain rfl : g = h := by omega
      rw [← hff] at hres
      refine hv_iload dX12_deals_29 rfl ?_
      refine hv_aload_n dX12_deals_31 rfl ?_
      refine hv_getr dX12_deals_32 fl_X12_46 (by first | rfl | assumption) rfl (by first | rfl | assumption) ?_
      refine hv_aload_n dX12_deals_35 rfl ?_
      refine hv_geti dX12_deals_36 fl_X12_233 (by first | rfl | assumption) rfl ?_
      refine hv_iald dX12_deals_39 (by first | rfl | assumption) (j := L) eL (by omega) (by first | decide | assumption) ?_
      refine hv_icmp_ge (tgt := 164) dX12_deals_40 (by decide) (fun c_40 => ?_) (fun c_40 => absurd ((by rw [eh]; exact nI_le (Nat.le_refl _) (by omega))) c_40)
      refine hv_iload_n dX12_deals_164 rfl ?_
      refine hv_if_ne (tgt := 172) dX12_deals_165 (by decide) (fun c_165 => ?_) (fun c_165 => ?_)
      · refine hv_iload dX12_deals_172 rfl ?_
        refine hv_iret dX12_deals_174 rfl ?_
        rw [hres]
        first | (rw [if_pos c_165]; exact ⟨rfl, rfl, rfl, hR1, hR2⟩) | (rw [if_neg c_165]; exact ⟨rfl, rfl, rfl, hR1, hR2⟩)
      · refine hv_iload_n dX12_deals_168 rfl ?_
        refine hv_goto (tgt := 174) dX12_deals_169 (by decide) ?_
        refine hv_iret dX12_deals_174 rfl ?_
        rw [hres]
        first | (rw [if_pos c_165]; exact ⟨rfl, rfl, rfl, hR1, hR2⟩) | (rw [if_neg c_165]; exact ⟨rfl, rfl, rfl, hR1, hR2⟩)
    | succ k ih =>
      intro g fo fi i6 hi hff
      refine hv_iload dX12_deals_29 rfl ?_
      refine hv_aload_n dX12_deals_31 rfl ?_
      refine hv_getr dX12_deals_32 fl_X12_46 (by first | rfl | assumption) rfl (by first | rfl | assumption) ?_
      refine hv_aload_n dX12_deals_35 rfl ?_
      refine hv_geti dX12_deals_36 fl_X12_233 (by first | rfl | assumption) rfl ?_
      refine hv_iald dX12_deals_39 (by first | rfl | assumption) (j := L) eL (by omega) (by first | decide | assumption) ?_
      refine hv_icmp_ge (tgt := 164) dX12_deals_40 (by decide) (fun c_40 => absurd c_40 ((by rw [eh]; exact nI_ge (by omega) (by omega)))) (fun c_40 => ?_)
      refine hv_iconst (v := 0) dX12_deals_43 (by decide) ?_
      refine hv_istore dX12_deals_44 rfl rfl ?_
      refine inner _ R eL eh e77 e99 h 0 g (fDl D h g) fo fi (by omega) (by omega) (okDl_n k2 g (by omega)) (fDl_le D h g) hff ?_
      intro fo2 fi2 hf2
      refine hv_iinc dX12_deals_158 rfl (nI_1 g) rfl rfl ?_
      refine hv_goto (tgt := 29) dX12_deals_161 (by decide) ?_
      exact ih (g + 1) fo2 fi2 _ (by omega) hf2
  refine hv_iload_n dX12_deals_0 rfl ?_
  refine hv_iconst (v := 0) dX12_deals_1 (by decide) ?_
  refine hv_iconst (v := 1) dX12_deals_2 (by decide) ?_
  refine hv_cs3 (d_in) dX12_deals_3 ml_X12_319 mk_X12_in rfl rfl rfl ?_
  rintro _ _ _ _ ⟨rfl, rfl, rfl, rfl⟩
  refine hv_if_ne (tgt := 11) dX12_deals_6 (by decide) (fun c_6 => ?_) (fun c_6 => ?_)
  · rw [if_pos (in01.mp (bI_1 c_6))]
    refine hv_aload_n dX12_deals_11 rfl ?_
    refine hv_cv0 (d_copies ok.1.1 ok.1.2.1) dX12_deals_12 ml_X12_373 mk_X12_copies (by first | rfl | assumption) rfl rfl rfl rfl rfl ?_
    rintro _ _ σ1 _ ⟨rfl, rfl, rfl, q1, q2, q3⟩
    obtain ⟨c1, c2, c3, c4, c5, c6, c7, c8⟩ := cp_of ok q1 q2 q3
    refine hv_aload_n dX12_deals_15 rfl ?_
    refine hv_cv0 (d_priceNow c1 c2) dX12_deals_16 ml_X12_379 mk_X12_priceNow (by first | rfl | assumption) rfl rfl rfl rfl rfl ?_
    rintro _ _ σ2 _ ⟨rfl, rfl, rfl, q4, q5⟩
    rw [show fPrice (twM σ1 L h LF) (dyM σ1 99) = P by rw [hP, c5]; exact fPrice_congr (tEqM ok.1) (c4.mono k2)]
    refine hv_istore_n dX12_deals_19 rfl rfl ?_
    refine hv_iconst (v := 0) dX12_deals_20 (by decide) ?_
    refine hv_istore_n dX12_deals_21 rfl rfl ?_
    refine hv_bipush (v := -2) dX12_deals_22 (by decide) ?_
    refine hv_istore dX12_deals_24 rfl rfl ?_
    refine hv_iconst (v := 0) dX12_deals_26 (by decide) ?_
    refine hv_istore dX12_deals_27 rfl rfl ?_
    exact outer σ2 _ ((q5 18 (by decide)).trans c1.1) (by rw [q4 74 (by decide)]; exact c1.2.2.1) (by rw [q4 77 (by decide)]; exact q1 77 (by decide)) (fun j hj => by rw [q4 99 (by decide)]; exact c8 j hj) (off_tr q1 q4 (by decide) (by decide)) (fun j j1 j2 j3 => (q5 j j1).trans (c7 j j2)) rfl h 0 0 (-2) none (by omega) rfl
  · rw [if_neg (in01f (bI_0 c_6))]
    refine hv_iconst (v := -1) dX12_deals_9 (by decide) ?_
    refine hv_iret dX12_deals_10 rfl ?_
    exact ⟨rfl, rfl, rfl, fun _ _ => rfl, k64_rf⟩
theorem d_house {L h : Nat} {LF : Nat → hF → Int32} {V : hF} {pr : Nat → Option Nat} {a w : Int32} (ok : okR σ L h LF) (hvv : V = fVotes (twM σ L h LF) (dyM σ 98) (hsum (dF (dyM σ 98)) h)) (hx : okXM σ 98 h pr) : hCal G (m_X12_house (hRq (hsel h a (-1) (fun i => if w = 0 then σ 98 i else if w = 1 then σ 98 (7 + i) else if w = 2 then σ 77 (7 * L + i) else if w = 3 then σ 78 (7 * L + i) else if w = 4 then σ 98 (14 + i) else if w = 5 then σ 98 (21 + i) else if w = 6 then σ 98 (28 + i) else if w = 7 then V i else if w = 8 then fHad V pr h i else if w = 9 then σ 79 (7 * L + i) else -1)) x y σ τ)) [.ref (hgA G 64), .int a, .int w] shp (rr 38 51 x y) σ τ := by
  have k2 := ok.1.2.2.2.1
  have hL2 := ok.1.2.1
  refine hv_enter pn_X12 rfl ?_
  refine hv_aload_n dX12_house_0 rfl ?_
  refine hv_iload_n dX12_house_1 rfl ?_
  refine hv_cv1 (d_isHouse ok.1.1 ok.1.2.1 ok.1.2.2.1 k2) dX12_house_2 ml_X12_370 mk_X12_isHouse (by first | rfl | assumption) rfl rfl rfl rfl rfl ?_
  rintro _ _ _ _ ⟨rfl, rfl, rfl, rfl⟩
  refine hv_if_ne (tgt := 10) dX12_house_5 (by decide) (fun c_5 => ?_) (fun c_5 => ?_)
  · obtain ⟨ai, hai, rfl⟩ := isH_ix k2 (bI_1 c_5)
    rw [hsel_yes hai k2]
    refine hv_aload_n dX12_house_10 rfl ?_
    refine hv_cv0 (d_copies ok.1.1 ok.1.2.1) dX12_house_11 ml_X12_373 mk_X12_copies (by first | rfl | assumption) rfl rfl rfl rfl rfl ?_
    rintro _ _ σ1 _ ⟨rfl, rfl, rfl, q1, q2, q3⟩
    obtain ⟨c1, c2, c3, c4, c5, c6, c7, c8⟩ := cp_of ok q1 q2 q3
    have hk6 : k64 σ σ1 := fun j j1 j2 j3 => c7 j j2
    have hW : ∀ i, i < h → fVotes (twM σ1 L h LF) (dyM σ1 99) (hsum (fun a => σ1 99 (0 + a)) 7) i = V i := fun i hi => by rw [hvv, c5, hsum_M k2 c2, hsum_congr h (fun a ha => (c4.1 a (by omega)).1)]; exact fVotes_congr (tEqM ok.1) (c4.mono k2) hi
    have hxx : okXM σ1 99 h pr := ⟨hx.1, fun a ha => by rw [c8 _ (by omega)]; exact hx.2 a ha⟩
    refine hv_iload_n dX12_house_14 rfl ?_
    by_cases c_15_0 : w = 0
    · refine hv_tin (off := 53) (tgt := 68) (i := 0) dX12_house_15 c_15_0 (by decide) (by decide) (by decide) (by decide) ?_
      rw [if_pos c_15_0]
      refine hv_aload_n dX12_house_68 rfl ?_
      refine hv_getr dX12_house_69 fl_X12_122 (by first | rfl | assumption) rfl (by first | rfl | assumption) ?_
      refine hv_iload_n dX12_house_72 rfl ?_
      refine hv_iald dX12_house_73 (by first | rfl | assumption) rfl (by first | assumption | omega) (by first | decide | assumption) ?_
      refine hv_iret dX12_house_74 rfl ?_
      rw [c8 ai (by omega)]; exact ⟨rfl, rfl, rfl, off_wk q1 (by decide), hk6⟩
    by_cases c_15_1 : w = 1
    · refine hv_tin (off := 60) (tgt := 75) (i := 1) dX12_house_15 c_15_1 (by decide) (by decide) (by decide) (by decide) ?_
      rw [if_neg c_15_0, if_pos c_15_1]
      refine hv_aload_n dX12_house_75 rfl ?_
      refine hv_getr dX12_house_76 fl_X12_122 (by first | rfl | assumption) rfl (by first | rfl | assumption) ?_
      refine hv_bipush (v := 7) dX12_house_79 (by decide) ?_
      refine hv_iload_n dX12_house_81 rfl ?_
      refine hv_iadd dX12_house_82 ?_
      refine hv_iald dX12_house_83 (by first | rfl | assumption) (j := 7 + ai) (nI_add 7 ai) (by omega) (by first | decide | assumption) ?_
      refine hv_iret dX12_house_84 rfl ?_
      rw [c8 (7 + ai) (by omega)]; exact ⟨rfl, rfl, rfl, off_wk q1 (by decide), hk6⟩
    by_cases c_15_2 : w = 2
    · refine hv_tin (off := 70) (tgt := 85) (i := 2) dX12_house_15 c_15_2 (by decide) (by decide) (by decide) (by decide) ?_
      rw [if_neg c_15_0, if_neg c_15_1, if_pos c_15_2]
      refine hv_aload_n dX12_house_85 rfl ?_
      refine hv_getr dX12_house_86 fl_X12_55 (by first | rfl | assumption) rfl (by first | rfl | assumption) ?_
      refine hv_bipush (v := 7) dX12_house_89 (by decide) ?_
      refine hv_aload_n dX12_house_91 rfl ?_
      refine hv_geti dX12_house_92 fl_X12_233 (by first | rfl | assumption) rfl ?_
      refine hv_imul dX12_house_95 ?_
      refine hv_iload_n dX12_house_96 rfl ?_
      refine hv_iadd dX12_house_97 ?_
      refine hv_iald dX12_house_98 (by first | rfl | assumption) (j := 7 * L + ai) (by rw [c1.1]; exact ix7) (by omega) (by first | decide | assumption) ?_
      refine hv_iret dX12_house_99 rfl ?_
      rw [q1 77 (by decide)]; exact ⟨rfl, rfl, rfl, off_wk q1 (by decide), hk6⟩
    by_cases c_15_3 : w = 3
    · refine hv_tin (off := 85) (tgt := 100) (i := 3) dX12_house_15 c_15_3 (by decide) (by decide) (by decide) (by decide) ?_
      rw [if_neg c_15_0, if_neg c_15_1, if_neg c_15_2, if_pos c_15_3]
      refine hv_aload_n dX12_house_100 rfl ?_
      refine hv_getr dX12_house_101 fl_X12_58 (by first | rfl | assumption) rfl (by first | rfl | assumption) ?_
      refine hv_bipush (v := 7) dX12_house_104 (by decide) ?_
      refine hv_aload_n dX12_house_106 rfl ?_
      refine hv_geti dX12_house_107 fl_X12_233 (by first | rfl | assumption) rfl ?_
      refine hv_imul dX12_house_110 ?_
      refine hv_iload_n dX12_house_111 rfl ?_
      refine hv_iadd dX12_house_112 ?_
      refine hv_iald dX12_house_113 (by first | rfl | assumption) (j := 7 * L + ai) (by rw [c1.1]; exact ix7) (by omega) (by first | decide | assumption) ?_
      refine hv_iret dX12_house_114 rfl ?_
      rw [q1 78 (by decide)]; exact ⟨rfl, rfl, rfl, off_wk q1 (by decide), hk6⟩
    by_cases c_15_4 : w = 4
    · refine hv_tin (off := 100) (tgt := 115) (i := 4) dX12_house_15 c_15_4 (by decide) (by decide) (by decide) (by decide) ?_
      rw [if_neg c_15_0, if_neg c_15_1, if_neg c_15_2, if_neg c_15_3, if_pos c_15_4]
      refine hv_aload_n dX12_house_115 rfl ?_
      refine hv_getr dX12_house_116 fl_X12_122 (by first | rfl | assumption) rfl (by first | rfl | assumption) ?_
      refine hv_bipush (v := 14) dX12_house_119 (by decide) ?_
      refine hv_iload_n dX12_house_121 rfl ?_
      refine hv_iadd dX12_house_122 ?_
      refine hv_iald dX12_house_123 (by first | rfl | assumption) (j := 14 + ai) (nI_add 14 ai) (by omega) (by first | decide | assumption) ?_
      refine hv_iret dX12_house_124 rfl ?_
      rw [c8 (14 + ai) (by omega)]; exact ⟨rfl, rfl, rfl, off_wk q1 (by decide), hk6⟩
    by_cases c_15_5 : w = 5
    · refine hv_tin (off := 110) (tgt := 125) (i := 5) dX12_house_15 c_15_5 (by decide) (by decide) (by decide) (by decide) ?_
      rw [if_neg c_15_0, if_neg c_15_1, if_neg c_15_2, if_neg c_15_3, if_neg c_15_4, if_pos c_15_5]
      refine hv_aload_n dX12_house_125 rfl ?_
      refine hv_getr dX12_house_126 fl_X12_122 (by first | rfl | assumption) rfl (by first | rfl | assumption) ?_
      refine hv_bipush (v := 21) dX12_house_129 (by decide) ?_
      refine hv_iload_n dX12_house_131 rfl ?_
      refine hv_iadd dX12_house_132 ?_
      refine hv_iald dX12_house_133 (by first | rfl | assumption) (j := 21 + ai) (nI_add 21 ai) (by omega) (by first | decide | assumption) ?_
      refine hv_iret dX12_house_134 rfl ?_
      rw [c8 (21 + ai) (by omega)]; exact ⟨rfl, rfl, rfl, off_wk q1 (by decide), hk6⟩
    by_cases c_15_6 : w = 6
    · refine hv_tin (off := 120) (tgt := 135) (i := 6) dX12_house_15 c_15_6 (by decide) (by decide) (by decide) (by decide) ?_
      rw [if_neg c_15_0, if_neg c_15_1, if_neg c_15_2, if_neg c_15_3, if_neg c_15_4, if_neg c_15_5, if_pos c_15_6]
      refine hv_aload_n dX12_house_135 rfl ?_
      refine hv_getr dX12_house_136 fl_X12_122 (by first | rfl | assumption) rfl (by first | rfl | assumption) ?_
      refine hv_bipush (v := 28) dX12_house_139 (by decide) ?_
      refine hv_iload_n dX12_house_141 rfl ?_
      refine hv_iadd dX12_house_142 ?_
      refine hv_iald dX12_house_143 (by first | rfl | assumption) (j := 28 + ai) (nI_add 28 ai) (by omega) (by first | decide | assumption) ?_
      refine hv_iret dX12_house_144 rfl ?_
      rw [c8 (28 + ai) (by omega)]; exact ⟨rfl, rfl, rfl, off_wk q1 (by decide), hk6⟩
    by_cases c_15_7 : w = 7
    · refine hv_tin (off := 130) (tgt := 145) (i := 7) dX12_house_15 c_15_7 (by decide) (by decide) (by decide) (by decide) ?_
      rw [if_neg c_15_0, if_neg c_15_1, if_neg c_15_2, if_neg c_15_3, if_neg c_15_4, if_neg c_15_5, if_neg c_15_6, if_pos c_15_7]
      refine hv_aload_n dX12_house_145 rfl ?_
      refine hv_iload_n dX12_house_146 rfl ?_
      refine hv_cv1 (d_ownVotes c1 (by omega)) dX12_house_147 ml_X12_367 mk_X12_ownVotes (by first | rfl | assumption) rfl rfl rfl rfl rfl ?_
      rintro _ _ σ2 _ ⟨rfl, rfl, rfl, q4, q5⟩
      refine hv_iret dX12_house_150 rfl ?_
      rw [hW ai hai]; exact ⟨rfl, rfl, rfl, off_tr q1 q4 (by decide) (by decide), k64_law hk6 q5⟩
    by_cases c_15_8 : w = 8
    · refine hv_tin (off := 136) (tgt := 151) (i := 8) dX12_house_15 c_15_8 (by decide) (by decide) (by decide) (by decide) ?_
      rw [if_neg c_15_0, if_neg c_15_1, if_neg c_15_2, if_neg c_15_3, if_neg c_15_4, if_neg c_15_5, if_neg c_15_6, if_neg c_15_7, if_pos c_15_8]
      refine hv_aload_n dX12_house_151 rfl ?_
      refine hv_iload_n dX12_house_152 rfl ?_
      refine hv_cv1 (d_votesOf c1 rfl hxx hai) dX12_house_153 ml_X12_376 mk_X12_votesOf (by first | rfl | assumption) rfl rfl rfl rfl rfl ?_
      rintro _ _ σ2 _ ⟨rfl, rfl, rfl, q4, q5⟩
      refine hv_iret dX12_house_156 rfl ?_
      rw [had_congr h hW ai]; exact ⟨rfl, rfl, rfl, off_tr q1 q4 (by decide) (by decide), k64_law hk6 q5⟩
    by_cases c_15_9 : w = 9
    · refine hv_tin (off := 142) (tgt := 157) (i := 9) dX12_house_15 c_15_9 (by decide) (by decide) (by decide) (by decide) ?_
      rw [if_neg c_15_0, if_neg c_15_1, if_neg c_15_2, if_neg c_15_3, if_neg c_15_4, if_neg c_15_5, if_neg c_15_6, if_neg c_15_7, if_neg c_15_8, if_pos c_15_9]
      refine hv_aload_n dX12_house_157 rfl ?_
      refine hv_getr dX12_house_158 fl_X12_61 (by first | rfl | assumption) rfl (by first | rfl | assumption) ?_
      refine hv_bipush (v := 7) dX12_house_161 (by decide) ?_
      refine hv_aload_n dX12_house_163 rfl ?_
      refine hv_geti dX12_house_164 fl_X12_233 (by first | rfl | assumption) rfl ?_
      refine hv_imul dX12_house_167 ?_
      refine hv_iload_n dX12_house_168 rfl ?_
      refine hv_iadd dX12_house_169 ?_
      refine hv_iald dX12_house_170 (by first | rfl | assumption) (j := 7 * L + ai) (by rw [c1.1]; exact ix7) (by omega) (by first | decide | assumption) ?_
      refine hv_iret dX12_house_171 rfl ?_
      rw [q1 79 (by decide)]; exact ⟨rfl, rfl, rfl, off_wk q1 (by decide), hk6⟩
    refine hv_tout (tgt := 172) dX12_house_15 (by have q0 := lv_neT (a := 0) c_15_0 (by decide); have q1 := lv_neT (a := 1) c_15_1 (by decide); have q2 := lv_neT (a := 2) c_15_2 (by decide); have q3 := lv_neT (a := 3) c_15_3 (by decide); have q4 := lv_neT (a := 4) c_15_4 (by decide); have q5 := lv_neT (a := 5) c_15_5 (by decide); have q6 := lv_neT (a := 6) c_15_6 (by decide); have q7 := lv_neT (a := 7) c_15_7 (by decide); have q8 := lv_neT (a := 8) c_15_8 (by decide); have q9 := lv_neT (a := 9) c_15_9 (by decide); omega) (by decide) ?_
    refine hv_iconst (v := -1) dX12_house_172 (by decide) ?_
    refine hv_iret dX12_house_173 rfl ?_
    rw [if_neg c_15_0, if_neg c_15_1, if_neg c_15_2, if_neg c_15_3, if_neg c_15_4, if_neg c_15_5, if_neg c_15_6, if_neg c_15_7, if_neg c_15_8, if_neg c_15_9]; exact ⟨rfl, rfl, rfl, off_wk q1 (by decide), hk6⟩
  · rw [hsel_no (bI_0 c_5)]
    refine hv_iconst (v := -1) dX12_house_8 (by decide) ?_
    refine hv_iret dX12_house_9 rfl ?_
    exact ⟨rfl, rfl, rfl, fun _ _ => rfl, k64_rf⟩
theorem d_tells {L h : Nat} {LF : Nat → hF → Int32} {a w : Int32} (ok : okR σ L h LF) : hCal G (m_X12_tells (hRq (if w = 0 then fPrice (twM σ L h LF) (dyM σ 98) else hsel h a (-1) (fun i => if w = 1 then fEats (twM σ L h LF) (dyM σ 98) (hsum (dF (dyM σ 98)) h) i else if w = 2 then fRots (twM σ L h LF) (dyM σ 98) (hsum (dF (dyM σ 98)) h) i else if w = 3 then fGlut (twM σ L h LF) (dyM σ 98) (hsum (dF (dyM σ 98)) h) i else -1)) x y σ τ)) [.ref (hgA G 64), .int a, .int w] shp (rr 38 51 x y) σ τ := by
  have k2 := ok.1.2.2.2.1
  have hL2 := ok.1.2.1
  have hin3 : inI 0 3 w = true → w = 0 ∨ w = 1 ∨ w = 2 ∨ w = 3 := fun q => by
    obtain ⟨wi, hwi, rfl⟩ := inI_ix (n := 3) (by decide) q
    rcases (show wi = 0 ∨ wi = 1 ∨ wi = 2 ∨ wi = 3 by omega) with rfl | rfl | rfl | rfl
    · exact Or.inl rfl
    · exact Or.inr (Or.inl rfl)
    · exact Or.inr (Or.inr (Or.inl rfl))
    · exact Or.inr (Or.inr (Or.inr rfl))
  have hpr : w = 0 → ∀ a : Int32, hV G (m_X12_tells (hRq (fPrice (twM σ L h LF) (dyM σ 98)) x y σ τ)) 0 0 shp 23 [some (.ref (hgA G 64)), some (.int a), some (.int w)] [] (rr 38 51 x y) σ τ := by
    intro hw0 a
    refine hv_aload_n dX12_tells_23 rfl ?_
    refine hv_cv0 (d_copies ok.1.1 ok.1.2.1) dX12_tells_24 ml_X12_373 mk_X12_copies (by first | rfl | assumption) rfl rfl rfl rfl rfl ?_
    rintro _ _ σ1 _ ⟨rfl, rfl, rfl, q1, q2, q3⟩
    obtain ⟨c1, c2, c3, c4, c5, c6, c7, c8⟩ := cp_of ok q1 q2 q3
    have hk6 : k64 σ σ1 := fun j j1 j2 j3 => c7 j j2
    refine hv_iload_n dX12_tells_27 rfl ?_
    refine hv_tin (off := 28) (tgt := 56) (i := 0) (v := 0) dX12_tells_28 (hw0) (by decide) (by decide) (by decide) (by decide) ?_
    refine hv_aload_n dX12_tells_56 rfl ?_
    refine hv_cv0 (d_priceNow c1 c2) dX12_tells_57 ml_X12_379 mk_X12_priceNow (by first | rfl | assumption) rfl rfl rfl rfl rfl ?_
    rintro _ _ σ2 _ ⟨rfl, rfl, rfl, q4, q5⟩
    refine hv_iret dX12_tells_60 rfl ?_
    rw [show fPrice (twM σ1 L h LF) (dyM σ1 99) = fPrice (twM σ L h LF) (dyM σ 98) by rw [c5]; exact fPrice_congr (tEqM ok.1) (c4.mono k2)]; exact ⟨rfl, rfl, rfl, off_tr q1 q4 (by decide) (by decide), k64_law hk6 q5⟩
  have hot : ¬ w = 0 → (w = 0 ∨ w = 1 ∨ w = 2 ∨ w = 3) → ∀ ai, ai < h → hV G (m_X12_tells (hRq (if w = 1 then fEats (twM σ L h LF) (dyM σ 98) (hsum (dF (dyM σ 98)) h) ai else if w = 2 then fRots (twM σ L h LF) (dyM σ 98) (hsum (dF (dyM σ 98)) h) ai else if w = 3 then fGlut (twM σ L h LF) (dyM σ 98) (hsum (dF (dyM σ 98)) h) ai else -1) x y σ τ)) 0 0 shp 23 [some (.ref (hgA G 64)), some (.int (nI ai)), some (.int w)] [] (rr 38 51 x y) σ τ := by
    intro hw0 hw4 ai hai
    refine hv_aload_n dX12_tells_23 rfl ?_
    refine hv_cv0 (d_copies ok.1.1 ok.1.2.1) dX12_tells_24 ml_X12_373 mk_X12_copies (by first | rfl | assumption) rfl rfl rfl rfl rfl ?_
    rintro _ _ σ1 _ ⟨rfl, rfl, rfl, q1, q2, q3⟩
    obtain ⟨c1, c2, c3, c4, c5, c6, c7, c8⟩ := cp_of ok q1 q2 q3
    have hk6 : k64 σ σ1 := fun j j1 j2 j3 => c7 j j2
    have hs7 : hsum (fun a => σ1 99 (0 + a)) 7 = hsum (dF (dyM σ 98)) h := by rw [hsum_M k2 c2]; exact hsum_congr h (fun a ha => (c4.1 a (by omega)).1)
    refine hv_iload_n dX12_tells_27 rfl ?_
    by_cases c_28_0 : w = 0
    · refine hv_tin (off := 28) (tgt := 56) (i := 0) dX12_tells_28 c_28_0 (by decide) (by decide) (by decide) (by decide) ?_
      exact absurd c_28_0 hw0
    by_cases c_28_1 : w = 1
    · refine hv_tin (off := 33) (tgt := 61) (i := 1) dX12_tells_28 c_28_1 (by decide) (by decide) (by decide) (by decide) ?_
      rw [if_pos c_28_1]
      refine hv_aload_n dX12_tells_61 rfl ?_
      refine hv_iload_n dX12_tells_62 rfl ?_
      refine hv_cv1 (d_eatsNow c1 (by omega) (by rw [c8 ai (by omega)]; exact (ok.2.2 ai hai).1)) dX12_tells_63 ml_X12_352 mk_X12_eatsNow (by first | rfl | assumption) rfl rfl rfl rfl rfl ?_
      rintro _ _ σ2 _ ⟨rfl, rfl, rfl, q4, q5⟩
      refine hv_iret dX12_tells_66 rfl ?_
      rw [hs7, c5, fEats_congr (tEqM ok.1) (c4.mono k2) hai]; exact ⟨rfl, rfl, rfl, off_tr q1 q4 (by decide) (by decide), k64_law hk6 q5⟩
    by_cases c_28_2 : w = 2
    · refine hv_tin (off := 39) (tgt := 67) (i := 2) dX12_tells_28 c_28_2 (by decide) (by decide) (by decide) (by decide) ?_
      rw [if_neg c_28_1, if_pos c_28_2]
      refine hv_aload_n dX12_tells_67 rfl ?_
      refine hv_iload_n dX12_tells_68 rfl ?_
      refine hv_cv1 (d_rotsNow c1 (by omega) (by rw [c8 ai (by omega), c8 (14 + ai) (by omega)]; exact (sub_rng (ok.2.2 ai hai).2.2.1 (ok.2.2 ai hai).2.2.2).1)) dX12_tells_69 ml_X12_361 mk_X12_rotsNow (by first | rfl | assumption) rfl rfl rfl rfl rfl ?_
      rintro _ _ σ2 _ ⟨rfl, rfl, rfl, q4, q5⟩
      refine hv_iret dX12_tells_72 rfl ?_
      rw [hs7, c5, fRots_congr (tEqM ok.1) (c4.mono k2) hai]; exact ⟨rfl, rfl, rfl, off_tr q1 q4 (by decide) (by decide), k64_law hk6 q5⟩
    refine hv_tout (tgt := 73) dX12_tells_28 (by have q0 := lv_neT (a := 0) c_28_0 (by decide); have q1 := lv_neT (a := 1) c_28_1 (by decide); have q2 := lv_neT (a := 2) c_28_2 (by decide); omega) (by decide) ?_
    refine hv_aload_n dX12_tells_73 rfl ?_
    refine hv_iload_n dX12_tells_74 rfl ?_
    refine hv_cv1 (d_glutNow c1 (by omega)) dX12_tells_75 ml_X12_355 mk_X12_glutNow (by first | rfl | assumption) rfl rfl rfl rfl rfl ?_
    rintro _ _ σ2 _ ⟨rfl, rfl, rfl, q4, q5⟩
    refine hv_iret dX12_tells_78 rfl ?_
    have hw3 : w = 3 := by
      rcases hw4 with q | q | q | q
      · exact absurd q hw0
      · exact absurd q c_28_1
      · exact absurd q c_28_2
      · exact q
    rw [if_neg c_28_1, if_neg c_28_2, if_pos hw3, hs7, c5, fGlut_congr (tEqM ok.1) (c4.mono k2) hai]; exact ⟨rfl, rfl, rfl, off_tr q1 q4 (by decide) (by decide), k64_law hk6 q5⟩
  refine hv_enter pn_X12 rfl ?_
  refine hv_iload_n dX12_tells_0 rfl ?_
  refine hv_iconst (v := 0) dX12_tells_1 (by decide) ?_
  refine hv_iconst (v := 3) dX12_tells_2 (by decide) ?_
  refine hv_cs3 (d_in) dX12_tells_3 ml_X12_319 mk_X12_in rfl rfl rfl ?_
  rintro _ _ _ _ ⟨rfl, rfl, rfl, rfl⟩
  refine hv_if_eq (tgt := 21) dX12_tells_6 (by decide) (fun c_6 => ?_) (fun c_6 => ?_)
  · have hnw : ¬ (w = 0 ∨ w = 1 ∨ w = 2 ∨ w = 3) := fun q => by
      have hb := bI_0 c_6
      rcases q with rfl | rfl | rfl | rfl <;> exact absurd hb (by decide)
    rw [if_neg (fun q => hnw (Or.inl q)), show hsel h a (-1) (fun i => if w = 1 then fEats (twM σ L h LF) (dyM σ 98) (hsum (dF (dyM σ 98)) h) i else if w = 2 then fRots (twM σ L h LF) (dyM σ 98) (hsum (dF (dyM σ 98)) h) i else if w = 3 then fGlut (twM σ L h LF) (dyM σ 98) (hsum (dF (dyM σ 98)) h) i else -1) = -1 by
      unfold hsel
      split
      · dsimp only; rw [if_neg (fun q => hnw (Or.inr (Or.inl q))), if_neg (fun q => hnw (Or.inr (Or.inr (Or.inl q)))), if_neg (fun q => hnw (Or.inr (Or.inr (Or.inr q))))]
      · rfl]
    refine hv_iconst (v := -1) dX12_tells_21 (by decide) ?_
    refine hv_iret dX12_tells_22 rfl ?_
    exact ⟨rfl, rfl, rfl, fun _ _ => rfl, k64_rf⟩
  · refine hv_iload_n dX12_tells_9 rfl ?_
    refine hv_if_le (tgt := 23) dX12_tells_10 (by decide) (fun c_10 => ?_) (fun c_10 => ?_)
    · have hw0 : w = 0 := (hin3 (bI_1 c_6)).elim id (fun q => by rcases q with rfl | rfl | rfl <;> exact absurd c_10 (by decide))
      rw [if_pos hw0]
      exact hpr hw0 a
    · refine hv_aload_n dX12_tells_13 rfl ?_
      refine hv_iload_n dX12_tells_14 rfl ?_
      refine hv_cv1 (d_isHouse ok.1.1 ok.1.2.1 ok.1.2.2.1 k2) dX12_tells_15 ml_X12_370 mk_X12_isHouse (by first | rfl | assumption) rfl rfl rfl rfl rfl ?_
      rintro _ _ _ _ ⟨rfl, rfl, rfl, rfl⟩
      refine hv_if_ne (tgt := 23) dX12_tells_18 (by decide) (fun c_18 => ?_) (fun c_18 => ?_)
      · have hw0 : ¬ w = 0 := fun q => c_10 (by rw [q]; decide)
        obtain ⟨ai, hai, rfl⟩ := isH_ix k2 (bI_1 c_18)
        rw [if_neg hw0, hsel_yes hai k2]
        exact hot hw0 (hin3 (bI_1 c_6)) ai hai
      · have hw0 : ¬ w = 0 := fun q => c_10 (by rw [q]; decide)
        rw [if_neg hw0, hsel_no (bI_0 c_18)]
        refine hv_iconst (v := -1) dX12_tells_21 (by decide) ?_
        refine hv_iret dX12_tells_22 rfl ?_
        exact ⟨rfl, rfl, rfl, fun _ _ => rfl, k64_rf⟩
end S58

