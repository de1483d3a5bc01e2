set_option maxRecDepth 100000 in
theorem b_andnot : ∀ E, E < 128 → ∀ s, s < 128 → nI E &&& (nI s ^^^ -1) = nI (E &&& (127 - s)) := by decide +kernel
set_option maxRecDepth 100000 in
theorem not_tb : ∀ s, s < 128 → ∀ i, i < 7 → (127 - s).testBit i = !s.testBit i := by decide +kernel
theorem andnot_tb {E s i : Nat} (hs : s < 128) (hi : i < 7) : (E &&& (127 - s)).testBit i = (E.testBit i && !s.testBit i) := by rw [Nat.testBit_and, not_tb s hs i hi]
theorem fLo_out (f : hF) (m : Nat) : ∀ n b, fLo f m n = some b → m.testBit b = false
  | 0, b, hb => by simp [fLo] at hb
  | n + 1, b, hb => by
    unfold fLo fLs at hb
    cases hq : fLo f m n with
    | none =>
      rw [hq] at hb; dsimp only at hb
      split at hb
      · simp at hb
      · rename_i c; simp at hb; subst hb; simpa using c
    | some c =>
      have hc := fLo_out f m n c hq
      rw [hq] at hb; dsimp only at hb
      split at hb
      · simp at hb; subst hb; exact hc
      · rename_i c2
        split at hb
        · simp at hb; subst hb; simpa using c2
        · simp at hb; subst hb; exact hc
theorem fLo_none (f : hF) (m : Nat) : ∀ n, fLo f m n = none → ∀ i, i < n → m.testBit i = true
  | 0, _, i, hi => absurd hi (by omega)
  | n + 1, hb, i, hi => by
    unfold fLo fLs at hb
    cases hq : fLo f m n with
    | none =>
      rw [hq] at hb; dsimp only at hb
      split at hb
      · rename_i c
        by_cases e : i = n
        · subst e; exact c
        · exact fLo_none f m n hq i (by omega)
      · simp at hb
    | some c =>
      rw [hq] at hb; dsimp only at hb
      split at hb
      · simp at hb
      · split at hb <;> simp at hb
theorem fLo_congr {f g : hF} {m : Nat} : ∀ n, (∀ a, a < n → f a = g a) → fLo f m n = fLo g m n
  | 0, _ => rfl
  | n + 1, q => by
    unfold fLo
    rw [fLo_congr n (fun a ha => q a (by omega))]
    cases hq : fLo g m n with
    | none => rfl
    | some b =>
      have hb := fLo_lt g m n b hq
      unfold fLs
      dsimp only
      rw [q b (by omega), q n (by omega)]
theorem fMaj_congr {f g : hF} {h : Nat} {ev : Int32} (hh : h ≤ 7) (q : ∀ a, a < h → f a = g a) : ∀ k gr ad, gr < 2 ^ h → fMaj f h ev k gr ad = fMaj g h ev k gr ad
  | 0, _, _, _ => rfl
  | k + 1, gr, ad, hg => by
    unfold fMaj
    rw [fSm_h hg 7 hh, fSm_h hg 7 hh, fSm_congr h q, fLo_congr h q]
    by_cases c : ev < 2 * fSm g gr h
    · rw [if_pos c, if_pos c]
    · rw [if_neg c, if_neg c]
      cases hq : fLo g gr h with
      | none => rfl
      | some b => exact fMaj_congr hh q k _ _ (or_lt_pow hg (fLo_lt g gr h b hq))
theorem fSm_zero {f : hF} : ∀ n, fSm f 0 n = 0
  | 0 => rfl
  | n + 1 => by rw [fSm, fSm_zero n, Nat.zero_testBit]; rfl
theorem fSm_pow {f : hF} {a n : Nat} (ha : a < n) : fSm f (2 ^ a) n = f a := by
  have hq := fSm_or (f := f) (m := 0) (i := a) (Nat.zero_testBit _) n ha
  rw [Nat.zero_or, fSm_zero, Int32.zero_add] at hq
  exact hq
theorem fSm_all {f : hF} {m : Nat} : ∀ n, (∀ i, i < n → m.testBit i = true) → fSm f m n = hsum f n
  | 0, _ => rfl
  | n + 1, q => by rw [fSm, hsum, fSm_all n (fun i hi => q i (by omega)), q n (by omega), if_pos rfl]
theorem ones_tb {h i : Nat} (hi : i < h) : (2 ^ h - 1).testBit i = true := by rw [Nat.testBit_two_pow_sub_one]; exact decide_eq_true hi
theorem fSm_ones {f : hF} {h : Nat} (hh : h ≤ 7) : fSm f (2 ^ h - 1) 7 = hsum f h := by
  have hp : 0 < 2 ^ h := Nat.two_pow_pos h
  rw [fSm_h (h := h) (by omega) 7 hh]
  exact fSm_all h (fun i hi => ones_tb hi)
def sS (g : Nat → Nat) (m : Nat) : Nat → Nat
  | 0 => 0
  | n + 1 => sS g m n + (if m.testBit n = true then g n else 0)
theorem fSm_nat {F : hF} {g : Nat → Nat} {m : Nat} : ∀ n, (∀ a, a < n → F a = nI (g a)) → fSm F m n = nI (sS g m n)
  | 0, _ => rfl
  | n + 1, q => by
    rw [fSm, sS, fSm_nat n (fun a ha => q a (by omega)), q n (by omega)]
    by_cases c : m.testBit n = true
    · rw [if_pos c, if_pos c, nI_add]
    · rw [if_neg c, if_neg c, Int32.add_zero, Nat.add_zero]
theorem sS_le {g : Nat → Nat} {m : Nat} : ∀ n, sS g m n ≤ nS g n
  | 0 => Nat.le_refl _
  | n + 1 => by
    have := sS_le (g := g) (m := m) n
    rw [sS, nS]; split <;> omega
section S56
variable {G : hGl} {σ : hS} {τ : hT} {x y : Option Nat}
theorem d_mostOf {L h S gr : Nat} (hL : σ 64 18 = nI L) (hL2 : L < 2) (h74 : σ 74 L = nI h) (k2 : h ≤ 7) (hS : S < 128) (hSb : ∀ i, i < h → S.testBit i = !gr.testBit i) : hCal G (m_X12_mostOf (hEq (some (.int (oN (fLo (σ 104) gr h)))) (rr 38 51 x y) σ τ)) [.ref (hgA G 64), .int (nI S)] shp (rr 38 51 x y) σ τ := by
  refine hv_enter pn_X12 rfl ?_
  have loop : ∀ k i bo, i + k = h → bo = fLo (σ 104) gr i → hV G (m_X12_mostOf (hEq (some (.int (oN (fLo (σ 104) gr h)))) (rr 38 51 x y) σ τ)) 0 0 shp 4 [some (.ref (hgA G 64)), some (.int (nI S)), some (.int (oN bo)), some (.int (nI i))] [] (rr 38 51 x y) σ τ := by
    intro k
    induction k with
    | zero =>
      intro i bo hi hb
      obtain rfl : i = h := by omega
      refine hv_iload_n dX12_mostOf_4 rfl ?_
      refine hv_aload_n dX12_mostOf_5 rfl ?_
      refine hv_getr dX12_mostOf_6 fl_X12_46 (by first | rfl | assumption) rfl (by first | rfl | assumption) ?_
      refine hv_aload_n dX12_mostOf_9 rfl ?_
      refine hv_geti dX12_mostOf_10 fl_X12_233 (by first | rfl | assumption) rfl ?_
      refine hv_iald dX12_mostOf_13 (by first | rfl | assumption) (j := L) hL (by omega) (by first | decide | assumption) ?_
      refine hv_icmp_ge (tgt := 53) dX12_mostOf_14 (by decide) (fun c_14 => ?_) (fun c_14 => absurd ((by rw [h74]; exact nI_le (Nat.le_refl _) (by omega))) c_14)
      refine hv_iload_n dX12_mostOf_53 rfl ?_
      refine hv_iret dX12_mostOf_54 rfl ?_
      rw [hb]; exact ⟨rfl, rfl, rfl, rfl⟩
    | succ k ih =>
      intro i bo hi hb
      have nx : fLo (σ 104) gr (i + 1) = fLs (σ 104) gr bo i := by rw [fLo, ← hb]
      have hbi := hSb i (by omega)
      cases hbo : bo with
      | none =>
        rw [hbo] at nx
        unfold fLs at nx
        dsimp only at nx
        refine hv_iload_n dX12_mostOf_4 rfl ?_
        refine hv_aload_n dX12_mostOf_5 rfl ?_
        refine hv_getr dX12_mostOf_6 fl_X12_46 (by first | rfl | assumption) rfl (by first | rfl | assumption) ?_
        refine hv_aload_n dX12_mostOf_9 rfl ?_
        refine hv_geti dX12_mostOf_10 fl_X12_233 (by first | rfl | assumption) rfl ?_
        refine hv_iald dX12_mostOf_13 (by first | rfl | assumption) (j := L) hL (by omega) (by first | decide | assumption) ?_
        refine hv_icmp_ge (tgt := 53) dX12_mostOf_14 (by decide) (fun c_14 => absurd c_14 ((by rw [h74]; exact nI_ge (by omega) (by omega)))) (fun c_14 => ?_)
        refine hv_iload_n dX12_mostOf_17 rfl ?_
        refine hv_iload_n dX12_mostOf_18 rfl ?_
        refine hv_ishr dX12_mostOf_19 ?_
        refine hv_iconst (v := 1) dX12_mostOf_20 (by decide) ?_
        refine hv_iand dX12_mostOf_21 ?_
        refine hv_iconst (v := 1) dX12_mostOf_22 (by decide) ?_
        rw [b_bit hS (by omega), hbi]
        refine hv_icmp_ne (tgt := 47) dX12_mostOf_23 (by decide) (fun c_23 => ?_) (fun c_23 => ?_)
        · rw [if_pos (by cases hq : gr.testBit i with | true => rfl | false => rw [hq] at c_23; exact absurd rfl c_23)] at nx
          refine hv_iinc dX12_mostOf_47 rfl (nI_1 i) rfl rfl ?_
          refine hv_goto (tgt := 4) dX12_mostOf_50 (by decide) ?_
          first
            | exact ih (i + 1) (some i) (by omega) nx.symm
            | exact ih (i + 1) none (by omega) nx.symm
        · rw [if_neg (fun qq => by rw [qq] at c_23; exact absurd c_23 (by decide))] at nx
          refine hv_iload_n dX12_mostOf_26 rfl ?_
          refine hv_if_lt (tgt := 45) dX12_mostOf_27 (by decide) (fun c_27 => ?_) (fun c_27 => absurd ((show oN none < 0 by decide)) c_27)
          refine hv_iload_n dX12_mostOf_45 rfl ?_
          refine hv_istore_n dX12_mostOf_46 rfl rfl ?_
          refine hv_iinc dX12_mostOf_47 rfl (nI_1 i) rfl rfl ?_
          refine hv_goto (tgt := 4) dX12_mostOf_50 (by decide) ?_
          first
            | exact ih (i + 1) (some i) (by omega) nx.symm
            | exact ih (i + 1) none (by omega) nx.symm
      | some b =>
        have hbl := fLo_lt (σ 104) gr i b (by rw [← hb, hbo])
        rw [hbo] at nx
        unfold fLs at nx
        dsimp only at nx
        refine hv_iload_n dX12_mostOf_4 rfl ?_
        refine hv_aload_n dX12_mostOf_5 rfl ?_
        refine hv_getr dX12_mostOf_6 fl_X12_46 (by first | rfl | assumption) rfl (by first | rfl | assumption) ?_
        refine hv_aload_n dX12_mostOf_9 rfl ?_
        refine hv_geti dX12_mostOf_10 fl_X12_233 (by first | rfl | assumption) rfl ?_
        refine hv_iald dX12_mostOf_13 (by first | rfl | assumption) (j := L) hL (by omega) (by first | decide | assumption) ?_
        refine hv_icmp_ge (tgt := 53) dX12_mostOf_14 (by decide) (fun c_14 => absurd c_14 ((by rw [h74]; exact nI_ge (by omega) (by omega)))) (fun c_14 => ?_)
        refine hv_iload_n dX12_mostOf_17 rfl ?_
        refine hv_iload_n dX12_mostOf_18 rfl ?_
        refine hv_ishr dX12_mostOf_19 ?_
        refine hv_iconst (v := 1) dX12_mostOf_20 (by decide) ?_
        refine hv_iand dX12_mostOf_21 ?_
        refine hv_iconst (v := 1) dX12_mostOf_22 (by decide) ?_
        rw [b_bit hS (by omega), hbi]
        refine hv_icmp_ne (tgt := 47) dX12_mostOf_23 (by decide) (fun c_23 => ?_) (fun c_23 => ?_)
        · rw [if_pos (by cases hq : gr.testBit i with | true => rfl | false => rw [hq] at c_23; exact absurd rfl c_23)] at nx
          refine hv_iinc dX12_mostOf_47 rfl (nI_1 i) rfl rfl ?_
          refine hv_goto (tgt := 4) dX12_mostOf_50 (by decide) ?_
          first
            | exact ih (i + 1) (some i) (by omega) nx.symm
            | exact ih (i + 1) (some b) (by omega) nx.symm
        · rw [if_neg (fun qq => by rw [qq] at c_23; exact absurd c_23 (by decide))] at nx
          refine hv_iload_n dX12_mostOf_26 rfl ?_
          refine hv_if_lt (tgt := 45) dX12_mostOf_27 (by decide) (fun c_27 => absurd c_27 ((show ¬ oN (some b) < 0 from nI_pos (by omega)))) (fun c_27 => ?_)
          refine hv_aload_n dX12_mostOf_30 rfl ?_
          refine hv_getr dX12_mostOf_31 fl_X12_137 (by first | rfl | assumption) rfl (by first | rfl | assumption) ?_
          refine hv_iload_n dX12_mostOf_34 rfl ?_
          refine hv_iald dX12_mostOf_35 (by first | rfl | assumption) rfl (by first | assumption | omega) (by first | decide | assumption) ?_
          refine hv_aload_n dX12_mostOf_36 rfl ?_
          refine hv_getr dX12_mostOf_37 fl_X12_137 (by first | rfl | assumption) rfl (by first | rfl | assumption) ?_
          refine hv_iload_n dX12_mostOf_40 rfl ?_
          refine hv_iald dX12_mostOf_41 (by first | rfl | assumption) (j := b) rfl (by omega) (by first | decide | assumption) ?_
          refine hv_icmp_le (tgt := 47) dX12_mostOf_42 (by decide) (fun c_42 => ?_) (fun c_42 => ?_)
          · rw [if_neg (Int32.not_lt.mpr c_42)] at nx
            refine hv_iinc dX12_mostOf_47 rfl (nI_1 i) rfl rfl ?_
            refine hv_goto (tgt := 4) dX12_mostOf_50 (by decide) ?_
            first
              | exact ih (i + 1) (some i) (by omega) nx.symm
              | exact ih (i + 1) (some b) (by omega) nx.symm
          · rw [if_pos (Int32.not_le.mp c_42)] at nx
            refine hv_iload_n dX12_mostOf_45 rfl ?_
            refine hv_istore_n dX12_mostOf_46 rfl rfl ?_
            refine hv_iinc dX12_mostOf_47 rfl (nI_1 i) rfl rfl ?_
            refine hv_goto (tgt := 4) dX12_mostOf_50 (by decide) ?_
            first
              | exact ih (i + 1) (some i) (by omega) nx.symm
              | exact ih (i + 1) (some b) (by omega) nx.symm
  refine hv_iconst (v := -1) dX12_mostOf_0 (by decide) ?_
  refine hv_istore_n dX12_mostOf_1 rfl rfl ?_
  refine hv_iconst (v := 0) dX12_mostOf_2 (by decide) ?_
  refine hv_istore_n dX12_mostOf_3 rfl rfl ?_
  exact loop h 0 none (by omega) rfl
theorem d_fewestFrom {L h S gr : Nat} {s : Int32} (hL : σ 64 18 = nI L) (hL2 : L < 2) (h74 : σ 74 L = nI h) (k2 : h ≤ 7) (hgr : gr < 2 ^ h) (hS : S < 128) (hSb : ∀ i, i < h → S.testBit i = !gr.testBit i) (hs : s = fSm (σ 104) gr 7) : hCal G (m_X12_fewestFrom (hEq (some (.int (fMaj (σ 104) h (σ 64 60) 8 gr 0))) (rr 38 51 x y) σ τ)) [.ref (hgA G 64), .int s, .int (nI S)] shp (rr 38 51 x y) σ τ := by
  have hp := pow_le7 k2
  refine hv_enter pn_X12 rfl ?_
  have loop : ∀ (v1 v2 : Int32) k S gr s ad res (l6 : Option Value), h < k + popN gr h → gr < 2 ^ h → S < 128 → (∀ i, i < h → S.testBit i = !gr.testBit i) → s = fSm (σ 104) gr 7 → fMaj (σ 104) h (σ 64 60) k gr ad = res → hV G (m_X12_fewestFrom (hEq (some (.int res)) (rr 38 51 x y) σ τ)) 0 0 shp 8 [some (.ref (hgA G 64)), some (.int v1), some (.int v2), some (.int (nI S)), some (.int s), some (.int (nI ad)), l6] [] (rr 38 51 x y) σ τ := by
    intro v1 v2 k
    induction k with
    | zero =>
      intro S gr s ad res l6 hk
      have := popN_le gr h
      omega
    | succ k ih =>
      intro S gr s ad res l6 hk hgr hS hSb hs hres
      rw [fMaj, ← hs] at hres
      cases hlo : fLo (σ 104) gr h with
      | none =>
        rw [hlo] at hres
        dsimp only at hres
        refine hv_iconst (v := 2) dX12_fewestFrom_8 (by decide) ?_
        refine hv_iload dX12_fewestFrom_9 rfl ?_
        refine hv_imul dX12_fewestFrom_11 ?_
        refine hv_aload_n dX12_fewestFrom_12 rfl ?_
        refine hv_geti dX12_fewestFrom_13 fl_X12_407 (by first | rfl | assumption) rfl ?_
        refine hv_icmp_gt (tgt := 61) dX12_fewestFrom_16 (by decide) (fun c_16 => ?_) (fun c_16 => ?_)
        · refine hv_iload dX12_fewestFrom_61 rfl ?_
          refine hv_iret dX12_fewestFrom_63 rfl ?_
          rw [← hres, if_pos c_16]; exact ⟨rfl, rfl, rfl, rfl⟩
        · refine hv_aload_n dX12_fewestFrom_19 rfl ?_
          refine hv_iload_n dX12_fewestFrom_20 rfl ?_
          refine hv_cv1 (d_mostOf hL hL2 h74 k2 hS hSb) dX12_fewestFrom_21 ml_X12_416 mk_X12_mostOf (by first | rfl | assumption) rfl rfl rfl rfl rfl ?_
          rintro _ _ _ _ ⟨rfl, rfl, rfl, rfl⟩
          rw [hlo]
          refine hv_istore dX12_fewestFrom_24 rfl rfl ?_
          refine hv_iload dX12_fewestFrom_26 rfl ?_
          refine hv_if_ge (tgt := 34) dX12_fewestFrom_28 (by decide) (fun c_28 => absurd c_28 ((show ¬ 0 ≤ oN none by decide))) (fun c_28 => ?_)
          refine hv_bipush (v := -2) dX12_fewestFrom_31 (by decide) ?_
          refine hv_iret dX12_fewestFrom_33 rfl ?_
          rw [← hres, if_neg c_16]; exact ⟨rfl, rfl, rfl, rfl⟩
      | some b =>
        have hbl := fLo_lt (σ 104) gr h b hlo
        have hbo := fLo_out (σ 104) gr h b hlo
        have hpb := pow_lt7 (i := b) (by omega)
        rw [hlo] at hres
        dsimp only at hres
        refine hv_iconst (v := 2) dX12_fewestFrom_8 (by decide) ?_
        refine hv_iload dX12_fewestFrom_9 rfl ?_
        refine hv_imul dX12_fewestFrom_11 ?_
        refine hv_aload_n dX12_fewestFrom_12 rfl ?_
        refine hv_geti dX12_fewestFrom_13 fl_X12_407 (by first | rfl | assumption) rfl ?_
        refine hv_icmp_gt (tgt := 61) dX12_fewestFrom_16 (by decide) (fun c_16 => ?_) (fun c_16 => ?_)
        · refine hv_iload dX12_fewestFrom_61 rfl ?_
          refine hv_iret dX12_fewestFrom_63 rfl ?_
          rw [← hres, if_pos c_16]; exact ⟨rfl, rfl, rfl, rfl⟩
        · refine hv_aload_n dX12_fewestFrom_19 rfl ?_
          refine hv_iload_n dX12_fewestFrom_20 rfl ?_
          refine hv_cv1 (d_mostOf hL hL2 h74 k2 hS hSb) dX12_fewestFrom_21 ml_X12_416 mk_X12_mostOf (by first | rfl | assumption) rfl rfl rfl rfl rfl ?_
          rintro _ _ _ _ ⟨rfl, rfl, rfl, rfl⟩
          rw [hlo, show oN (some b) = nI b from rfl]
          refine hv_istore dX12_fewestFrom_24 rfl rfl ?_
          refine hv_iload dX12_fewestFrom_26 rfl ?_
          refine hv_if_ge (tgt := 34) dX12_fewestFrom_28 (by decide) (fun c_28 => ?_) (fun c_28 => absurd ((nI_pos' (by omega))) c_28)
          refine hv_iload_n dX12_fewestFrom_34 rfl ?_
          refine hv_iconst (v := 1) dX12_fewestFrom_35 (by decide) ?_
          refine hv_iload dX12_fewestFrom_36 rfl ?_
          refine hv_ishl dX12_fewestFrom_38 ?_
          rw [b_shl (by omega)]
          refine hv_iconst (v := -1) dX12_fewestFrom_39 (by decide) ?_
          refine hv_ixor dX12_fewestFrom_40 ?_
          refine hv_iand dX12_fewestFrom_41 ?_
          rw [b_andnot S hS (2 ^ b) hpb]
          refine hv_istore_n dX12_fewestFrom_42 rfl rfl ?_
          refine hv_iload dX12_fewestFrom_43 rfl ?_
          refine hv_aload_n dX12_fewestFrom_45 rfl ?_
          refine hv_getr dX12_fewestFrom_46 fl_X12_137 (by first | rfl | assumption) rfl (by first | rfl | assumption) ?_
          refine hv_iload dX12_fewestFrom_49 rfl ?_
          refine hv_iald dX12_fewestFrom_51 (by first | rfl | assumption) rfl (by first | assumption | omega) (by first | decide | assumption) ?_
          refine hv_iadd dX12_fewestFrom_52 ?_
          refine hv_istore dX12_fewestFrom_53 rfl rfl ?_
          refine hv_iinc dX12_fewestFrom_55 rfl (nI_1 ad) rfl rfl ?_
          refine hv_goto (tgt := 8) dX12_fewestFrom_58 (by decide) ?_
          rw [if_neg c_16] at hres
          obtain ⟨g2, hg2⟩ : ∃ g2, gr ||| 2 ^ b = g2 := ⟨_, rfl⟩
          obtain ⟨S2, hS2⟩ : ∃ S2, S &&& (127 - 2 ^ b) = S2 := ⟨_, rfl⟩
          rw [hg2] at hres
          rw [hS2]
          refine ih S2 g2 _ (ad + 1) res _ ?_ (by rw [← hg2]; exact or_lt_pow hgr hbl) (by rw [← hS2]; exact and_lt128 hS) (fun i hi => ?_) ?_ hres
          · have := popN_lt (A := gr) (B := g2) (i := b) (by rw [← hg2]; exact or_sub) hbo (by rw [← hg2, or_tb, decide_eq_true rfl, Bool.or_true]) h k2 hbl
            omega
          · rw [← hS2, ← hg2, andnot_tb hpb (by omega), hSb i hi, or_tb, Nat.testBit_two_pow, Bool.not_or]
          · rw [← hg2, fSm_or hbo 7 (by omega), hs]
  refine hv_iload_n dX12_fewestFrom_0 rfl ?_
  refine hv_istore_n dX12_fewestFrom_1 rfl rfl ?_
  refine hv_iload_n dX12_fewestFrom_2 rfl ?_
  refine hv_istore dX12_fewestFrom_3 rfl rfl ?_
  refine hv_iconst (v := 0) dX12_fewestFrom_5 (by decide) ?_
  refine hv_istore dX12_fewestFrom_6 rfl rfl ?_
  exact loop _ _ 8 S gr s 0 _ none (by omega) hgr hS hSb hs rfl
theorem d_everybody {L h : Nat} (hL : σ 64 18 = nI L) (hL2 : L < 2) (h74 : σ 74 L = nI h) (k2 : h ≤ 7) : hCal G (m_X12_everybody (hEq (some (.int (nI (2 ^ h - 1)))) (rr 38 51 x y) σ τ)) [.ref (hgA G 64)] shp (rr 38 51 x y) σ τ := by
  have hp : 0 < 2 ^ h := Nat.two_pow_pos h
  refine hv_enter pn_X12 rfl ?_
  refine hv_iconst (v := 1) dX12_everybody_0 (by decide) ?_
  refine hv_aload_n dX12_everybody_1 rfl ?_
  refine hv_getr dX12_everybody_2 fl_X12_46 (by first | rfl | assumption) rfl (by first | rfl | assumption) ?_
  refine hv_aload_n dX12_everybody_5 rfl ?_
  refine hv_geti dX12_everybody_6 fl_X12_233 (by first | rfl | assumption) rfl ?_
  refine hv_iald dX12_everybody_9 (by first | rfl | assumption) (j := L) hL (by omega) (by first | decide | assumption) ?_
  rw [h74]
  refine hv_ishl dX12_everybody_10 ?_
  rw [b_shl (by omega)]
  refine hv_iconst (v := 1) dX12_everybody_11 (by decide) ?_
  refine hv_isub dX12_everybody_12 ?_
  rw [show nI (2 ^ h) - 1 = nI (2 ^ h - 1) from pk_sub (b := 1) hp]
  refine hv_iret dX12_everybody_13 rfl ?_
  exact ⟨rfl, rfl, rfl, rfl⟩
theorem d_allies {L h : Nat} {LF : Nat → hF → Int32} {V : hF} {pr : Nat → Option Nat} {a : Int32} {R : Nat → Int32} (ok : okR σ L h LF) (hvv : V = fVotes (twM σ L h LF) (dyM σ 98) (hsum (dF (dyM σ 98)) h)) (hx : okXM σ 98 h pr) (hR : ∀ i, i < h → R i = fMaj (fHad V pr h) h (hsum V h) 8 (2 ^ i) 0) : hCal G (m_X12_allies (hRq (hsel h a (-1) R) x y σ τ)) [.ref (hgA G 64), .int a] shp (rr 38 51 x y) σ τ := by
  have k2 := ok.1.2.2.2.1
  have hL2 := ok.1.2.1
  have hp := pow_le7 k2
  have hp0 : 0 < 2 ^ h := Nat.two_pow_pos h
  refine hv_enter pn_X12 rfl ?_
  refine hv_aload_n dX12_allies_0 rfl ?_
  refine hv_iload_n dX12_allies_1 rfl ?_
  refine hv_cv1 (d_isHouse ok.1.1 ok.1.2.1 ok.1.2.2.1 k2) dX12_allies_2 ml_X12_370 mk_X12_isHouse (by first | rfl | assumption) rfl rfl rfl rfl rfl ?_
  rintro _ _ _ _ ⟨rfl, rfl, rfl, rfl⟩
  refine hv_if_ne (tgt := 10) dX12_allies_5 (by decide) (fun c_5 => ?_) (fun c_5 => ?_)
  · obtain ⟨ai, hai, rfl⟩ := isH_ix k2 (bI_1 c_5)
    rw [hsel_yes hai k2]
    have hpb := pow_lt7 (i := ai) (by omega)
    refine hv_aload_n dX12_allies_10 rfl ?_
    refine hv_cv0 (d_fillsVotes ok hvv hx) dX12_allies_11 ml_X12_410 mk_X12_fillsVotes (by first | rfl | assumption) rfl rfl rfl rfl rfl ?_
    rintro _ _ σ1 _ ⟨rfl, rfl, rfl, q1, q2, q3, q4⟩
    have eL : σ1 64 18 = nI L := (q2 18 (by decide) (by decide) (by decide)).trans ok.1.1
    have eh : σ1 74 L = nI h := by rw [q1 74 (by decide)]; exact ok.1.2.2.1
    refine hv_aload_n dX12_allies_14 rfl ?_
    refine hv_aload_n dX12_allies_15 rfl ?_
    refine hv_getr dX12_allies_16 fl_X12_137 (by first | rfl | assumption) rfl (by first | rfl | assumption) ?_
    refine hv_iload_n dX12_allies_19 rfl ?_
    refine hv_iald dX12_allies_20 (by first | rfl | assumption) rfl (by first | assumption | omega) (by first | decide | assumption) ?_
    refine hv_aload_n dX12_allies_21 rfl ?_
    refine hv_cv0 (d_everybody eL hL2 eh k2) dX12_allies_22 ml_X12_419 mk_X12_everybody (by first | rfl | assumption) rfl rfl rfl rfl rfl ?_
    rintro _ _ _ _ ⟨rfl, rfl, rfl, rfl⟩
    refine hv_iconst (v := 1) dX12_allies_25 (by decide) ?_
    refine hv_iload_n dX12_allies_26 rfl ?_
    refine hv_ishl dX12_allies_27 ?_
    rw [b_shl (by omega)]
    refine hv_iconst (v := -1) dX12_allies_28 (by decide) ?_
    refine hv_ixor dX12_allies_29 ?_
    refine hv_iand dX12_allies_30 ?_
    rw [b_andnot (2 ^ h - 1) (by omega) (2 ^ ai) hpb]
    refine hv_cv2 (d_fewestFrom (gr := 2 ^ ai) eL hL2 eh k2 (Nat.pow_lt_pow_right (by decide) hai) (and_lt128 (by omega)) (fun i hi => by rw [andnot_tb hpb (by omega), ones_tb hi, Bool.true_and]) (fSm_pow (by omega)).symm) dX12_allies_31 ml_X12_422 mk_X12_fewestFrom (by first | rfl | assumption) rfl rfl rfl rfl rfl ?_
    rintro _ _ _ _ ⟨rfl, rfl, rfl, rfl⟩
    refine hv_iret dX12_allies_34 rfl ?_
    refine ⟨congrArg (fun z => some (Value.int z)) ?_, rfl, rfl, q1, q2⟩
    rw [hR ai hai, q4, fMaj_congr k2 q3 _ _ _ (Nat.pow_lt_pow_right (by decide) hai)]
  · rw [hsel_no (bI_0 c_5)]
    refine hv_iconst (v := -1) dX12_allies_8 (by decide) ?_
    refine hv_iret dX12_allies_9 rfl ?_
    exact ⟨rfl, rfl, rfl, fun _ _ => rfl, k64_rf⟩
theorem d_motion {L h mo : Nat} {LF : Nat → hF → Int32} {V : hF} {pr : Nat → Option Nat} {m w : Int32} {sp : Nat → Nat} {C R : Nat → Int32} (ok : okR σ L h LF) (hvv : V = fVotes (twM σ L h LF) (dyM σ 98) (hsum (dF (dyM σ 98)) h)) (hx : okXM σ 98 h pr) (hmo : σ 81 L = nI mo) (hm5 : mo ≤ 5) (hsp : ∀ i, i < mo → σ 82 (5 * L + i) = nI (sp i) ∧ sp i < 2 ^ h) (hC : ∀ i, i < mo → C i = fSm (fHad V pr h) (sp i) 7) (hc2 : ∀ i, i < mo → (C i ≤ hsum V h - C i ↔ 2 * C i ≤ hsum V h)) (hR : ∀ i, i < mo → R i = fMaj (fHad V pr h) h (hsum V h) 8 (sp i) 0) : hCal G (m_X12_motion (hRq (if isH mo m = true ∧ inI 0 2 w = true then (if w = 0 then (if C m.toNatClampNeg ≤ hsum V h - C m.toNatClampNeg then 0 else 1) else if w = 1 then C m.toNatClampNeg else R m.toNatClampNeg) else -1) x y σ τ)) [.ref (hgA G 64), .int m, .int w] shp (rr 38 51 x y) σ τ := by
  have k2 := ok.1.2.2.2.1
  have hL2 := ok.1.2.1
  have hp := pow_le7 k2
  have hp0 : 0 < 2 ^ h := Nat.two_pow_pos h
  refine hv_enter pn_X12 rfl ?_
  have loop : ∀ Q (σ1 : hS) mi st, st < 128 → σ1 64 18 = nI L → σ1 74 L = nI h → hV G (m_X12_motion Q) 0 0 shp 96 [some (.ref (hgA G 64)), some (.int mi), some (.int w), some (.int (nI st)), some (.int (fSm (σ1 104) st h)), some (.int (nI h))] [] (rr 38 51 x y) σ1 τ → ∀ k i s, i + k = h → s = fSm (σ1 104) st i → hV G (m_X12_motion Q) 0 0 shp 54 [some (.ref (hgA G 64)), some (.int mi), some (.int w), some (.int (nI st)), some (.int s), some (.int (nI i))] [] (rr 38 51 x y) σ1 τ := by
    intro Q σ1 mi st hst eL eh kk k
    induction k with
    | zero =>
      intro i s hi hs
      obtain rfl : i = h := by omega
      refine hv_iload dX12_motion_54 rfl ?_
      refine hv_aload_n dX12_motion_56 rfl ?_
      refine hv_getr dX12_motion_57 fl_X12_46 (by first | rfl | assumption) rfl (by first | rfl | assumption) ?_
      refine hv_aload_n dX12_motion_60 rfl ?_
      refine hv_geti dX12_motion_61 fl_X12_233 (by first | rfl | assumption) rfl ?_
      refine hv_iald dX12_motion_64 (by first | rfl | assumption) (j := L) eL (by omega) (by first | decide | assumption) ?_
      refine hv_icmp_ge (tgt := 96) dX12_motion_65 (by decide) (fun c_65 => ?_) (fun c_65 => absurd ((by rw [eh]; exact nI_le (Nat.le_refl _) (by omega))) c_65)
      rw [hs]; exact kk
    | succ k ih =>
      intro i s hi hs
      have nx : fSm (σ1 104) st (i + 1) = s + (if st.testBit i = true then σ1 104 i else 0) := by rw [fSm, ← hs]
      refine hv_iload dX12_motion_54 rfl ?_
      refine hv_aload_n dX12_motion_56 rfl ?_
      refine hv_getr dX12_motion_57 fl_X12_46 (by first | rfl | assumption) rfl (by first | rfl | assumption) ?_
      refine hv_aload_n dX12_motion_60 rfl ?_
      refine hv_geti dX12_motion_61 fl_X12_233 (by first | rfl | assumption) rfl ?_
      refine hv_iald dX12_motion_64 (by first | rfl | assumption) (j := L) eL (by omega) (by first | decide | assumption) ?_
      refine hv_icmp_ge (tgt := 96) dX12_motion_65 (by decide) (fun c_65 => absurd c_65 ((by rw [eh]; exact nI_ge (by omega) (by omega)))) (fun c_65 => ?_)
      refine hv_iload_n dX12_motion_68 rfl ?_
      refine hv_iload dX12_motion_69 rfl ?_
      refine hv_ishr dX12_motion_71 ?_
      refine hv_iconst (v := 1) dX12_motion_72 (by decide) ?_
      refine hv_iand dX12_motion_73 ?_
      refine hv_iconst (v := 1) dX12_motion_74 (by decide) ?_
      rw [b_bit hst (by omega)]
      refine hv_icmp_ne (tgt := 90) dX12_motion_75 (by decide) (fun c_75 => ?_) (fun c_75 => ?_)
      · rw [if_neg (fun qq => c_75 (by rw [qq]; rfl)), Int32.add_zero] at nx
        refine hv_iinc dX12_motion_90 rfl (nI_1 i) rfl rfl ?_
        refine hv_goto (tgt := 54) dX12_motion_93 (by decide) ?_
        first
          | exact ih (i + 1) _ (by omega) nx.symm
          | exact ih (i + 1) s (by omega) nx.symm
      · rw [if_pos (by cases hq : st.testBit i with | true => rfl | false => rw [hq] at c_75; exact absurd c_75 (by decide))] at nx
        refine hv_iload dX12_motion_78 rfl ?_
        refine hv_aload_n dX12_motion_80 rfl ?_
        refine hv_getr dX12_motion_81 fl_X12_137 (by first | rfl | assumption) rfl (by first | rfl | assumption) ?_
        refine hv_iload dX12_motion_84 rfl ?_
        refine hv_iald dX12_motion_86 (by first | rfl | assumption) rfl (by first | assumption | omega) (by first | decide | assumption) ?_
        refine hv_iadd dX12_motion_87 ?_
        refine hv_istore dX12_motion_88 rfl rfl ?_
        refine hv_iinc dX12_motion_90 rfl (nI_1 i) rfl rfl ?_
        refine hv_goto (tgt := 54) dX12_motion_93 (by decide) ?_
        first
          | exact ih (i + 1) _ (by omega) nx.symm
          | exact ih (i + 1) s (by omega) nx.symm
  refine hv_iload_n dX12_motion_0 rfl ?_
  refine hv_iconst (v := 0) dX12_motion_1 (by decide) ?_
  refine hv_aload_n dX12_motion_2 rfl ?_
  refine hv_getr dX12_motion_3 fl_X12_67 (by first | rfl | assumption) rfl (by first | rfl | assumption) ?_
  refine hv_aload_n dX12_motion_6 rfl ?_
  refine hv_geti dX12_motion_7 fl_X12_233 (by first | rfl | assumption) rfl ?_
  refine hv_iald dX12_motion_10 (by first | rfl | assumption) (j := L) ok.1.1 (by omega) (by first | decide | assumption) ?_
  refine hv_iconst (v := 1) dX12_motion_11 (by decide) ?_
  refine hv_isub dX12_motion_12 ?_
  rw [hmo]
  refine hv_cs3 (d_in) dX12_motion_13 ml_X12_319 mk_X12_in rfl rfl rfl ?_
  rintro _ _ _ _ ⟨rfl, rfl, rfl, rfl⟩
  rw [isH_in (show mo ≤ 7 by omega)]
  refine hv_if_eq (tgt := 28) dX12_motion_16 (by decide) (fun c_16 => ?_) (fun c_16 => ?_)
  · rw [if_neg (fun qq => by rw [bI_0 c_16] at qq; exact absurd qq.1 (by decide))]
    refine hv_iconst (v := -1) dX12_motion_28 (by decide) ?_
    refine hv_iret dX12_motion_29 rfl ?_
    exact ⟨rfl, rfl, rfl, fun _ _ => rfl, k64_rf⟩
  · refine hv_iload_n dX12_motion_19 rfl ?_
    refine hv_iconst (v := 0) dX12_motion_20 (by decide) ?_
    refine hv_iconst (v := 2) dX12_motion_21 (by decide) ?_
    refine hv_cs3 (d_in) dX12_motion_22 ml_X12_319 mk_X12_in rfl rfl rfl ?_
    rintro _ _ _ _ ⟨rfl, rfl, rfl, rfl⟩
    refine hv_if_ne (tgt := 30) dX12_motion_25 (by decide) (fun c_25 => ?_) (fun c_25 => ?_)
    · rw [if_pos ⟨bI_1 c_16, bI_1 c_25⟩]
      obtain ⟨mi, hmi, rfl⟩ := isH_ix (show mo ≤ 7 by omega) (bI_1 c_16)
      rw [nI_clamp (by omega)]
      obtain ⟨hs1, hs2⟩ := hsp mi hmi
      refine hv_aload_n dX12_motion_30 rfl ?_
      refine hv_cv0 (d_fillsVotes ok hvv hx) dX12_motion_31 ml_X12_410 mk_X12_fillsVotes (by first | rfl | assumption) rfl rfl rfl rfl rfl ?_
      rintro _ _ σ1 _ ⟨rfl, rfl, rfl, q1, q2, q3, q4⟩
      have eL : σ1 64 18 = nI L := (q2 18 (by decide) (by decide) (by decide)).trans ok.1.1
      have eh : σ1 74 L = nI h := by rw [q1 74 (by decide)]; exact ok.1.2.2.1
      have eC : fSm (σ1 104) (sp mi) h = C mi := by rw [hC mi hmi, fSm_h hs2 7 k2]; exact fSm_congr h q3
      refine hv_aload_n dX12_motion_34 rfl ?_
      refine hv_getr dX12_motion_35 fl_X12_70 (by first | rfl | assumption) rfl (by first | rfl | assumption) ?_
      refine hv_iconst (v := 5) dX12_motion_38 (by decide) ?_
      refine hv_aload_n dX12_motion_39 rfl ?_
      refine hv_geti dX12_motion_40 fl_X12_233 (by first | rfl | assumption) rfl ?_
      refine hv_imul dX12_motion_43 ?_
      refine hv_iload_n dX12_motion_44 rfl ?_
      refine hv_iadd dX12_motion_45 ?_
      refine hv_iald dX12_motion_46 (by first | rfl | assumption) (j := 5 * L + mi) (by rw [eL]; exact ix5) (by omega) (by first | decide | assumption) ?_
      rw [q1 82 (by decide), hs1]
      refine hv_istore_n dX12_motion_47 rfl rfl ?_
      refine hv_iconst (v := 0) dX12_motion_48 (by decide) ?_
      refine hv_istore dX12_motion_49 rfl rfl ?_
      refine hv_iconst (v := 0) dX12_motion_51 (by decide) ?_
      refine hv_istore dX12_motion_52 rfl rfl ?_
      refine loop _ σ1 _ (sp mi) (by omega) eL eh ?_ h 0 0 (by omega) rfl
      rw [eC]
      refine hv_iload_n dX12_motion_96 rfl ?_
      by_cases c_97_0 : w = 0
      · refine hv_lkin (off := 27) (tgt := 124) dX12_motion_97 c_97_0 (by decide) (by decide) (by decide) ?_
        rw [if_pos c_97_0]
        refine hv_iconst (v := 2) dX12_motion_124 (by decide) ?_
        refine hv_iload dX12_motion_125 rfl ?_
        refine hv_imul dX12_motion_127 ?_
        refine hv_aload_n dX12_motion_128 rfl ?_
        refine hv_geti dX12_motion_129 fl_X12_407 (by first | rfl | assumption) rfl ?_
        rw [q4]
        refine hv_icmp_le (tgt := 139) dX12_motion_132 (by decide) (fun c_132 => ?_) (fun c_132 => ?_)
        · refine hv_iconst (v := 0) dX12_motion_139 (by decide) ?_
          refine hv_iret dX12_motion_140 rfl ?_
          refine ⟨congrArg (fun z => some (Value.int z)) ?_, rfl, rfl, q1, q2⟩
          first
            | rw [if_pos ((hc2 mi hmi).mpr c_132)]
            | rw [if_neg (fun qq => c_132 ((hc2 mi hmi).mp qq))]
        · refine hv_iconst (v := 1) dX12_motion_135 (by decide) ?_
          refine hv_goto (tgt := 140) dX12_motion_136 (by decide) ?_
          refine hv_iret dX12_motion_140 rfl ?_
          refine ⟨congrArg (fun z => some (Value.int z)) ?_, rfl, rfl, q1, q2⟩
          first
            | rw [if_pos ((hc2 mi hmi).mpr c_132)]
            | rw [if_neg (fun qq => c_132 ((hc2 mi hmi).mp qq))]
      by_cases c_97_1 : w = 1
      · refine hv_lkin (off := 44) (tgt := 141) dX12_motion_97 c_97_1 (by decide) (by decide) (by decide) ?_
        rw [if_neg c_97_0, if_pos c_97_1]
        refine hv_iload dX12_motion_141 rfl ?_
        refine hv_iret dX12_motion_143 rfl ?_
        exact ⟨rfl, rfl, rfl, q1, q2⟩
      refine hv_lkout (tgt := 144) dX12_motion_97 (by decide) (by show Op.lookupswitch.offset [(0, 27), (1, 44)] 47 _ = 47; rw [lv_osw (k := 0) c_97_0 (by decide), lv_osw (k := 1) c_97_1 (by decide)]; rfl) (by decide) ?_
      refine hv_aload_n dX12_motion_144 rfl ?_
      refine hv_iload dX12_motion_145 rfl ?_
      refine hv_aload_n dX12_motion_147 rfl ?_
      refine hv_cv0 (d_everybody eL hL2 eh k2) dX12_motion_148 ml_X12_419 mk_X12_everybody (by first | rfl | assumption) rfl rfl rfl rfl rfl ?_
      rintro _ _ _ _ ⟨rfl, rfl, rfl, rfl⟩
      refine hv_iload_n dX12_motion_151 rfl ?_
      refine hv_iconst (v := -1) dX12_motion_152 (by decide) ?_
      refine hv_ixor dX12_motion_153 ?_
      refine hv_iand dX12_motion_154 ?_
      rw [b_andnot (2 ^ h - 1) (by omega) (sp mi) (by omega)]
      refine hv_cv2 (d_fewestFrom (gr := sp mi) eL hL2 eh k2 hs2 (and_lt128 (by omega)) (fun i hi => by rw [andnot_tb (by omega) (by omega), ones_tb hi, Bool.true_and]) (by rw [← eC, fSm_h hs2 7 k2])) dX12_motion_155 ml_X12_422 mk_X12_fewestFrom (by first | rfl | assumption) rfl rfl rfl rfl rfl ?_
      rintro _ _ _ _ ⟨rfl, rfl, rfl, rfl⟩
      refine hv_iret dX12_motion_158 rfl ?_
      refine ⟨congrArg (fun z => some (Value.int z)) ?_, rfl, rfl, q1, q2⟩
      rw [if_neg c_97_0, if_neg c_97_1, hR mi hmi, q4, fMaj_congr k2 q3 _ _ _ hs2]
    · rw [if_neg (fun qq => by rw [bI_0 c_25] at qq; exact absurd qq.2 (by decide))]
      refine hv_iconst (v := -1) dX12_motion_28 (by decide) ?_
      refine hv_iret dX12_motion_29 rfl ?_
      exact ⟨rfl, rfl, rfl, fun _ _ => rfl, k64_rf⟩
end S56

