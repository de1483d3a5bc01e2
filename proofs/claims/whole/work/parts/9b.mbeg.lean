abbrev m_X12_begins (Q : hPo) : hMe := (hrm 0, 0, 0, yX12_begins, cX12_begins, 2, (none : Option FieldType), shp, none, Q)
section S9b
variable {G : hGl} {σ : hS} {τ : hT} {x y : Option Nat}
/-- the first row of a text -/
def bgR (σ : hS) (L h p : Nat) (j : Nat) : Int32 := if j < h then σ 75 (7 * L + j) else if 7 ≤ j ∧ j < 7 + h then σ 76 (7 * L + (j - 7)) else if 28 ≤ j ∧ j < 28 + p then -2 else 0
def pBg (L h : Nat) (σ σ' : hS) : Prop := kM [53] σ σ' ∧ σ' 64 53 = σ 85 L ∧ ∀ j, j < 37 → σ' 99 j = if j = 35 then σ 83 L else bgR σ L h 7 j
theorem d_begins {L h : Nat} (hl : σ 64 18 = nI L) (hL : L < 2) (hh : σ 74 L = nI h) (h7 : h ≤ 7) : hCal G (m_X12_begins (hQp [64, 99] none (rr 38 51 x y) σ τ (pBg L h σ))) [.ref (hgA G 64)] shp (rr 38 51 x y) σ τ := by
  have i7 : ∀ i, 7 * σ 64 18 + nI i = nI (7 * L + i) := fun i => by rw [hl]; exact ix7
  refine hv_enter pn_X12 rfl ?_
  generalize hQ : hQp [64, 99] none (rr 38 51 x y) σ τ (pBg L h σ) = Q
  have l3 : ∀ k i (σ1 : hS), i + k = 7 → (∀ c, c ∉ [99] → σ1 c = σ c) → (∀ j, j < 37 → σ1 99 j = bgR σ L h i j) → hV G (m_X12_begins Q) 0 0 shp 87 [some (.ref (hgA G 64)), some (.int (nI i))] [] (rr 38 51 x y) σ1 τ := by
    intro k
    induction k with
    | zero =>
      intro i σ1 hi h1 h2
      obtain rfl : i = 7 := by omega
      have e64 := h1 64 (by decide)
      refine hv_iload_n dX12_begins_87 rfl ?_
      refine hv_bipush (v := 7) dX12_begins_88 (by decide) ?_
      refine hv_icmp_ge (tgt := 110) dX12_begins_90 (by decide) (fun c_90 => ?_) (fun c_90 => absurd ((by decide)) c_90)
      refine hv_aload_n dX12_begins_110 rfl ?_
      refine hv_getr dX12_begins_111 fl_X12_122 (by first | rfl | assumption) rfl (by first | rfl | assumption) ?_
      refine hv_bipush (v := 35) dX12_begins_114 (by decide) ?_
      refine hv_aload_n dX12_begins_116 rfl ?_
      refine hv_getr dX12_begins_117 fl_X12_73 (by first | rfl | assumption) rfl (by first | rfl | assumption) ?_
      refine hv_aload_n dX12_begins_120 rfl ?_
      refine hv_geti dX12_begins_121 fl_X12_233 (by first | rfl | assumption) rfl ?_
      refine hv_iald dX12_begins_124 (by first | rfl | assumption) (j := L) (by rw [e64]; exact hl) (by omega) (by first | decide | assumption) ?_
      rw [h1 83 (by decide)]
      refine hv_iast dX12_begins_125 (by first | rfl | assumption) (j := 35) rfl (by decide) (by first | decide | assumption) ?_
      refine hv_aload_n dX12_begins_126 rfl ?_
      refine hv_aload_n dX12_begins_127 rfl ?_
      refine hv_getr dX12_begins_128 fl_X12_79 (by first | rfl | assumption) rfl (by first | rfl | assumption) ?_
      refine hv_aload_n dX12_begins_131 rfl ?_
      refine hv_geti dX12_begins_132 fl_X12_233 (by first | rfl | assumption) rfl ?_
      refine hv_iald dX12_begins_135 (by first | rfl | assumption) (j := L) (by rw [hva_ne (by decide), e64]; exact hl) (by omega) (by first | decide | assumption) ?_
      rw [hva_ne (show 85 ≠ 99 by decide), h1 85 (by decide)]
      refine hv_puti dX12_begins_136 fl_X12_323 (by first | rfl | assumption) rfl rfl rfl ?_
      refine hv_vret dX12_begins_139 rfl ?_
      rw [← hQ]
      refine ⟨rfl, rfl, rfl, off_up (off_up (off_wk h1 (by decide)) (by decide)) (by decide), ?_, ?_, fun j hj => ?_⟩
      · intro j hj; rw [hup_eq, pk_un (by simpa using hj), hva_ne (by decide), e64]
      · rw [hup_eq, pk_us]
      · rw [hva_ne (by decide), hup_eq]
        by_cases e : j = 35
        · rw [e, pk_us, if_pos rfl]
        · rw [pk_un e, if_neg e]; exact h2 j hj
    | succ k ih =>
      intro i σ1 hi h1 h2
      refine hv_iload_n dX12_begins_87 rfl ?_
      refine hv_bipush (v := 7) dX12_begins_88 (by decide) ?_
      refine hv_icmp_ge (tgt := 110) dX12_begins_90 (by decide) (fun c_90 => absurd c_90 ((nI_ge (b := 7) (by omega) (by decide)))) (fun c_90 => ?_)
      refine hv_aload_n dX12_begins_93 rfl ?_
      refine hv_getr dX12_begins_94 fl_X12_122 (by first | rfl | assumption) rfl (by first | rfl | assumption) ?_
      refine hv_bipush (v := 28) dX12_begins_97 (by decide) ?_
      refine hv_iload_n dX12_begins_99 rfl ?_
      refine hv_iadd dX12_begins_100 ?_
      refine hv_bipush (v := -2) dX12_begins_101 (by decide) ?_
      refine hv_iast dX12_begins_103 (by first | rfl | assumption) (j := 28 + i) (show (28 : Int32) + nI i = _ from nI_add 28 i) (by omega) (by first | decide | assumption) ?_
      refine hv_iinc dX12_begins_104 rfl (nI_1 i) rfl rfl ?_
      refine hv_goto (tgt := 87) dX12_begins_107 (by decide) ?_
      refine ih (i + 1) _ (by omega) (off_up h1 (by decide)) (fun j hj => ?_)
      rw [hup_eq]
      by_cases e : j = 28 + i
      · rw [e, pk_us]; unfold bgR; rw [if_neg (by omega), if_neg (by omega), if_pos (by omega)]
      · rw [pk_un e, h2 j hj]; unfold bgR
        by_cases c1 : j < h
        · rw [if_pos c1, if_pos c1]
        · rw [if_neg c1, if_neg c1]
          by_cases c2 : 7 ≤ j ∧ j < 7 + h
          · rw [if_pos c2, if_pos c2]
          · rw [if_neg c2, if_neg c2]
            by_cases c3 : 28 ≤ j ∧ j < 28 + i
            · rw [if_pos c3, if_pos (by omega)]
            · rw [if_neg c3, if_neg (by omega)]
  have l2 : ∀ k i (σ1 : hS), i + k = h → (∀ c, c ∉ [99] → σ1 c = σ c) → (∀ j, j < 37 → σ1 99 j = bgR σ L i 0 j) → hV G (m_X12_begins Q) 0 0 shp 23 [some (.ref (hgA G 64)), some (.int (nI i))] [] (rr 38 51 x y) σ1 τ := by
    intro k
    induction k with
    | zero =>
      intro i σ1 hi h1 h2
      obtain rfl : i = h := by omega
      have e64 := h1 64 (by decide)
      refine hv_iload_n dX12_begins_23 rfl ?_
      refine hv_aload_n dX12_begins_24 rfl ?_
      refine hv_getr dX12_begins_25 fl_X12_46 (by first | rfl | assumption) rfl (by first | rfl | assumption) ?_
      refine hv_aload_n dX12_begins_28 rfl ?_
      refine hv_geti dX12_begins_29 fl_X12_233 (by first | rfl | assumption) rfl ?_
      refine hv_iald dX12_begins_32 (by first | rfl | assumption) (j := L) (by rw [e64]; exact hl) (by omega) (by first | decide | assumption) ?_
      refine hv_icmp_ge (tgt := 85) dX12_begins_33 (by decide) (fun c_33 => ?_) (fun c_33 => absurd ((by rw [h1 74 (by decide), hh]; exact nI_le (Nat.le_refl _) (by omega))) c_33)
      refine hv_iconst (v := 0) dX12_begins_85 (by decide) ?_
      refine hv_istore_n dX12_begins_86 rfl rfl ?_
      exact l3 7 0 σ1 (by omega) h1 h2
    | succ k ih =>
      intro i σ1 hi h1 h2
      have e64 := h1 64 (by decide)
      have e75 := h1 75 (by decide)
      have e76 := h1 76 (by decide)
      refine hv_iload_n dX12_begins_23 rfl ?_
      refine hv_aload_n dX12_begins_24 rfl ?_
      refine hv_getr dX12_begins_25 fl_X12_46 (by first | rfl | assumption) rfl (by first | rfl | assumption) ?_
      refine hv_aload_n dX12_begins_28 rfl ?_
      refine hv_geti dX12_begins_29 fl_X12_233 (by first | rfl | assumption) rfl ?_
      refine hv_iald dX12_begins_32 (by first | rfl | assumption) (j := L) (by rw [e64]; exact hl) (by omega) (by first | decide | assumption) ?_
      refine hv_icmp_ge (tgt := 85) dX12_begins_33 (by decide) (fun c_33 => absurd c_33 ((by rw [h1 74 (by decide), hh]; exact nI_ge (by omega) (by omega)))) (fun c_33 => ?_)
      refine hv_aload_n dX12_begins_36 rfl ?_
      refine hv_getr dX12_begins_37 fl_X12_122 (by first | rfl | assumption) rfl (by first | rfl | assumption) ?_
      refine hv_iload_n dX12_begins_40 rfl ?_
      refine hv_aload_n dX12_begins_41 rfl ?_
      refine hv_getr dX12_begins_42 fl_X12_49 (by first | rfl | assumption) rfl (by first | rfl | assumption) ?_
      refine hv_bipush (v := 7) dX12_begins_45 (by decide) ?_
      refine hv_aload_n dX12_begins_47 rfl ?_
      refine hv_geti dX12_begins_48 fl_X12_233 (by first | rfl | assumption) rfl ?_
      refine hv_imul dX12_begins_51 ?_
      refine hv_iload_n dX12_begins_52 rfl ?_
      refine hv_iadd dX12_begins_53 ?_
      refine hv_iald dX12_begins_54 (by first | rfl | assumption) (j := 7 * L + i) (by rw [e64]; exact i7 i) (by omega) (by first | decide | assumption) ?_
      refine hv_iast dX12_begins_55 (by first | rfl | assumption) (j := i) rfl (by omega) (by first | decide | assumption) ?_
      refine hv_aload_n dX12_begins_56 rfl ?_
      refine hv_getr dX12_begins_57 fl_X12_122 (by first | rfl | assumption) rfl (by first | rfl | assumption) ?_
      refine hv_bipush (v := 7) dX12_begins_60 (by decide) ?_
      refine hv_iload_n dX12_begins_62 rfl ?_
      refine hv_iadd dX12_begins_63 ?_
      refine hv_aload_n dX12_begins_64 rfl ?_
      refine hv_getr dX12_begins_65 fl_X12_52 (by first | rfl | assumption) rfl (by first | rfl | assumption) ?_
      refine hv_bipush (v := 7) dX12_begins_68 (by decide) ?_
      refine hv_aload_n dX12_begins_70 rfl ?_
      refine hv_geti dX12_begins_71 fl_X12_233 (by first | rfl | assumption) rfl ?_
      refine hv_imul dX12_begins_74 ?_
      refine hv_iload_n dX12_begins_75 rfl ?_
      refine hv_iadd dX12_begins_76 ?_
      refine hv_iald dX12_begins_77 (by first | rfl | assumption) (j := 7 * L + i) (by rw [hva_ne (by decide), e64]; exact i7 i) (by omega) (by first | decide | assumption) ?_
      refine hv_iast dX12_begins_78 (by first | rfl | assumption) (j := 7 + i) (show (7 : Int32) + nI i = _ from nI_add 7 i) (by omega) (by first | decide | assumption) ?_
      refine hv_iinc dX12_begins_79 rfl (nI_1 i) rfl rfl ?_
      refine hv_goto (tgt := 23) dX12_begins_82 (by decide) ?_
      refine ih (i + 1) _ (by omega) (off_up (off_up h1 (by decide)) (by decide)) (fun j hj => ?_)
      rw [hup_eq, hup_eq, hva_ne (show 76 ≠ 99 by decide), e75, e76]
      by_cases e : j = 7 + i
      · rw [e, pk_us]; unfold bgR; rw [if_neg (by omega), if_pos (by omega), show 7 + i - 7 = i by omega]
      · rw [pk_un e]
        by_cases e2 : j = i
        · rw [e2, pk_us]; unfold bgR; rw [if_pos (by omega)]
        · rw [pk_un e2, h2 j hj]; unfold bgR
          by_cases c1 : j < i
          · rw [if_pos c1, if_pos (by omega)]
          · rw [if_neg c1, if_neg (show ¬ j < i + 1 by omega)]
            by_cases c2 : 7 ≤ j ∧ j < 7 + i
            · rw [if_pos c2, if_pos (by omega)]
            · rw [if_neg c2, if_neg (show ¬ (7 ≤ j ∧ j < 7 + (i + 1)) by omega)]
  have l1 : ∀ k i (σ1 : hS), i + k = 37 → (∀ c, c ∉ [99] → σ1 c = σ c) → (∀ j, j < i → σ1 99 j = 0) → hV G (m_X12_begins Q) 0 0 shp 2 [some (.ref (hgA G 64)), some (.int (nI i))] [] (rr 38 51 x y) σ1 τ := by
    intro k
    induction k with
    | zero =>
      intro i σ1 hi h1 h2
      obtain rfl : i = 37 := by omega
      refine hv_iload_n dX12_begins_2 rfl ?_
      refine hv_bipush (v := 37) dX12_begins_3 (by decide) ?_
      refine hv_icmp_ge (tgt := 21) dX12_begins_5 (by decide) (fun c_5 => ?_) (fun c_5 => absurd ((by decide)) c_5)
      refine hv_iconst (v := 0) dX12_begins_21 (by decide) ?_
      refine hv_istore_n dX12_begins_22 rfl rfl ?_
      refine l2 h 0 σ1 (by omega) h1 (fun j hj => ?_)
      rw [h2 j hj]; unfold bgR; rw [if_neg (by omega), if_neg (by omega), if_neg (by omega)]
    | succ k ih =>
      intro i σ1 hi h1 h2
      refine hv_iload_n dX12_begins_2 rfl ?_
      refine hv_bipush (v := 37) dX12_begins_3 (by decide) ?_
      refine hv_icmp_ge (tgt := 21) dX12_begins_5 (by decide) (fun c_5 => absurd c_5 ((nI_ge (b := 37) (by omega) (by decide)))) (fun c_5 => ?_)
      refine hv_aload_n dX12_begins_8 rfl ?_
      refine hv_getr dX12_begins_9 fl_X12_122 (by first | rfl | assumption) rfl (by first | rfl | assumption) ?_
      refine hv_iload_n dX12_begins_12 rfl ?_
      refine hv_iconst (v := 0) dX12_begins_13 (by decide) ?_
      refine hv_iast dX12_begins_14 (by first | rfl | assumption) (j := i) rfl (by omega) (by first | decide | assumption) ?_
      refine hv_iinc dX12_begins_15 rfl (nI_1 i) rfl rfl ?_
      refine hv_goto (tgt := 2) dX12_begins_18 (by decide) ?_
      refine ih (i + 1) _ (by omega) (off_up h1 (by decide)) (fun j hj => ?_)
      rw [hup_eq]
      by_cases e : j = i
      · rw [e, pk_us]
      · rw [pk_un e]; exact h2 j (by omega)
  refine hv_iconst (v := 0) dX12_begins_0 (by decide) ?_
  refine hv_istore_n dX12_begins_1 rfl rfl ?_
  exact l1 37 0 σ (by omega) (fun _ _ => rfl) (fun j hj => absurd hj (by omega))
end S9b

