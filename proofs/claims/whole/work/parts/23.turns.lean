section S23
variable {G : hGl} {σ : hS} {τ : hT} {x y : Option Nat}
theorem c_countTurns {h : Nat} (h31 : σ 31 4 = nI h) (k2 : h ≤ 7) : hCal G (m_X0_countTurns (hQp [33, 34] none (rr 38 51 x y) σ τ (fun σ' => ∀ a, a < h → σ' 33 a = nI (fTurn (σ 32) (σ 31 5) a (2 ^ h))))) [.ref (hgA G 31)] shp (rr 38 51 x y) σ τ := by
  have hp : 2 ^ h ≤ 128 := show 2 ^ h ≤ 2 ^ 7 from Nat.pow_le_pow_right (by decide) k2
  refine hv_enter pn_X0 rfl ?_
  generalize hQ : hQp [33, 34] none (rr 38 51 x y) σ τ (fun σ' => ∀ a, a < h → σ' 33 a = nI (fTurn (σ 32) (σ 31 5) a (2 ^ h))) = Q
  have inner : ∀ k i n (σ' : hS), i + k = h → n < 2 ^ h → (∀ c, c ∉ [33, 34] → σ' c = σ c) → (∀ s, s < 2 ^ h → σ' 34 s = fSm (σ 32) s 7) → (∀ a, a < h → σ' 33 a = if a < i then nI (fTurn (σ 32) (σ 31 5) a (n + 1)) else nI (fTurn (σ 32) (σ 31 5) a n)) → (∀ (σ2 : hS) (il : Option Value), (∀ c, c ∉ [33, 34] → σ2 c = σ c) → (∀ s, s < 2 ^ h → σ2 34 s = fSm (σ 32) s 7) → (∀ a, a < h → σ2 33 a = nI (fTurn (σ 32) (σ 31 5) a (n + 1))) → hV G (m_X0_countTurns Q) 0 0 shp 125 [some (.ref (hgA G 31)), some (.int (nI (2 ^ h))), some (.int (nI n)), il] [] (rr 38 51 x y) σ2 τ) → hV G (m_X0_countTurns Q) 0 0 shp 67 [some (.ref (hgA G 31)), some (.int (nI (2 ^ h))), some (.int (nI n)), some (.int (nI i))] [] (rr 38 51 x y) σ' τ := by
    intro k
    induction k with
    | zero =>
      intro i n σ' hi hn hσ h34 h33 kk
      obtain rfl : i = h := by omega
      refine hv_iload_n dX0_countTurns_67 rfl ?_
      refine hv_aload_n dX0_countTurns_68 rfl ?_
      refine hv_geti dX0_countTurns_69 fl_X0_31 (by first | rfl | assumption) rfl ?_
      refine hv_icmp_ge (tgt := 125) dX0_countTurns_72 (by decide) (fun c_72 => ?_) (fun c_72 => absurd ((by rw [hσ 31 (by decide), h31]; exact nI_le (Nat.le_refl _) (by omega))) c_72)
      exact kk σ' _ hσ h34 (fun a ha => by rw [h33 a ha, if_pos ha])
    | succ k ih =>
      intro i n σ' hi hn hσ h34 h33 kk
      have hni : n ||| 2 ^ i < 2 ^ h := Nat.or_lt_two_pow hn (Nat.pow_lt_pow_right (by decide) (by omega))
      have hpi := pow_lt7 (i := i) (by omega)
      have hsn := h34 n hn
      have hsi := h34 _ hni
      have e31 : σ' 31 5 = σ 31 5 := by rw [hσ 31 (by decide)]
      have h33i : σ' 33 i = nI (fTurn (σ 32) (σ 31 5) i n) := by rw [h33 i (by omega), if_neg (by omega)]
      obtain ⟨m2, hm2⟩ : ∃ m2, n ||| 2 ^ i = m2 := ⟨_, rfl⟩
      have hor : nI n ||| (1 : Int32) <<< (nI i &&& 31) = nI m2 := by rw [b_shl (by omega), b_or (by omega) (by omega), hm2]
      rw [hm2] at hni hsi
      have hnx : fTurn (σ 32) (σ 31 5) i (n + 1) = fTurn (σ 32) (σ 31 5) i n + (if 2 * fSm (σ 32) n 7 ≤ σ 31 5 ∧ σ 31 5 < 2 * fSm (σ 32) m2 7 then 1 else 0) := by rw [fTurn, hm2]
      refine hv_iload_n dX0_countTurns_67 rfl ?_
      refine hv_aload_n dX0_countTurns_68 rfl ?_
      refine hv_geti dX0_countTurns_69 fl_X0_31 (by first | rfl | assumption) rfl ?_
      refine hv_icmp_ge (tgt := 125) dX0_countTurns_72 (by decide) (fun c_72 => absurd c_72 ((by rw [hσ 31 (by decide), h31]; exact nI_ge (by omega) (by omega)))) (fun c_72 => ?_)
      refine hv_iconst (v := 2) dX0_countTurns_75 (by decide) ?_
      refine hv_aload_n dX0_countTurns_76 rfl ?_
      refine hv_getr dX0_countTurns_77 fl_X0_18 (by first | rfl | assumption) rfl (by first | rfl | assumption) ?_
      refine hv_iload_n dX0_countTurns_80 rfl ?_
      refine hv_iald dX0_countTurns_81 (by first | rfl | assumption) rfl (by first | assumption | omega) (by first | decide | assumption) ?_
      refine hv_imul dX0_countTurns_82 ?_
      refine hv_aload_n dX0_countTurns_83 rfl ?_
      refine hv_geti dX0_countTurns_84 fl_X0_32 (by first | rfl | assumption) rfl ?_
      rw [hsn, e31]
      refine hv_icmp_gt (tgt := 125) dX0_countTurns_87 (by decide) (fun c_87 => ?_) (fun c_87 => ?_)
      · have hst : ∀ a, fTurn (σ 32) (σ 31 5) a (n + 1) = fTurn (σ 32) (σ 31 5) a n := fun a => by
          rw [fTurn, if_neg (fun qq => Int32.not_lt.mpr qq.1 c_87)]; rfl
        exact kk σ' _ hσ h34 (fun a ha => by rw [h33 a ha, hst]; split <;> rfl)
      · refine hv_iconst (v := 2) dX0_countTurns_90 (by decide) ?_
        refine hv_aload_n dX0_countTurns_91 rfl ?_
        refine hv_getr dX0_countTurns_92 fl_X0_18 (by first | rfl | assumption) rfl (by first | rfl | assumption) ?_
        refine hv_iload_n dX0_countTurns_95 rfl ?_
        refine hv_iconst (v := 1) dX0_countTurns_96 (by decide) ?_
        refine hv_iload_n dX0_countTurns_97 rfl ?_
        refine hv_ishl dX0_countTurns_98 ?_
        refine hv_ior dX0_countTurns_99 ?_
        refine hv_iald dX0_countTurns_100 (by first | rfl | assumption) (j := m2) hor (by omega) (by first | decide | assumption) ?_
        refine hv_imul dX0_countTurns_101 ?_
        refine hv_aload_n dX0_countTurns_102 rfl ?_
        refine hv_geti dX0_countTurns_103 fl_X0_32 (by first | rfl | assumption) rfl ?_
        rw [hsi, e31]
        refine hv_icmp_le (tgt := 119) dX0_countTurns_106 (by decide) (fun c_106 => ?_) (fun c_106 => ?_)
        · rw [if_neg (fun qq => Int32.not_lt.mpr c_106 qq.2)] at hnx
          refine hv_iinc dX0_countTurns_119 rfl (nI_1 i) rfl rfl ?_
          refine hv_goto (tgt := 67) dX0_countTurns_122 (by decide) ?_
          first
            | (refine ih (i + 1) n _ (by omega) hn (off_up hσ (by decide)) (fun s hs => by rw [hva_ne (by decide)]; exact h34 s hs) (fun a ha => ?_) kk
               rw [hup_eq]
               by_cases e : a = i
               · rw [e, pk_us, if_pos (by omega), h33i, hnx]; exact nI_1 _
               · rw [pk_un e, h33 a ha]
                 by_cases e2 : a < i
                 · rw [if_pos e2, if_pos (by omega)]
                 · rw [if_neg e2, if_neg (by omega)])
            | (refine ih (i + 1) n σ' (by omega) hn hσ h34 (fun a ha => ?_) kk
               by_cases e : a = i
               · rw [e, if_pos (by omega), h33i, hnx]; rfl
               · rw [h33 a ha]
                 by_cases e2 : a < i
                 · rw [if_pos e2, if_pos (by omega)]
                 · rw [if_neg e2, if_neg (by omega)])
        · rw [if_pos ⟨Int32.not_lt.mp c_87, Int32.not_le.mp c_106⟩] at hnx
          refine hv_aload_n dX0_countTurns_109 rfl ?_
          refine hv_getr dX0_countTurns_110 fl_X0_15 (by first | rfl | assumption) rfl (by first | rfl | assumption) ?_
          refine hv_iload_n dX0_countTurns_113 rfl ?_
          refine hv_dup2 dX0_countTurns_114 rfl rfl ?_
          refine hv_iald dX0_countTurns_115 (by first | rfl | assumption) rfl (by first | assumption | omega) (by first | decide | assumption) ?_
          refine hv_iconst (v := 1) dX0_countTurns_116 (by decide) ?_
          refine hv_iadd dX0_countTurns_117 ?_
          refine hv_iast dX0_countTurns_118 (by first | rfl | assumption) rfl (by first | assumption | omega) (by first | decide | assumption) ?_
          refine hv_iinc dX0_countTurns_119 rfl (nI_1 i) rfl rfl ?_
          refine hv_goto (tgt := 67) dX0_countTurns_122 (by decide) ?_
          first
            | (refine ih (i + 1) n _ (by omega) hn (off_up hσ (by decide)) (fun s hs => by rw [hva_ne (by decide)]; exact h34 s hs) (fun a ha => ?_) kk
               rw [hup_eq]
               by_cases e : a = i
               · rw [e, pk_us, if_pos (by omega), h33i, hnx]; exact nI_1 _
               · rw [pk_un e, h33 a ha]
                 by_cases e2 : a < i
                 · rw [if_pos e2, if_pos (by omega)]
                 · rw [if_neg e2, if_neg (by omega)])
            | (refine ih (i + 1) n σ' (by omega) hn hσ h34 (fun a ha => ?_) kk
               by_cases e : a = i
               · rw [e, if_pos (by omega), h33i, hnx]; rfl
               · rw [h33 a ha]
                 by_cases e2 : a < i
                 · rw [if_pos e2, if_pos (by omega)]
                 · rw [if_neg e2, if_neg (by omega)])
  have outer : ∀ k n (σ' : hS) (il : Option Value), n + k = 2 ^ h → (∀ c, c ∉ [33, 34] → σ' c = σ c) → (∀ s, s < 2 ^ h → σ' 34 s = fSm (σ 32) s 7) → (∀ a, a < h → σ' 33 a = nI (fTurn (σ 32) (σ 31 5) a n)) → hV G (m_X0_countTurns Q) 0 0 shp 60 [some (.ref (hgA G 31)), some (.int (nI (2 ^ h))), some (.int (nI n)), il] [] (rr 38 51 x y) σ' τ := by
    intro k
    induction k with
    | zero =>
      intro n σ' il hi hσ h34 h33
      obtain rfl : n = 2 ^ h := by omega
      refine hv_iload_n dX0_countTurns_60 rfl ?_
      refine hv_iload_n dX0_countTurns_61 rfl ?_
      refine hv_icmp_ge (tgt := 131) dX0_countTurns_62 (by decide) (fun c_62 => ?_) (fun c_62 => absurd ((nI_le (Nat.le_refl _) (by omega))) c_62)
      refine hv_vret dX0_countTurns_131 rfl ?_
      rw [← hQ]; exact ⟨rfl, rfl, rfl, hσ, h33⟩
    | succ k ih =>
      intro n σ' il hi hσ h34 h33
      refine hv_iload_n dX0_countTurns_60 rfl ?_
      refine hv_iload_n dX0_countTurns_61 rfl ?_
      refine hv_icmp_ge (tgt := 131) dX0_countTurns_62 (by decide) (fun c_62 => absurd c_62 ((nI_ge (by omega) (by omega)))) (fun c_62 => ?_)
      refine hv_iconst (v := 0) dX0_countTurns_65 (by decide) ?_
      refine hv_istore_n dX0_countTurns_66 rfl rfl ?_
      refine inner h 0 n σ' (by omega) (by omega) hσ h34 (fun a ha => by rw [if_neg (by omega)]; exact h33 a ha) ?_
      intro σ2 il2 u1 u2 u3
      refine hv_iinc dX0_countTurns_125 rfl (nI_1 n) rfl rfl ?_
      refine hv_goto (tgt := 60) dX0_countTurns_128 (by decide) ?_
      exact ih (n + 1) σ2 il2 (by omega) u1 u2 u3
  have loopB : ∀ k n (σ' : hS), n + k = 2 ^ h → (∀ c, c ∉ [33, 34] → σ' c = σ c) → (∀ s, s < n → σ' 34 s = fSm (σ 32) s 7) → (∀ a, a < h → σ' 33 a = 0) → hV G (m_X0_countTurns Q) 0 0 shp 32 [some (.ref (hgA G 31)), some (.int (nI (2 ^ h))), some (.int (nI n)), none] [] (rr 38 51 x y) σ' τ := by
    intro k
    induction k with
    | zero =>
      intro n σ' hi hσ h34 h33
      obtain rfl : n = 2 ^ h := by omega
      refine hv_iload_n dX0_countTurns_32 rfl ?_
      refine hv_iload_n dX0_countTurns_33 rfl ?_
      refine hv_icmp_ge (tgt := 58) dX0_countTurns_34 (by decide) (fun c_34 => ?_) (fun c_34 => absurd ((nI_le (Nat.le_refl _) (by omega))) c_34)
      refine hv_iconst (v := 0) dX0_countTurns_58 (by decide) ?_
      refine hv_istore_n dX0_countTurns_59 rfl rfl ?_
      exact outer (2 ^ h) 0 σ' none (by omega) hσ h34 h33
    | succ k ih =>
      intro n σ' hi hσ h34 h33
      refine hv_iload_n dX0_countTurns_32 rfl ?_
      refine hv_iload_n dX0_countTurns_33 rfl ?_
      refine hv_icmp_ge (tgt := 58) dX0_countTurns_34 (by decide) (fun c_34 => absurd c_34 ((nI_ge (by omega) (by omega)))) (fun c_34 => ?_)
      refine hv_aload_n dX0_countTurns_37 rfl ?_
      refine hv_getr dX0_countTurns_38 fl_X0_18 (by first | rfl | assumption) rfl (by first | rfl | assumption) ?_
      refine hv_iload_n dX0_countTurns_41 rfl ?_
      refine hv_aload_n dX0_countTurns_42 rfl ?_
      refine hv_aload_n dX0_countTurns_43 rfl ?_
      refine hv_getr dX0_countTurns_44 fl_X0_9 (by first | rfl | assumption) rfl (by first | rfl | assumption) ?_
      refine hv_iload_n dX0_countTurns_47 rfl ?_
      refine hv_cv2 (c_csum rfl (by omega)) dX0_countTurns_48 ml_X0_50 mk_X0_sum (by first | rfl | assumption) rfl rfl rfl rfl rfl ?_
      rintro _ _ _ _ ⟨rfl, rfl, rfl, rfl⟩
      rw [hσ 32 (by decide)]
      refine hv_iast dX0_countTurns_51 (by first | rfl | assumption) rfl (by omega) (by first | decide | assumption) ?_
      refine hv_iinc dX0_countTurns_52 rfl (nI_1 n) rfl rfl ?_
      refine hv_goto (tgt := 32) dX0_countTurns_55 (by decide) ?_
      refine ih (n + 1) _ (by omega) (off_up hσ (by decide)) (fun s hs => ?_) (fun a ha => by rw [hva_ne (by decide)]; exact h33 a ha)
      rw [hup_eq]
      exact upd_lt (g := fun s => fSm (σ 32) s 7) h34 rfl s hs
  have loopA : ∀ k i (σ' : hS), i + k = h → (∀ c, c ∉ [33, 34] → σ' c = σ c) → (∀ a, a < i → σ' 33 a = 0) → hV G (m_X0_countTurns Q) 0 0 shp 9 [some (.ref (hgA G 31)), some (.int (nI (2 ^ h))), some (.int (nI i)), none] [] (rr 38 51 x y) σ' τ := by
    intro k
    induction k with
    | zero =>
      intro i σ' hi hσ h33
      obtain rfl : i = h := by omega
      refine hv_iload_n dX0_countTurns_9 rfl ?_
      refine hv_aload_n dX0_countTurns_10 rfl ?_
      refine hv_geti dX0_countTurns_11 fl_X0_31 (by first | rfl | assumption) rfl ?_
      refine hv_icmp_ge (tgt := 30) dX0_countTurns_14 (by decide) (fun c_14 => ?_) (fun c_14 => absurd ((by rw [hσ 31 (by decide), h31]; exact nI_le (Nat.le_refl _) (by omega))) c_14)
      refine hv_iconst (v := 0) dX0_countTurns_30 (by decide) ?_
      refine hv_istore_n dX0_countTurns_31 rfl rfl ?_
      exact loopB (2 ^ i) 0 σ' (by omega) hσ (fun s hs => absurd hs (by omega)) h33
    | succ k ih =>
      intro i σ' hi hσ h33
      refine hv_iload_n dX0_countTurns_9 rfl ?_
      refine hv_aload_n dX0_countTurns_10 rfl ?_
      refine hv_geti dX0_countTurns_11 fl_X0_31 (by first | rfl | assumption) rfl ?_
      refine hv_icmp_ge (tgt := 30) dX0_countTurns_14 (by decide) (fun c_14 => absurd c_14 ((by rw [hσ 31 (by decide), h31]; exact nI_ge (by omega) (by omega)))) (fun c_14 => ?_)
      refine hv_aload_n dX0_countTurns_17 rfl ?_
      refine hv_getr dX0_countTurns_18 fl_X0_15 (by first | rfl | assumption) rfl (by first | rfl | assumption) ?_
      refine hv_iload_n dX0_countTurns_21 rfl ?_
      refine hv_iconst (v := 0) dX0_countTurns_22 (by decide) ?_
      refine hv_iast dX0_countTurns_23 (by first | rfl | assumption) rfl (by first | assumption | omega) (by first | decide | assumption) ?_
      refine hv_iinc dX0_countTurns_24 rfl (nI_1 i) rfl rfl ?_
      refine hv_goto (tgt := 9) dX0_countTurns_27 (by decide) ?_
      refine ih (i + 1) _ (by omega) (off_up hσ (by decide)) (fun a ha => ?_)
      rw [hup_eq]
      exact upd_lt (g := fun _ => 0) h33 rfl a ha
  refine hv_iconst (v := 1) dX0_countTurns_0 (by decide) ?_
  refine hv_aload_n dX0_countTurns_1 rfl ?_
  refine hv_geti dX0_countTurns_2 fl_X0_31 (by first | rfl | assumption) rfl ?_
  refine hv_ishl dX0_countTurns_5 ?_
  refine hv_str (st' := [.int (nI (2 ^ h))]) (by rw [h31, b_shl (by omega)]) ?_
  refine hv_istore_n dX0_countTurns_6 rfl rfl ?_
  refine hv_iconst (v := 0) dX0_countTurns_7 (by decide) ?_
  refine hv_istore_n dX0_countTurns_8 rfl rfl ?_
  exact loopA h 0 σ (by omega) (fun _ _ => rfl) (fun a ha => absurd ha (by omega))
theorem c_fewestCalmed {h b kp : Nat} {hd fe : Nat → Nat} (ok : okP σ h hd fe) (hb : b < 7) (hkp : kp < 7) : hCal G (m_X3_fewestCalmed (hEq (some (.int (oM (fClm (fun cm => fEat hd fe h cm b) (2 ^ b ||| 2 ^ kp) kp (2 ^ h))))) (rr 38 51 x y) σ τ)) [.ref (hgA G 35), .ref (hgA G 38), .int (nI b), .int (nI kp)] shp (rr 38 51 x y) σ τ := by
  have k2 := ok.2.1
  have hp : 2 ^ h ≤ 128 := show 2 ^ h ≤ 2 ^ 7 from Nat.pow_le_pow_right (by decide) k2
  have hpb := pow_lt7 hb
  have hpk := pow_lt7 hkp
  obtain ⟨bo, hbo⟩ : ∃ bo, 2 ^ b ||| 2 ^ kp = bo := ⟨_, rfl⟩
  have hbo128 : bo < 128 := by rw [← hbo]; exact or_lt128 hpb hpk
  rw [hbo]
  refine hv_enter pn_X3 rfl ?_
  generalize he : (fun cm => fEat hd fe h cm b) = ef
  have hef : ∀ cm, fEat hd fe h cm b = ef cm := fun cm => congrFun he cm
  have loop : ∀ k n (be : Option Nat), n + k = 2 ^ h → be = fClm ef bo kp n → hV G (m_X3_fewestCalmed (hEq (some (.int (oM (fClm ef bo kp (2 ^ h))))) (rr 38 51 x y) σ τ)) 0 0 shp 16 [some (.ref (hgA G 35)), some (.ref (hgA G 38)), some (.int (nI b)), some (.int (nI kp)), some (.int (oM be)), some (.int (nI bo)), some (.int (nI n)), none] [] (rr 38 51 x y) σ τ := by
    intro k
    induction k with
    | zero =>
      intro n be hi hbe
      obtain rfl : n = 2 ^ h := by omega
      refine hv_iload dX3_fewestCalmed_16 rfl ?_
      refine hv_iconst (v := 1) dX3_fewestCalmed_18 (by decide) ?_
      refine hv_aload_n dX3_fewestCalmed_19 rfl ?_
      refine hv_geti dX3_fewestCalmed_20 fl_X3_19 (by first | rfl | assumption) rfl ?_
      refine hv_ishl dX3_fewestCalmed_23 ?_
      refine hv_icmp_ge (tgt := 95) dX3_fewestCalmed_24 (by decide) (fun c_24 => ?_) (fun c_24 => absurd ((by rw [ok.1, b_shl (by omega)]; exact nI_le (Nat.le_refl _) (by omega))) c_24)
      refine hv_iload dX3_fewestCalmed_95 rfl ?_
      refine hv_iret dX3_fewestCalmed_97 rfl ?_
      rw [← hbe]; exact ⟨rfl, rfl, rfl, rfl⟩
    | succ k ih =>
      intro n be hi hbe
      have hn : n < 128 := by omega
      have hnx : fClm ef bo kp (n + 1) = if n &&& bo = 0 ∧ pop7 n ≤ 3 ∧ (∀ c, be = some c → fAhd n c = true) ∧ (ef n).testBit kp = false then some n else be := by rw [fClm, ← hbe]
      have hnb : ∀ c, be = some c → c < 128 ∧ ¬ oM be = -2 := by
        rintro c rfl
        have hlc := fClm_lt ef bo kp n c hbe.symm
        refine ⟨by omega, fun qq => ?_⟩
        have hq2 : nI c = -2 := qq
        exact absurd (show nI c < 0 by rw [hq2]; decide) (nI_pos (by omega))
      have hand : nI n &&& nI bo = nI (n &&& bo) := b_and (by omega) (by omega)
      have hanl : n &&& bo < 128 := and_lt128 hn
      have hlast : (n &&& bo = 0 ∧ pop7 n ≤ 3) ∨ ¬ (n &&& bo = 0 ∧ pop7 n ≤ 3) := Classical.em _
      refine hv_iload dX3_fewestCalmed_16 rfl ?_
      refine hv_iconst (v := 1) dX3_fewestCalmed_18 (by decide) ?_
      refine hv_aload_n dX3_fewestCalmed_19 rfl ?_
      refine hv_geti dX3_fewestCalmed_20 fl_X3_19 (by first | rfl | assumption) rfl ?_
      refine hv_ishl dX3_fewestCalmed_23 ?_
      refine hv_icmp_ge (tgt := 95) dX3_fewestCalmed_24 (by decide) (fun c_24 => absurd c_24 ((by rw [ok.1, b_shl (by omega)]; exact nI_ge (by omega) (by omega)))) (fun c_24 => ?_)
      refine hv_iload dX3_fewestCalmed_27 rfl ?_
      refine hv_iload dX3_fewestCalmed_29 rfl ?_
      refine hv_iand dX3_fewestCalmed_31 ?_
      rw [hand]
      refine hv_if_ne (tgt := 48) dX3_fewestCalmed_32 (by decide) (fun c_32 => ?_) (fun c_32 => ?_)
      · have hno : ¬ (n &&& bo = 0 ∧ pop7 n ≤ 3) := fun qq => c_32 (by rw [qq.1]; rfl)
        refine hv_iconst (v := 0) dX3_fewestCalmed_48 (by decide) ?_
        refine hv_istore dX3_fewestCalmed_49 rfl rfl ?_
        refine hv_iload dX3_fewestCalmed_51 rfl ?_
        refine hv_if_eq (tgt := 89) dX3_fewestCalmed_53 (by decide) (fun c_53 => ?_) (fun c_53 => ?_)
        · have hst : fClm ef bo kp (n + 1) = be := by
            first
              | (rw [hnx, if_neg (fun qq => hno ⟨qq.1, qq.2.1⟩)]; done)
              | exact absurd c_53 (by decide)
          refine hv_iinc dX3_fewestCalmed_89 rfl (nI_1 n) rfl rfl ?_
          refine hv_goto (tgt := 16) dX3_fewestCalmed_92 (by decide) ?_
          refine hv_drop 7 ?_
          first
            | exact ih (n + 1) be (by omega) hst.symm
            | exact ih (n + 1) (some cb) (by omega) hst.symm
            | exact ih (n + 1) (some n) (by omega) hst.symm
        · have hall : n &&& bo = 0 ∧ pop7 n ≤ 3 := by first | exact ⟨hyes1, hyes2⟩ | exact absurd rfl c_53
          refine hv_iload dX3_fewestCalmed_56 rfl ?_
          refine hv_bipush (v := -2) dX3_fewestCalmed_58 (by decide) ?_
          refine hv_icmp_eq (tgt := 73) dX3_fewestCalmed_60 (by decide) (fun c_60 => ?_) (fun c_60 => ?_)
          · have hah : ∀ c, be = some c → fAhd n c = true := fun c hc => absurd c_60 (hnb c hc).2
            refine hv_aload_n dX3_fewestCalmed_73 rfl ?_
            refine hv_aload_n dX3_fewestCalmed_74 rfl ?_
            refine hv_iload_n dX3_fewestCalmed_75 rfl ?_
            refine hv_iload dX3_fewestCalmed_76 rfl ?_
            refine hv_iload_n dX3_fewestCalmed_78 rfl ?_
            refine hv_cv4 (c_eatsIn ok hb hn hkp) dX3_fewestCalmed_79 ml_X3_45 mk_X3_eatsIn (by first | rfl | assumption) rfl rfl rfl rfl rfl ?_
            rintro _ _ _ _ ⟨rfl, rfl, rfl, rfl⟩
            rw [hef]
            refine hv_if_ne (tgt := 89) dX3_fewestCalmed_82 (by decide) (fun c_82 => ?_) (fun c_82 => ?_)
            · have hst := hnx.trans (if_neg (fun qq => by rw [qq.2.2.2] at c_82; exact absurd rfl c_82))
              refine hv_iinc dX3_fewestCalmed_89 rfl (nI_1 n) rfl rfl ?_
              refine hv_goto (tgt := 16) dX3_fewestCalmed_92 (by decide) ?_
              refine hv_drop 7 ?_
              first
                | exact ih (n + 1) be (by omega) hst.symm
                | exact ih (n + 1) (some cb) (by omega) hst.symm
                | exact ih (n + 1) (some n) (by omega) hst.symm
            · have hev : (ef n).testBit kp = false := by
                cases hqq : (ef n).testBit kp with
                | false => rfl
                | true => rw [hqq] at c_82; exact absurd c_82 (by decide)
              have hst : fClm ef bo kp (n + 1) = some n := by rw [hnx, if_pos ⟨hall.1, hall.2, hah, hev⟩]
              refine hv_iload dX3_fewestCalmed_85 rfl ?_
              refine hv_istore dX3_fewestCalmed_87 rfl rfl ?_
              refine hv_iinc dX3_fewestCalmed_89 rfl (nI_1 n) rfl rfl ?_
              refine hv_goto (tgt := 16) dX3_fewestCalmed_92 (by decide) ?_
              refine hv_drop 7 ?_
              first
                | exact ih (n + 1) be (by omega) hst.symm
                | exact ih (n + 1) (some cb) (by omega) hst.symm
                | exact ih (n + 1) (some n) (by omega) hst.symm
          · obtain ⟨cb, rfl⟩ : ∃ cb, be = some cb := by
              cases be with
              | none => exact absurd rfl c_60
              | some cb => exact ⟨cb, rfl⟩
            refine hv_iload dX3_fewestCalmed_63 rfl ?_
            refine hv_iload dX3_fewestCalmed_65 rfl ?_
            refine hv_cs2 (c_isAhead hn (hnb cb rfl).1) dX3_fewestCalmed_67 ml_X3_41 mk_X3_isAhead rfl rfl rfl ?_
            rintro _ _ _ _ ⟨rfl, rfl, rfl, rfl⟩
            refine hv_if_eq (tgt := 89) dX3_fewestCalmed_70 (by decide) (fun c_70 => ?_) (fun c_70 => ?_)
            · have hst : fClm ef bo kp (n + 1) = some cb := by
                rw [hnx, if_neg]
                intro qq
                rw [qq.2.2.1 cb rfl] at c_70
                exact absurd c_70 (by decide)
              refine hv_iinc dX3_fewestCalmed_89 rfl (nI_1 n) rfl rfl ?_
              refine hv_goto (tgt := 16) dX3_fewestCalmed_92 (by decide) ?_
              refine hv_drop 7 ?_
              first
                | exact ih (n + 1) be (by omega) hst.symm
                | exact ih (n + 1) (some cb) (by omega) hst.symm
                | exact ih (n + 1) (some n) (by omega) hst.symm
            · have hah : ∀ c, some cb = some c → fAhd n c = true := by
                rintro c hc
                cases hc
                cases hqq : fAhd n cb with
                | true => rfl
                | false => rw [hqq] at c_70; exact absurd rfl c_70
              refine hv_aload_n dX3_fewestCalmed_73 rfl ?_
              refine hv_aload_n dX3_fewestCalmed_74 rfl ?_
              refine hv_iload_n dX3_fewestCalmed_75 rfl ?_
              refine hv_iload dX3_fewestCalmed_76 rfl ?_
              refine hv_iload_n dX3_fewestCalmed_78 rfl ?_
              refine hv_cv4 (c_eatsIn ok hb hn hkp) dX3_fewestCalmed_79 ml_X3_45 mk_X3_eatsIn (by first | rfl | assumption) rfl rfl rfl rfl rfl ?_
              rintro _ _ _ _ ⟨rfl, rfl, rfl, rfl⟩
              rw [hef]
              refine hv_if_ne (tgt := 89) dX3_fewestCalmed_82 (by decide) (fun c_82 => ?_) (fun c_82 => ?_)
              · have hst := hnx.trans (if_neg (fun qq => by rw [qq.2.2.2] at c_82; exact absurd rfl c_82))
                refine hv_iinc dX3_fewestCalmed_89 rfl (nI_1 n) rfl rfl ?_
                refine hv_goto (tgt := 16) dX3_fewestCalmed_92 (by decide) ?_
                refine hv_drop 7 ?_
                first
                  | exact ih (n + 1) be (by omega) hst.symm
                  | exact ih (n + 1) (some cb) (by omega) hst.symm
                  | exact ih (n + 1) (some n) (by omega) hst.symm
              · have hev : (ef n).testBit kp = false := by
                  cases hqq : (ef n).testBit kp with
                  | false => rfl
                  | true => rw [hqq] at c_82; exact absurd c_82 (by decide)
                have hst : fClm ef bo kp (n + 1) = some n := by rw [hnx, if_pos ⟨hall.1, hall.2, hah, hev⟩]
                refine hv_iload dX3_fewestCalmed_85 rfl ?_
                refine hv_istore dX3_fewestCalmed_87 rfl rfl ?_
                refine hv_iinc dX3_fewestCalmed_89 rfl (nI_1 n) rfl rfl ?_
                refine hv_goto (tgt := 16) dX3_fewestCalmed_92 (by decide) ?_
                refine hv_drop 7 ?_
                first
                  | exact ih (n + 1) be (by omega) hst.symm
                  | exact ih (n + 1) (some cb) (by omega) hst.symm
                  | exact ih (n + 1) (some n) (by omega) hst.symm
      · have hyes1 : n &&& bo = 0 := (nI_eq (b := 0) (by omega) (by decide)).mp c_32
        refine hv_iload dX3_fewestCalmed_35 rfl ?_
        refine hv_cs1 (c_bitCount hn) dX3_fewestCalmed_37 ml_X3_28 mk_J6_bitCount_0f7a4 rfl rfl rfl ?_
        rintro _ _ _ _ ⟨rfl, rfl, rfl, rfl⟩
        refine hv_iconst (v := 3) dX3_fewestCalmed_40 (by decide) ?_
        refine hv_icmp_gt (tgt := 48) dX3_fewestCalmed_41 (by decide) (fun c_41 => ?_) (fun c_41 => ?_)
        · have hno : ¬ (n &&& bo = 0 ∧ pop7 n ≤ 3) := fun qq => nI_nlt (a := 3) (b := pop7 n) qq.2 (by decide) c_41
          refine hv_iconst (v := 0) dX3_fewestCalmed_48 (by decide) ?_
          refine hv_istore dX3_fewestCalmed_49 rfl rfl ?_
          refine hv_iload dX3_fewestCalmed_51 rfl ?_
          refine hv_if_eq (tgt := 89) dX3_fewestCalmed_53 (by decide) (fun c_53 => ?_) (fun c_53 => ?_)
          · have hst : fClm ef bo kp (n + 1) = be := by
              first
                | (rw [hnx, if_neg (fun qq => hno ⟨qq.1, qq.2.1⟩)]; done)
                | exact absurd c_53 (by decide)
            refine hv_iinc dX3_fewestCalmed_89 rfl (nI_1 n) rfl rfl ?_
            refine hv_goto (tgt := 16) dX3_fewestCalmed_92 (by decide) ?_
            refine hv_drop 7 ?_
            first
              | exact ih (n + 1) be (by omega) hst.symm
              | exact ih (n + 1) (some cb) (by omega) hst.symm
              | exact ih (n + 1) (some n) (by omega) hst.symm
          · have hall : n &&& bo = 0 ∧ pop7 n ≤ 3 := by first | exact ⟨hyes1, hyes2⟩ | exact absurd rfl c_53
            refine hv_iload dX3_fewestCalmed_56 rfl ?_
            refine hv_bipush (v := -2) dX3_fewestCalmed_58 (by decide) ?_
            refine hv_icmp_eq (tgt := 73) dX3_fewestCalmed_60 (by decide) (fun c_60 => ?_) (fun c_60 => ?_)
            · have hah : ∀ c, be = some c → fAhd n c = true := fun c hc => absurd c_60 (hnb c hc).2
              refine hv_aload_n dX3_fewestCalmed_73 rfl ?_
              refine hv_aload_n dX3_fewestCalmed_74 rfl ?_
              refine hv_iload_n dX3_fewestCalmed_75 rfl ?_
              refine hv_iload dX3_fewestCalmed_76 rfl ?_
              refine hv_iload_n dX3_fewestCalmed_78 rfl ?_
              refine hv_cv4 (c_eatsIn ok hb hn hkp) dX3_fewestCalmed_79 ml_X3_45 mk_X3_eatsIn (by first | rfl | assumption) rfl rfl rfl rfl rfl ?_
              rintro _ _ _ _ ⟨rfl, rfl, rfl, rfl⟩
              rw [hef]
              refine hv_if_ne (tgt := 89) dX3_fewestCalmed_82 (by decide) (fun c_82 => ?_) (fun c_82 => ?_)
              · have hst := hnx.trans (if_neg (fun qq => by rw [qq.2.2.2] at c_82; exact absurd rfl c_82))
                refine hv_iinc dX3_fewestCalmed_89 rfl (nI_1 n) rfl rfl ?_
                refine hv_goto (tgt := 16) dX3_fewestCalmed_92 (by decide) ?_
                refine hv_drop 7 ?_
                first
                  | exact ih (n + 1) be (by omega) hst.symm
                  | exact ih (n + 1) (some cb) (by omega) hst.symm
                  | exact ih (n + 1) (some n) (by omega) hst.symm
              · have hev : (ef n).testBit kp = false := by
                  cases hqq : (ef n).testBit kp with
                  | false => rfl
                  | true => rw [hqq] at c_82; exact absurd c_82 (by decide)
                have hst : fClm ef bo kp (n + 1) = some n := by rw [hnx, if_pos ⟨hall.1, hall.2, hah, hev⟩]
                refine hv_iload dX3_fewestCalmed_85 rfl ?_
                refine hv_istore dX3_fewestCalmed_87 rfl rfl ?_
                refine hv_iinc dX3_fewestCalmed_89 rfl (nI_1 n) rfl rfl ?_
                refine hv_goto (tgt := 16) dX3_fewestCalmed_92 (by decide) ?_
                refine hv_drop 7 ?_
                first
                  | exact ih (n + 1) be (by omega) hst.symm
                  | exact ih (n + 1) (some cb) (by omega) hst.symm
                  | exact ih (n + 1) (some n) (by omega) hst.symm
            · obtain ⟨cb, rfl⟩ : ∃ cb, be = some cb := by
                cases be with
                | none => exact absurd rfl c_60
                | some cb => exact ⟨cb, rfl⟩
              refine hv_iload dX3_fewestCalmed_63 rfl ?_
              refine hv_iload dX3_fewestCalmed_65 rfl ?_
              refine hv_cs2 (c_isAhead hn (hnb cb rfl).1) dX3_fewestCalmed_67 ml_X3_41 mk_X3_isAhead rfl rfl rfl ?_
              rintro _ _ _ _ ⟨rfl, rfl, rfl, rfl⟩
              refine hv_if_eq (tgt := 89) dX3_fewestCalmed_70 (by decide) (fun c_70 => ?_) (fun c_70 => ?_)
              · have hst : fClm ef bo kp (n + 1) = some cb := by
                  rw [hnx, if_neg]
                  intro qq
                  rw [qq.2.2.1 cb rfl] at c_70
                  exact absurd c_70 (by decide)
                refine hv_iinc dX3_fewestCalmed_89 rfl (nI_1 n) rfl rfl ?_
                refine hv_goto (tgt := 16) dX3_fewestCalmed_92 (by decide) ?_
                refine hv_drop 7 ?_
                first
                  | exact ih (n + 1) be (by omega) hst.symm
                  | exact ih (n + 1) (some cb) (by omega) hst.symm
                  | exact ih (n + 1) (some n) (by omega) hst.symm
              · have hah : ∀ c, some cb = some c → fAhd n c = true := by
                  rintro c hc
                  cases hc
                  cases hqq : fAhd n cb with
                  | true => rfl
                  | false => rw [hqq] at c_70; exact absurd rfl c_70
                refine hv_aload_n dX3_fewestCalmed_73 rfl ?_
                refine hv_aload_n dX3_fewestCalmed_74 rfl ?_
                refine hv_iload_n dX3_fewestCalmed_75 rfl ?_
                refine hv_iload dX3_fewestCalmed_76 rfl ?_
                refine hv_iload_n dX3_fewestCalmed_78 rfl ?_
                refine hv_cv4 (c_eatsIn ok hb hn hkp) dX3_fewestCalmed_79 ml_X3_45 mk_X3_eatsIn (by first | rfl | assumption) rfl rfl rfl rfl rfl ?_
                rintro _ _ _ _ ⟨rfl, rfl, rfl, rfl⟩
                rw [hef]
                refine hv_if_ne (tgt := 89) dX3_fewestCalmed_82 (by decide) (fun c_82 => ?_) (fun c_82 => ?_)
                · have hst := hnx.trans (if_neg (fun qq => by rw [qq.2.2.2] at c_82; exact absurd rfl c_82))
                  refine hv_iinc dX3_fewestCalmed_89 rfl (nI_1 n) rfl rfl ?_
                  refine hv_goto (tgt := 16) dX3_fewestCalmed_92 (by decide) ?_
                  refine hv_drop 7 ?_
                  first
                    | exact ih (n + 1) be (by omega) hst.symm
                    | exact ih (n + 1) (some cb) (by omega) hst.symm
                    | exact ih (n + 1) (some n) (by omega) hst.symm
                · have hev : (ef n).testBit kp = false := by
                    cases hqq : (ef n).testBit kp with
                    | false => rfl
                    | true => rw [hqq] at c_82; exact absurd c_82 (by decide)
                  have hst : fClm ef bo kp (n + 1) = some n := by rw [hnx, if_pos ⟨hall.1, hall.2, hah, hev⟩]
                  refine hv_iload dX3_fewestCalmed_85 rfl ?_
                  refine hv_istore dX3_fewestCalmed_87 rfl rfl ?_
                  refine hv_iinc dX3_fewestCalmed_89 rfl (nI_1 n) rfl rfl ?_
                  refine hv_goto (tgt := 16) dX3_fewestCalmed_92 (by decide) ?_
                  refine hv_drop 7 ?_
                  first
                    | exact ih (n + 1) be (by omega) hst.symm
                    | exact ih (n + 1) (some cb) (by omega) hst.symm
                    | exact ih (n + 1) (some n) (by omega) hst.symm
        · have hyes2 : pop7 n ≤ 3 := Nat.not_lt.mp fun qq => c_41 (nI_lt (a := 3) qq (by have := pop7_le n; omega))
          refine hv_iconst (v := 1) dX3_fewestCalmed_44 (by decide) ?_
          refine hv_goto (tgt := 49) dX3_fewestCalmed_45 (by decide) ?_
          refine hv_istore dX3_fewestCalmed_49 rfl rfl ?_
          refine hv_iload dX3_fewestCalmed_51 rfl ?_
          refine hv_if_eq (tgt := 89) dX3_fewestCalmed_53 (by decide) (fun c_53 => ?_) (fun c_53 => ?_)
          · have hst : fClm ef bo kp (n + 1) = be := by
              first
                | (rw [hnx, if_neg (fun qq => hno ⟨qq.1, qq.2.1⟩)]; done)
                | exact absurd c_53 (by decide)
            refine hv_iinc dX3_fewestCalmed_89 rfl (nI_1 n) rfl rfl ?_
            refine hv_goto (tgt := 16) dX3_fewestCalmed_92 (by decide) ?_
            refine hv_drop 7 ?_
            first
              | exact ih (n + 1) be (by omega) hst.symm
              | exact ih (n + 1) (some cb) (by omega) hst.symm
              | exact ih (n + 1) (some n) (by omega) hst.symm
          · have hall : n &&& bo = 0 ∧ pop7 n ≤ 3 := by first | exact ⟨hyes1, hyes2⟩ | exact absurd rfl c_53
            refine hv_iload dX3_fewestCalmed_56 rfl ?_
            refine hv_bipush (v := -2) dX3_fewestCalmed_58 (by decide) ?_
            refine hv_icmp_eq (tgt := 73) dX3_fewestCalmed_60 (by decide) (fun c_60 => ?_) (fun c_60 => ?_)
            · have hah : ∀ c, be = some c → fAhd n c = true := fun c hc => absurd c_60 (hnb c hc).2
              refine hv_aload_n dX3_fewestCalmed_73 rfl ?_
              refine hv_aload_n dX3_fewestCalmed_74 rfl ?_
              refine hv_iload_n dX3_fewestCalmed_75 rfl ?_
              refine hv_iload dX3_fewestCalmed_76 rfl ?_
              refine hv_iload_n dX3_fewestCalmed_78 rfl ?_
              refine hv_cv4 (c_eatsIn ok hb hn hkp) dX3_fewestCalmed_79 ml_X3_45 mk_X3_eatsIn (by first | rfl | assumption) rfl rfl rfl rfl rfl ?_
              rintro _ _ _ _ ⟨rfl, rfl, rfl, rfl⟩
              rw [hef]
              refine hv_if_ne (tgt := 89) dX3_fewestCalmed_82 (by decide) (fun c_82 => ?_) (fun c_82 => ?_)
              · have hst := hnx.trans (if_neg (fun qq => by rw [qq.2.2.2] at c_82; exact absurd rfl c_82))
                refine hv_iinc dX3_fewestCalmed_89 rfl (nI_1 n) rfl rfl ?_
                refine hv_goto (tgt := 16) dX3_fewestCalmed_92 (by decide) ?_
                refine hv_drop 7 ?_
                first
                  | exact ih (n + 1) be (by omega) hst.symm
                  | exact ih (n + 1) (some cb) (by omega) hst.symm
                  | exact ih (n + 1) (some n) (by omega) hst.symm
              · have hev : (ef n).testBit kp = false := by
                  cases hqq : (ef n).testBit kp with
                  | false => rfl
                  | true => rw [hqq] at c_82; exact absurd c_82 (by decide)
                have hst : fClm ef bo kp (n + 1) = some n := by rw [hnx, if_pos ⟨hall.1, hall.2, hah, hev⟩]
                refine hv_iload dX3_fewestCalmed_85 rfl ?_
                refine hv_istore dX3_fewestCalmed_87 rfl rfl ?_
                refine hv_iinc dX3_fewestCalmed_89 rfl (nI_1 n) rfl rfl ?_
                refine hv_goto (tgt := 16) dX3_fewestCalmed_92 (by decide) ?_
                refine hv_drop 7 ?_
                first
                  | exact ih (n + 1) be (by omega) hst.symm
                  | exact ih (n + 1) (some cb) (by omega) hst.symm
                  | exact ih (n + 1) (some n) (by omega) hst.symm
            · obtain ⟨cb, rfl⟩ : ∃ cb, be = some cb := by
                cases be with
                | none => exact absurd rfl c_60
                | some cb => exact ⟨cb, rfl⟩
              refine hv_iload dX3_fewestCalmed_63 rfl ?_
              refine hv_iload dX3_fewestCalmed_65 rfl ?_
              refine hv_cs2 (c_isAhead hn (hnb cb rfl).1) dX3_fewestCalmed_67 ml_X3_41 mk_X3_isAhead rfl rfl rfl ?_
              rintro _ _ _ _ ⟨rfl, rfl, rfl, rfl⟩
              refine hv_if_eq (tgt := 89) dX3_fewestCalmed_70 (by decide) (fun c_70 => ?_) (fun c_70 => ?_)
              · have hst : fClm ef bo kp (n + 1) = some cb := by
                  rw [hnx, if_neg]
                  intro qq
                  rw [qq.2.2.1 cb rfl] at c_70
                  exact absurd c_70 (by decide)
                refine hv_iinc dX3_fewestCalmed_89 rfl (nI_1 n) rfl rfl ?_
                refine hv_goto (tgt := 16) dX3_fewestCalmed_92 (by decide) ?_
                refine hv_drop 7 ?_
                first
                  | exact ih (n + 1) be (by omega) hst.symm
                  | exact ih (n + 1) (some cb) (by omega) hst.symm
                  | exact ih (n + 1) (some n) (by omega) hst.symm
              · have hah : ∀ c, some cb = some c → fAhd n c = true := by
                  rintro c hc
                  cases hc
                  cases hqq : fAhd n cb with
                  | true => rfl
                  | false => rw [hqq] at c_70; exact absurd rfl c_70
                refine hv_aload_n dX3_fewestCalmed_73 rfl ?_
                refine hv_aload_n dX3_fewestCalmed_74 rfl ?_
                refine hv_iload_n dX3_fewestCalmed_75 rfl ?_
                refine hv_iload dX3_fewestCalmed_76 rfl ?_
                refine hv_iload_n dX3_fewestCalmed_78 rfl ?_
                refine hv_cv4 (c_eatsIn ok hb hn hkp) dX3_fewestCalmed_79 ml_X3_45 mk_X3_eatsIn (by first | rfl | assumption) rfl rfl rfl rfl rfl ?_
                rintro _ _ _ _ ⟨rfl, rfl, rfl, rfl⟩
                rw [hef]
                refine hv_if_ne (tgt := 89) dX3_fewestCalmed_82 (by decide) (fun c_82 => ?_) (fun c_82 => ?_)
                · have hst := hnx.trans (if_neg (fun qq => by rw [qq.2.2.2] at c_82; exact absurd rfl c_82))
                  refine hv_iinc dX3_fewestCalmed_89 rfl (nI_1 n) rfl rfl ?_
                  refine hv_goto (tgt := 16) dX3_fewestCalmed_92 (by decide) ?_
                  refine hv_drop 7 ?_
                  first
                    | exact ih (n + 1) be (by omega) hst.symm
                    | exact ih (n + 1) (some cb) (by omega) hst.symm
                    | exact ih (n + 1) (some n) (by omega) hst.symm
                · have hev : (ef n).testBit kp = false := by
                    cases hqq : (ef n).testBit kp with
                    | false => rfl
                    | true => rw [hqq] at c_82; exact absurd c_82 (by decide)
                  have hst : fClm ef bo kp (n + 1) = some n := by rw [hnx, if_pos ⟨hall.1, hall.2, hah, hev⟩]
                  refine hv_iload dX3_fewestCalmed_85 rfl ?_
                  refine hv_istore dX3_fewestCalmed_87 rfl rfl ?_
                  refine hv_iinc dX3_fewestCalmed_89 rfl (nI_1 n) rfl rfl ?_
                  refine hv_goto (tgt := 16) dX3_fewestCalmed_92 (by decide) ?_
                  refine hv_drop 7 ?_
                  first
                    | exact ih (n + 1) be (by omega) hst.symm
                    | exact ih (n + 1) (some cb) (by omega) hst.symm
                    | exact ih (n + 1) (some n) (by omega) hst.symm
  refine hv_bipush (v := -2) dX3_fewestCalmed_0 (by decide) ?_
  refine hv_istore dX3_fewestCalmed_2 rfl rfl ?_
  refine hv_iconst (v := 1) dX3_fewestCalmed_4 (by decide) ?_
  refine hv_iload_n dX3_fewestCalmed_5 rfl ?_
  refine hv_ishl dX3_fewestCalmed_6 ?_
  refine hv_iconst (v := 1) dX3_fewestCalmed_7 (by decide) ?_
  refine hv_iload_n dX3_fewestCalmed_8 rfl ?_
  refine hv_ishl dX3_fewestCalmed_9 ?_
  refine hv_ior dX3_fewestCalmed_10 ?_
  refine hv_str (st' := [.int (nI bo)]) (by rw [b_shl (by omega), b_shl (by omega), b_or (by omega) (by omega), hbo]) ?_
  refine hv_istore dX3_fewestCalmed_11 rfl rfl ?_
  refine hv_iconst (v := 0) dX3_fewestCalmed_13 (by decide) ?_
  refine hv_istore dX3_fewestCalmed_14 rfl rfl ?_
  exact loop (2 ^ h) 0 none (by omega) rfl
end S23

