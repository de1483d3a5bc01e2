theorem clamp_nI {z : Int32} (h : 0 ≤ z) : z = nI z.toNatClampNeg := by
  obtain ⟨j, hj, rfl⟩ := nI_of (Int32.not_lt.mpr h)
  rw [nI_clamp hj]
theorem clamp_le {z : Int32} {n : Nat} (h : 0 ≤ z) (h2 : z ≤ nI n) (hn : n < 2 ^ 31) : z.toNatClampNeg ≤ n := by
  obtain ⟨j, hj, rfl⟩ := nI_of (Int32.not_lt.mpr h)
  rw [nI_clamp hj]
  exact (nI_leI hj hn).mp h2
theorem sub_le0 {a b : Nat} (ha : a < 2 ^ 30) (hb : b < 2 ^ 30) : nI a - nI b ≤ 0 ↔ a ≤ b := by
  rw [i32_le, pk_sub_toInt ha hb, show (0 : Int32).toInt = 0 from rfl]
  omega
section S57
variable {G : hGl} {σ : hS} {τ : hT} {x y : Option Nat}
theorem d_takeover {L h : Nat} {LF : Nat → hF → Int32} {a w P : Int32} {F : hF} (ok : okR σ L h LF) (hco : ∀ a, a < h → 0 ≤ σ 98 (7 + a)) (hP : P = fPrice (twM σ L h LF) (dyM σ 98)) (hF : F = dF (dyM σ 98)) : hCal G (m_X12_takeover (hRq (if isH h a = true ∧ (w = 0 ∨ w = 1) then (if hsum F h = 0 ∨ σ 98 (7 + a.toNatClampNeg) < fTake (hsum F h) (F a.toNatClampNeg) P then -2 else if w = 0 then fTake (hsum F h) (F a.toNatClampNeg) P else fMaj F h (fSm F (2 ^ h - 1) 7) 8 (2 ^ a.toNatClampNeg) 0) else -1) x y σ τ)) [.ref (hgA G 64), .int a, .int w] shp (rr 38 51 x y) σ τ := by
  have k2 := ok.1.2.2.2.1
  have hL2 := ok.1.2.1
  have hp := pow_le7 k2
  obtain ⟨g, hg⟩ : ∃ g : Nat → Nat, (fun a => (F a).toNatClampNeg) = g := ⟨_, rfl⟩
  have hFa : ∀ a, F a = σ 98 a := fun a => by rw [hF]; rfl
  have hg1 : ∀ a, a < h → F a = nI (g a) := fun a ha => by rw [← hg]; exact clamp_nI (by rw [hFa]; exact (ok.2.2 a ha).1)
  have hg2 : ∀ a, a < h → g a ≤ 9999 := fun a ha => by rw [← hg]; exact clamp_le (by rw [hFa]; exact (ok.2.2 a ha).1) (by rw [hFa]; exact (ok.2.2 a ha).2.1) (by decide)
  obtain ⟨A, hA⟩ : ∃ A, nS g h = A := ⟨_, rfl⟩
  have hsA : hsum F h = nI A := by rw [← hA]; exact nS_sum h hg1
  have hAl : A ≤ 69993 := by
    have hle : ∀ n, n ≤ h → nS g n ≤ n * 9999 := by
      intro n
      induction n with
      | zero => intro _; simp [nS]
      | succ n ih => intro hn; have h1 := ih (by omega); have h2 := hg2 n (by omega); rw [nS, Nat.succ_mul]; omega
    have := hle h (Nat.le_refl _)
    have h3 : h * 9999 ≤ 7 * 9999 := Nat.mul_le_mul_right _ k2
    omega
  have hsm : ∀ gr, gr < 2 ^ h → fSm F gr 7 = nI (sS g gr h) ∧ sS g gr h ≤ A := fun gr hgr => ⟨by rw [fSm_h hgr 7 k2]; exact fSm_nat h hg1, by rw [← hA]; exact sS_le h⟩
  rw [fSm_ones k2, hsA]
  refine hv_enter pn_X12 rfl ?_
  have inner : ∀ Q (R : hS) (l1 l2 l3 l4 l5 l6 : Option Value) gr, R 64 18 = nI L → R 74 L = nI h → gr < 128 → hV G (m_X12_takeover Q) 0 0 shp 165 [some (.ref (hgA G 64)), l1, l2, l3, l4, l5, l6, some (.int (nI gr)), some (.int (oN (fLo (R 99) gr h))), some (.int (nI h))] [] (rr 38 51 x y) R τ → ∀ k i bo, i + k = h → bo = fLo (R 99) gr i → hV G (m_X12_takeover Q) 0 0 shp 109 [some (.ref (hgA G 64)), l1, l2, l3, l4, l5, l6, some (.int (nI gr)), some (.int (oN bo)), some (.int (nI i))] [] (rr 38 51 x y) R τ := by
    intro Q R l1 l2 l3 l4 l5 l6 gr eL eh hgr kk k
    induction k with
    | zero =>
      intro i bo hi hb
      obtain rfl : i = h := by omega
      refine hv_iload dX12_takeover_109 rfl ?_
      refine hv_aload_n dX12_takeover_111 rfl ?_
      refine hv_getr dX12_takeover_112 fl_X12_46 (by first | rfl | assumption) rfl (by first | rfl | assumption) ?_
      refine hv_aload_n dX12_takeover_115 rfl ?_
      refine hv_geti dX12_takeover_116 fl_X12_233 (by first | rfl | assumption) rfl ?_
      refine hv_iald dX12_takeover_119 (by first | rfl | assumption) (j := L) eL (by omega) (by first | decide | assumption) ?_
      refine hv_icmp_ge (tgt := 165) dX12_takeover_120 (by decide) (fun c_120 => ?_) (fun c_120 => absurd ((by rw [eh]; exact nI_le (Nat.le_refl _) (by omega))) c_120)
      rw [hb]; exact kk
    | succ k ih =>
      intro i bo hi hb
      have nx : fLo (R 99) gr (i + 1) = fLs (R 99) gr bo i := by rw [fLo, ← hb]
      cases hbo : bo with
      | none =>
        rw [hbo] at nx
        unfold fLs at nx
        dsimp only at nx
        refine hv_iload dX12_takeover_109 rfl ?_
        refine hv_aload_n dX12_takeover_111 rfl ?_
        refine hv_getr dX12_takeover_112 fl_X12_46 (by first | rfl | assumption) rfl (by first | rfl | assumption) ?_
        refine hv_aload_n dX12_takeover_115 rfl ?_
        refine hv_geti dX12_takeover_116 fl_X12_233 (by first | rfl | assumption) rfl ?_
        refine hv_iald dX12_takeover_119 (by first | rfl | assumption) (j := L) eL (by omega) (by first | decide | assumption) ?_
        refine hv_icmp_ge (tgt := 165) dX12_takeover_120 (by decide) (fun c_120 => absurd c_120 ((by rw [eh]; exact nI_ge (by omega) (by omega)))) (fun c_120 => ?_)
        refine hv_iload dX12_takeover_123 rfl ?_
        refine hv_iload dX12_takeover_125 rfl ?_
        refine hv_ishr dX12_takeover_127 ?_
        refine hv_iconst (v := 1) dX12_takeover_128 (by decide) ?_
        refine hv_iand dX12_takeover_129 ?_
        rw [b_bit hgr (by omega)]
        refine hv_if_ne (tgt := 159) dX12_takeover_130 (by decide) (fun c_130 => ?_) (fun c_130 => ?_)
        · rw [if_pos (bI_1 c_130)] at nx
          refine hv_iinc dX12_takeover_159 rfl (nI_1 i) rfl rfl ?_
          refine hv_goto (tgt := 109) dX12_takeover_162 (by decide) ?_
          first
            | exact ih (i + 1) (some i) (by omega) nx.symm
            | exact ih (i + 1) none (by omega) nx.symm
        · rw [if_neg (by rw [bI_0 c_130]; decide)] at nx
          refine hv_iload dX12_takeover_133 rfl ?_
          refine hv_if_lt (tgt := 155) dX12_takeover_135 (by decide) (fun c_135 => ?_) (fun c_135 => absurd ((show oN none < 0 by decide)) c_135)
          refine hv_iload dX12_takeover_155 rfl ?_
          refine hv_istore dX12_takeover_157 rfl rfl ?_
          refine hv_iinc dX12_takeover_159 rfl (nI_1 i) rfl rfl ?_
          refine hv_goto (tgt := 109) dX12_takeover_162 (by decide) ?_
          first
            | exact ih (i + 1) (some i) (by omega) nx.symm
            | exact ih (i + 1) none (by omega) nx.symm
      | some b =>
        have hbl := fLo_lt (R 99) gr i b (by rw [← hb, hbo])
        rw [hbo] at nx
        unfold fLs at nx
        dsimp only at nx
        refine hv_iload dX12_takeover_109 rfl ?_
        refine hv_aload_n dX12_takeover_111 rfl ?_
        refine hv_getr dX12_takeover_112 fl_X12_46 (by first | rfl | assumption) rfl (by first | rfl | assumption) ?_
        refine hv_aload_n dX12_takeover_115 rfl ?_
        refine hv_geti dX12_takeover_116 fl_X12_233 (by first | rfl | assumption) rfl ?_
        refine hv_iald dX12_takeover_119 (by first | rfl | assumption) (j := L) eL (by omega) (by first | decide | assumption) ?_
        refine hv_icmp_ge (tgt := 165) dX12_takeover_120 (by decide) (fun c_120 => absurd c_120 ((by rw [eh]; exact nI_ge (by omega) (by omega)))) (fun c_120 => ?_)
        refine hv_iload dX12_takeover_123 rfl ?_
        refine hv_iload dX12_takeover_125 rfl ?_
        refine hv_ishr dX12_takeover_127 ?_
        refine hv_iconst (v := 1) dX12_takeover_128 (by decide) ?_
        refine hv_iand dX12_takeover_129 ?_
        rw [b_bit hgr (by omega)]
        refine hv_if_ne (tgt := 159) dX12_takeover_130 (by decide) (fun c_130 => ?_) (fun c_130 => ?_)
        · rw [if_pos (bI_1 c_130)] at nx
          refine hv_iinc dX12_takeover_159 rfl (nI_1 i) rfl rfl ?_
          refine hv_goto (tgt := 109) dX12_takeover_162 (by decide) ?_
          first
            | exact ih (i + 1) (some i) (by omega) nx.symm
            | exact ih (i + 1) (some b) (by omega) nx.symm
        · rw [if_neg (by rw [bI_0 c_130]; decide)] at nx
          refine hv_iload dX12_takeover_133 rfl ?_
          refine hv_if_lt (tgt := 155) dX12_takeover_135 (by decide) (fun c_135 => absurd c_135 ((show ¬ oN (some b) < 0 from nI_pos (by omega)))) (fun c_135 => ?_)
          refine hv_aload_n dX12_takeover_138 rfl ?_
          refine hv_getr dX12_takeover_139 fl_X12_122 (by first | rfl | assumption) rfl (by first | rfl | assumption) ?_
          refine hv_iload dX12_takeover_142 rfl ?_
          refine hv_iald dX12_takeover_144 (by first | rfl | assumption) rfl (by first | assumption | omega) (by first | decide | assumption) ?_
          refine hv_aload_n dX12_takeover_145 rfl ?_
          refine hv_getr dX12_takeover_146 fl_X12_122 (by first | rfl | assumption) rfl (by first | rfl | assumption) ?_
          refine hv_iload dX12_takeover_149 rfl ?_
          refine hv_iald dX12_takeover_151 (by first | rfl | assumption) (j := b) rfl (by omega) (by first | decide | assumption) ?_
          refine hv_icmp_le (tgt := 159) dX12_takeover_152 (by decide) (fun c_152 => ?_) (fun c_152 => ?_)
          · rw [if_neg (Int32.not_lt.mpr c_152)] at nx
            refine hv_iinc dX12_takeover_159 rfl (nI_1 i) rfl rfl ?_
            refine hv_goto (tgt := 109) dX12_takeover_162 (by decide) ?_
            first
              | exact ih (i + 1) (some i) (by omega) nx.symm
              | exact ih (i + 1) (some b) (by omega) nx.symm
          · rw [if_pos (Int32.not_le.mp c_152)] at nx
            refine hv_iload dX12_takeover_155 rfl ?_
            refine hv_istore dX12_takeover_157 rfl rfl ?_
            refine hv_iinc dX12_takeover_159 rfl (nI_1 i) rfl rfl ?_
            refine hv_goto (tgt := 109) dX12_takeover_162 (by decide) ?_
            first
              | exact ih (i + 1) (some i) (by omega) nx.symm
              | exact ih (i + 1) (some b) (by omega) nx.symm
  have outer : ∀ (R : hS) (z1 z2 z3 z5 : Int32), A ≠ 0 → R 64 18 = nI L → R 74 L = nI h → (∀ a, a < h → R 99 a = F a) → (∀ k, k ∉ xRq → R k = σ k) → k64 σ R → ∀ k gr nd ad res (l8 l9 : Option Value), h < k + popN gr h → gr < 2 ^ h → nd = nI (A / 2 + 1) - fSm F gr 7 → fMaj F h (nI A) k gr ad = res → hV G (m_X12_takeover (hRq res x y σ τ)) 0 0 shp 98 [some (.ref (hgA G 64)), some (.int z1), some (.int z2), some (.int z3), some (.int nd), some (.int z5), some (.int (nI ad)), some (.int (nI gr)), l8, l9] [] (rr 38 51 x y) R τ := by
    intro R z1 z2 z3 z5 hA0 eL eh hRF hR1 hR2 k
    induction k with
    | zero =>
      intro gr nd ad res l8 l9 hk
      have := popN_le gr h
      omega
    | succ k ih =>
      intro gr nd ad res l8 l9 hk hgr hnd hres
      obtain ⟨s1, s2⟩ := hsm gr hgr
      rw [fMaj, s1, show (2 : Int32) * nI (sS g gr h) = nI (2 * sS g gr h) from pk_mul 2 _] at hres
      have hc : nd ≤ 0 ↔ nI A < nI (2 * sS g gr h) := by
        rw [hnd, s1, sub_le0 (by omega) (by omega), nI_ltI (by omega) (by omega)]; omega
      refine hv_iload dX12_takeover_98 rfl ?_
      refine hv_if_le (tgt := 192) dX12_takeover_100 (by decide) (fun c_100 => ?_) (fun c_100 => ?_)
      · rw [if_pos (hc.mp c_100)] at hres
        refine hv_iload dX12_takeover_192 rfl ?_
        refine hv_iret dX12_takeover_194 rfl ?_
        rw [← hres]; exact ⟨rfl, rfl, rfl, hR1, hR2⟩
      · rw [if_neg (fun qq => c_100 (hc.mpr qq))] at hres
        refine hv_iconst (v := -1) dX12_takeover_103 (by decide) ?_
        refine hv_istore dX12_takeover_104 rfl rfl ?_
        refine hv_iconst (v := 0) dX12_takeover_106 (by decide) ?_
        refine hv_istore dX12_takeover_107 rfl rfl ?_
        refine inner _ R _ _ _ _ _ _ gr eL eh (by omega) ?_ h 0 none (by omega) rfl
        rw [fLo_congr h hRF]
        cases hlo : fLo F gr h with
        | none =>
          exfalso
          have hfa := fSm_all (f := F) h (fLo_none F gr h hlo)
          rw [fSm_h hgr 7 k2, hfa, hsA] at s1
          have h4 : A = sS g gr h := (nI_eq (by omega) (by omega)).mp s1
          exact c_100 (hc.mpr (nI_lt (by omega) (by omega)))
        | some b =>
          have hbl := fLo_lt F gr h b hlo
          have hbo := fLo_out F gr h b hlo
          have hpb := pow_lt7 (i := b) (by omega)
          rw [hlo] at hres
          dsimp only at hres
          rw [show oN (some b) = nI b from rfl]
          refine hv_iload dX12_takeover_165 rfl ?_
          refine hv_iconst (v := 1) dX12_takeover_167 (by decide) ?_
          refine hv_iload dX12_takeover_168 rfl ?_
          refine hv_ishl dX12_takeover_170 ?_
          rw [b_shl (by omega)]
          refine hv_ior dX12_takeover_171 ?_
          rw [b_or (by omega) (by omega)]
          refine hv_istore dX12_takeover_172 rfl rfl ?_
          refine hv_iload dX12_takeover_174 rfl ?_
          refine hv_aload_n dX12_takeover_176 rfl ?_
          refine hv_getr dX12_takeover_177 fl_X12_122 (by first | rfl | assumption) rfl (by first | rfl | assumption) ?_
          refine hv_iload dX12_takeover_180 rfl ?_
          refine hv_iald dX12_takeover_182 (by first | rfl | assumption) rfl (by first | assumption | omega) (by first | decide | assumption) ?_
          rw [hRF b hbl]
          refine hv_isub dX12_takeover_183 ?_
          refine hv_istore dX12_takeover_184 rfl rfl ?_
          refine hv_iinc dX12_takeover_186 rfl (nI_1 ad) rfl rfl ?_
          refine hv_goto (tgt := 98) dX12_takeover_189 (by decide) ?_
          obtain ⟨g2, hg2⟩ : ∃ g2, gr ||| 2 ^ b = g2 := ⟨_, rfl⟩
          rw [hg2] at hres
          rw [hg2]
          refine ih g2 _ (ad + 1) res _ _ ?_ (by rw [← hg2]; exact or_lt_pow hgr hbl) ?_ hres
          · have := popN_lt (A := gr) (B := g2) (i := b) (by rw [← hg2]; exact or_sub) hbo (by rw [← hg2, or_tb, decide_eq_true rfl, Bool.or_true]) h k2 hbl
            omega
          · rw [← hg2, fSm_or hbo 7 (by omega), hnd, Int32.sub_sub]
  refine hv_aload_n dX12_takeover_0 rfl ?_
  refine hv_iload_n dX12_takeover_1 rfl ?_
  refine hv_cv1 (d_isHouse ok.1.1 ok.1.2.1 ok.1.2.2.1 k2) dX12_takeover_2 ml_X12_370 mk_X12_isHouse (by first | rfl | assumption) rfl rfl rfl rfl rfl ?_
  rintro _ _ _ _ ⟨rfl, rfl, rfl, rfl⟩
  refine hv_if_eq (tgt := 17) dX12_takeover_5 (by decide) (fun c_5 => ?_) (fun c_5 => ?_)
  · rw [if_neg (fun qq => by rw [bI_0 c_5] at qq; exact absurd qq.1 (by decide))]
    refine hv_iconst (v := -1) dX12_takeover_17 (by decide) ?_
    refine hv_iret dX12_takeover_18 rfl ?_
    exact ⟨rfl, rfl, rfl, fun _ _ => rfl, k64_rf⟩
  · refine hv_iload_n dX12_takeover_8 rfl ?_
    refine hv_iconst (v := 0) dX12_takeover_9 (by decide) ?_
    refine hv_iconst (v := 1) dX12_takeover_10 (by decide) ?_
    refine hv_cs3 (d_in) dX12_takeover_11 ml_X12_319 mk_X12_in rfl rfl rfl ?_
    rintro _ _ _ _ ⟨rfl, rfl, rfl, rfl⟩
    refine hv_if_ne (tgt := 19) dX12_takeover_14 (by decide) (fun c_14 => ?_) (fun c_14 => ?_)
    · have hw := in01.mp (bI_1 c_14)
      rw [if_pos ⟨bI_1 c_5, hw⟩]
      obtain ⟨ai, hai, rfl⟩ := isH_ix k2 (bI_1 c_5)
      rw [nI_clamp (by omega), hg1 ai hai]
      have hga := hg2 ai hai
      have hgA : g ai ≤ A := by rw [← hA]; exact nS_ge h hai
      refine hv_aload_n dX12_takeover_19 rfl ?_
      refine hv_cv0 (d_copies ok.1.1 ok.1.2.1) dX12_takeover_20 ml_X12_373 mk_X12_copies (by first | rfl | assumption) rfl rfl rfl rfl rfl ?_
      rintro _ _ σ1 _ ⟨rfl, rfl, rfl, q1, q2, q3⟩
      obtain ⟨c1, c2, c3, c4, c5, c6, c7, c8⟩ := cp_of ok q1 q2 q3
      have e99 : ∀ a, a < h → σ1 99 a = F a := fun a ha => by rw [c8 a (by omega), hFa]
      refine hv_aload_n dX12_takeover_23 rfl ?_
      refine hv_iconst (v := 0) dX12_takeover_24 (by decide) ?_
      refine hv_cv1 (d_sumOf (f := 0) (by decide)) dX12_takeover_25 ml_X12_330 mk_X12_sumOf (by first | rfl | assumption) rfl rfl rfl rfl rfl ?_
      rintro _ _ _ _ ⟨rfl, rfl, rfl, rfl⟩
      rw [hsum_M k2 c2, hsum_congr (f := dF (dyM σ1 99)) (g := F) h e99, hsA]
      refine hv_istore_n dX12_takeover_28 rfl rfl ?_
      refine hv_iload_n dX12_takeover_29 rfl ?_
      refine hv_iconst (v := 2) dX12_takeover_30 (by decide) ?_
      refine hv_idiv dX12_takeover_31 (by decide) ?_
      refine hv_iconst (v := 1) dX12_takeover_32 (by decide) ?_
      refine hv_iadd dX12_takeover_33 ?_
      refine hv_aload_n dX12_takeover_34 rfl ?_
      refine hv_getr dX12_takeover_35 fl_X12_122 (by first | rfl | assumption) rfl (by first | rfl | assumption) ?_
      refine hv_iload_n dX12_takeover_38 rfl ?_
      refine hv_iald dX12_takeover_39 (by first | rfl | assumption) rfl (by first | assumption | omega) (by first | decide | assumption) ?_
      rw [e99 ai hai, hg1 ai hai]
      have hnd : nI A / 2 + 1 - nI (g ai) = nI (A / 2 + 1) - nI (g ai) := by rw [show nI A / 2 = nI (A / 2) from pk_div (d := 2) (by omega) (by decide) (by decide), nI_1]
      have hft : fTake (nI A) (nI (g ai)) P = hmax 0 (nI A / 2 + 1 - nI (g ai)) * P := rfl
      refine hv_isub dX12_takeover_40 ?_
      refine hv_istore dX12_takeover_41 rfl rfl ?_
      refine hv_iload_n dX12_takeover_43 rfl ?_
      refine hv_if_ne (tgt := 50) dX12_takeover_44 (by decide) (fun c_44 => ?_) (fun c_44 => ?_)
      · have hA0 : A ≠ 0 := fun qq => c_44 (by rw [qq]; rfl)
        refine hv_iload dX12_takeover_50 rfl ?_
        refine hv_if_gt (tgt := 57) dX12_takeover_52 (by decide) (fun c_52 => ?_) (fun c_52 => ?_)
        · have hz : fTake (nI A) (nI (g ai)) P = (nI A / 2 + 1 - nI (g ai)) * P := by rw [hft, hmax, if_pos c_52]
          rw [hz]
          refine hv_iload dX12_takeover_57 rfl ?_
          refine hv_aload_n dX12_takeover_59 rfl ?_
          refine hv_cv0 (d_priceNow c1 c2) dX12_takeover_60 ml_X12_379 mk_X12_priceNow (by first | rfl | assumption) rfl rfl rfl rfl rfl ?_
          rintro _ _ σ2 _ ⟨rfl, rfl, rfl, q4, q5⟩
          rw [show fPrice (twM σ1 L h LF) (dyM σ1 99) = P by rw [hP, c5]; exact fPrice_congr (tEqM ok.1) (c4.mono k2)]
          have eL : σ2 64 18 = nI L := (q5 18 (by decide)).trans c1.1
          have eh : σ2 74 L = nI h := by rw [q4 74 (by decide)]; exact c1.2.2.1
          have qR : ∀ k, k ∉ xRq → σ2 k = σ k := off_tr q1 q4 (by decide) (by decide)
          have qk : k64 σ σ2 := fun j j1 j2 j3 => (q5 j j1).trans (c7 j j2)
          refine hv_imul dX12_takeover_63 ?_
          refine hv_istore dX12_takeover_64 rfl rfl ?_
          refine hv_iload dX12_takeover_66 rfl ?_
          refine hv_aload_n dX12_takeover_68 rfl ?_
          refine hv_getr dX12_takeover_69 fl_X12_122 (by first | rfl | assumption) rfl (by first | rfl | assumption) ?_
          refine hv_bipush (v := 7) dX12_takeover_72 (by decide) ?_
          refine hv_iload_n dX12_takeover_74 rfl ?_
          refine hv_iadd dX12_takeover_75 ?_
          refine hv_iald dX12_takeover_76 (by first | rfl | assumption) (j := 7 + ai) (nI_add 7 ai) (by omega) (by first | decide | assumption) ?_
          rw [q4 99 (by decide), c8 (7 + ai) (by omega)]
          refine hv_icmp_le (tgt := 83) dX12_takeover_77 (by decide) (fun c_77 => ?_) (fun c_77 => ?_)
          · rw [if_neg (fun qq => qq.elim c_44 (Int32.not_lt.mpr c_77))]
            refine hv_iload_n dX12_takeover_83 rfl ?_
            refine hv_if_ne (tgt := 90) dX12_takeover_84 (by decide) (fun c_84 => ?_) (fun c_84 => ?_)
            · rw [if_neg c_84]
              refine hv_iconst (v := 0) dX12_takeover_90 (by decide) ?_
              refine hv_istore dX12_takeover_91 rfl rfl ?_
              refine hv_iconst (v := 1) dX12_takeover_93 (by decide) ?_
              refine hv_iload_n dX12_takeover_94 rfl ?_
              refine hv_ishl dX12_takeover_95 ?_
              rw [b_shl (by omega)]
              refine hv_istore dX12_takeover_96 rfl rfl ?_
              refine outer σ2 _ _ _ _ hA0 eL eh (fun a ha => by rw [q4 99 (by decide)]; exact e99 a ha) qR qk 8 (2 ^ ai) _ 0 _ none none (by omega) (Nat.pow_lt_pow_right (by decide) hai) ?_ rfl
              rw [fSm_pow (by omega), hnd, hg1 ai hai]
            · rw [if_pos c_84]
              refine hv_iload dX12_takeover_87 rfl ?_
              refine hv_iret dX12_takeover_89 rfl ?_
              exact ⟨rfl, rfl, rfl, qR, qk⟩
          · rw [if_pos (Or.inr (Int32.not_le.mp c_77))]
            refine hv_bipush (v := -2) dX12_takeover_80 (by decide) ?_
            refine hv_iret dX12_takeover_82 rfl ?_
            exact ⟨rfl, rfl, rfl, qR, qk⟩
        · have hz : fTake (nI A) (nI (g ai)) P = 0 := by rw [hft, hmax, if_neg c_52, Int32.zero_mul]
          have hml : A / 2 + 1 ≤ g ai := by rw [hnd] at c_52; exact (sub_le0 (by omega) (by omega)).mp (Int32.not_lt.mp c_52)
          rw [if_neg (fun qq => qq.elim c_44 (fun q2 => Int32.not_lt.mpr (hco ai hai) (by rw [hz] at q2; exact q2))), hz, fMaj, fSm_pow (by omega), hg1 ai hai, show (2 : Int32) * nI (g ai) = nI (2 * g ai) from pk_mul 2 _, if_pos (nI_lt (by omega) (by omega))]
          refine hv_iconst (v := 0) dX12_takeover_55 (by decide) ?_
          refine hv_iret dX12_takeover_56 rfl ?_
          refine ⟨?_, rfl, rfl, off_wk q1 (by decide), fun j j1 j2 j3 => c7 j j2⟩
          rcases hw with rfl | rfl <;> rfl
      · rw [if_pos (Or.inl c_44)]
        refine hv_bipush (v := -2) dX12_takeover_47 (by decide) ?_
        refine hv_iret dX12_takeover_49 rfl ?_
        exact ⟨rfl, rfl, rfl, off_wk q1 (by decide), fun j j1 j2 j3 => c7 j j2⟩
    · rw [if_neg (fun qq => in01f (bI_0 c_14) qq.2)]
      refine hv_iconst (v := -1) dX12_takeover_17 (by decide) ?_
      refine hv_iret dX12_takeover_18 rfl ?_
      exact ⟨rfl, rfl, rfl, fun _ _ => rfl, k64_rf⟩
theorem d_poorest {L h : Nat} {LF : Nat → hF → Int32} {n w : Int32} (ok : okR σ L h LF) : hCal G (m_X12_poorest (hRq (if inI 0 60 n = true ∧ (w = 0 ∨ w = 1) then (if h = 0 then -2 else if w = 0 then nI (amin (dF (fDays (twM σ L h LF) (fGl (twM σ L h LF) (σ 85 L)) n.toNatClampNeg (dyM σ 98))) h) else dF (fDays (twM σ L h LF) (fGl (twM σ L h LF) (σ 85 L)) n.toNatClampNeg (dyM σ 98)) (amin (dF (fDays (twM σ L h LF) (fGl (twM σ L h LF) (σ 85 L)) n.toNatClampNeg (dyM σ 98))) h)) else -1) x y σ τ)) [.ref (hgA G 64), .int n, .int w] shp (rr 38 51 x y) σ τ := by
  have k2 := ok.1.2.2.2.1
  have hL2 := ok.1.2.1
  refine hv_enter pn_X12 rfl ?_
  have loop : ∀ (R : hS) (l1 : Option Value) res, R 64 18 = nI L → R 74 L = nI h → (∀ k, k ∉ xRq → R k = σ k) → k64 σ R → (res = if h = 0 then -2 else if w = 0 then nI (amin (R 99) h) else R 99 (amin (R 99) h)) → ∀ k i be, i + k = h → ((i = 0 ∧ be = -2) ∨ (1 ≤ i ∧ be = nI (amin (R 99) i))) → hV G (m_X12_poorest (hRq res x y σ τ)) 0 0 shp 33 [some (.ref (hgA G 64)), l1, some (.int w), some (.int be), some (.int (nI i))] [] (rr 38 51 x y) R τ := by
    intro R l1 res eL eh hR1 hR2 hres k
    induction k with
    | zero =>
      intro i be hi hq
      obtain rfl : i = h := by omega
      rcases hq with ⟨p1, rfl⟩ | ⟨p1, rfl⟩
      · rw [if_pos p1] at hres
        refine hv_iload dX12_poorest_33 rfl ?_
        refine hv_aload_n dX12_poorest_35 rfl ?_
        refine hv_getr dX12_poorest_36 fl_X12_46 (by first | rfl | assumption) rfl (by first | rfl | assumption) ?_
        refine hv_aload_n dX12_poorest_39 rfl ?_
        refine hv_geti dX12_poorest_40 fl_X12_233 (by first | rfl | assumption) rfl ?_
        refine hv_iald dX12_poorest_43 (by first | rfl | assumption) (j := L) eL (by omega) (by first | decide | assumption) ?_
        refine hv_icmp_ge (tgt := 76) dX12_poorest_44 (by decide) (fun c_44 => ?_) (fun c_44 => absurd ((by rw [eh]; exact nI_le (Nat.le_refl _) (by omega))) c_44)
        refine hv_iload_n dX12_poorest_76 rfl ?_
        refine hv_if_lt (tgt := 84) dX12_poorest_77 (by decide) (fun c_77 => ?_) (fun c_77 => absurd ((by decide)) c_77)
        refine hv_iload_n dX12_poorest_84 rfl ?_
        refine hv_goto (tgt := 94) dX12_poorest_85 (by decide) ?_
        refine hv_iret dX12_poorest_94 rfl ?_
        rw [hres]; exact ⟨rfl, rfl, rfl, hR1, hR2⟩
      · rw [if_neg (by omega)] at hres
        have hal := amin_le (R 99) i
        refine hv_iload dX12_poorest_33 rfl ?_
        refine hv_aload_n dX12_poorest_35 rfl ?_
        refine hv_getr dX12_poorest_36 fl_X12_46 (by first | rfl | assumption) rfl (by first | rfl | assumption) ?_
        refine hv_aload_n dX12_poorest_39 rfl ?_
        refine hv_geti dX12_poorest_40 fl_X12_233 (by first | rfl | assumption) rfl ?_
        refine hv_iald dX12_poorest_43 (by first | rfl | assumption) (j := L) eL (by omega) (by first | decide | assumption) ?_
        refine hv_icmp_ge (tgt := 76) dX12_poorest_44 (by decide) (fun c_44 => ?_) (fun c_44 => absurd ((by rw [eh]; exact nI_le (Nat.le_refl _) (by omega))) c_44)
        refine hv_iload_n dX12_poorest_76 rfl ?_
        refine hv_if_lt (tgt := 84) dX12_poorest_77 (by decide) (fun c_77 => absurd c_77 ((nI_pos (by omega)))) (fun c_77 => ?_)
        refine hv_iload_n dX12_poorest_80 rfl ?_
        refine hv_if_ne (tgt := 88) dX12_poorest_81 (by decide) (fun c_81 => ?_) (fun c_81 => ?_)
        · rw [if_neg c_81] at hres
          refine hv_aload_n dX12_poorest_88 rfl ?_
          refine hv_getr dX12_poorest_89 fl_X12_122 (by first | rfl | assumption) rfl (by first | rfl | assumption) ?_
          refine hv_iload_n dX12_poorest_92 rfl ?_
          refine hv_iald dX12_poorest_93 (by first | rfl | assumption) (j := amin (R 99) i) rfl (by omega) (by first | decide | assumption) ?_
          refine hv_iret dX12_poorest_94 rfl ?_
          rw [hres]; exact ⟨rfl, rfl, rfl, hR1, hR2⟩
        · rw [if_pos c_81] at hres
          refine hv_iload_n dX12_poorest_84 rfl ?_
          refine hv_goto (tgt := 94) dX12_poorest_85 (by decide) ?_
          refine hv_iret dX12_poorest_94 rfl ?_
          rw [hres]; exact ⟨rfl, rfl, rfl, hR1, hR2⟩
    | succ k ih =>
      intro i be hi hq
      rcases hq with ⟨p1, rfl⟩ | ⟨p1, rfl⟩
      · subst p1
        refine hv_iload dX12_poorest_33 rfl ?_
        refine hv_aload_n dX12_poorest_35 rfl ?_
        refine hv_getr dX12_poorest_36 fl_X12_46 (by first | rfl | assumption) rfl (by first | rfl | assumption) ?_
        refine hv_aload_n dX12_poorest_39 rfl ?_
        refine hv_geti dX12_poorest_40 fl_X12_233 (by first | rfl | assumption) rfl ?_
        refine hv_iald dX12_poorest_43 (by first | rfl | assumption) (j := L) eL (by omega) (by first | decide | assumption) ?_
        refine hv_icmp_ge (tgt := 76) dX12_poorest_44 (by decide) (fun c_44 => absurd c_44 ((by rw [eh]; exact nI_ge (by omega) (by omega)))) (fun c_44 => ?_)
        refine hv_iload_n dX12_poorest_47 rfl ?_
        refine hv_if_lt (tgt := 67) dX12_poorest_48 (by decide) (fun c_48 => ?_) (fun c_48 => absurd ((by decide)) c_48)
        refine hv_iload dX12_poorest_67 rfl ?_
        refine hv_istore_n dX12_poorest_69 rfl rfl ?_
        refine hv_iinc dX12_poorest_70 rfl (nI_1 0) rfl rfl ?_
        refine hv_goto (tgt := 33) dX12_poorest_73 (by decide) ?_
        exact ih (0 + 1) _ (by omega) (Or.inr ⟨by omega, rfl⟩)
      · have hal := amin_le (R 99) i
        have nx : amin (R 99) (i + 1) = if R 99 i < R 99 (amin (R 99) i) then i else amin (R 99) i := by rw [amin, if_neg (by omega)]
        refine hv_iload dX12_poorest_33 rfl ?_
        refine hv_aload_n dX12_poorest_35 rfl ?_
        refine hv_getr dX12_poorest_36 fl_X12_46 (by first | rfl | assumption) rfl (by first | rfl | assumption) ?_
        refine hv_aload_n dX12_poorest_39 rfl ?_
        refine hv_geti dX12_poorest_40 fl_X12_233 (by first | rfl | assumption) rfl ?_
        refine hv_iald dX12_poorest_43 (by first | rfl | assumption) (j := L) eL (by omega) (by first | decide | assumption) ?_
        refine hv_icmp_ge (tgt := 76) dX12_poorest_44 (by decide) (fun c_44 => absurd c_44 ((by rw [eh]; exact nI_ge (by omega) (by omega)))) (fun c_44 => ?_)
        refine hv_iload_n dX12_poorest_47 rfl ?_
        refine hv_if_lt (tgt := 67) dX12_poorest_48 (by decide) (fun c_48 => absurd c_48 ((nI_pos (by omega)))) (fun c_48 => ?_)
        refine hv_aload_n dX12_poorest_51 rfl ?_
        refine hv_getr dX12_poorest_52 fl_X12_122 (by first | rfl | assumption) rfl (by first | rfl | assumption) ?_
        refine hv_iload dX12_poorest_55 rfl ?_
        refine hv_iald dX12_poorest_57 (by first | rfl | assumption) rfl (by first | assumption | omega) (by first | decide | assumption) ?_
        refine hv_aload_n dX12_poorest_58 rfl ?_
        refine hv_getr dX12_poorest_59 fl_X12_122 (by first | rfl | assumption) rfl (by first | rfl | assumption) ?_
        refine hv_iload_n dX12_poorest_62 rfl ?_
        refine hv_iald dX12_poorest_63 (by first | rfl | assumption) (j := amin (R 99) i) rfl (by omega) (by first | decide | assumption) ?_
        refine hv_icmp_ge (tgt := 70) dX12_poorest_64 (by decide) (fun c_64 => ?_) (fun c_64 => ?_)
        · rw [if_neg (Int32.not_lt.mpr c_64)] at nx
          refine hv_iinc dX12_poorest_70 rfl (nI_1 i) rfl rfl ?_
          refine hv_goto (tgt := 33) dX12_poorest_73 (by decide) ?_
          exact ih (i + 1) _ (by omega) (Or.inr ⟨by omega, by rw [nx]⟩)
        · rw [if_pos (Int32.not_le.mp c_64)] at nx
          refine hv_iload dX12_poorest_67 rfl ?_
          refine hv_istore_n dX12_poorest_69 rfl rfl ?_
          refine hv_iinc dX12_poorest_70 rfl (nI_1 i) rfl rfl ?_
          refine hv_goto (tgt := 33) dX12_poorest_73 (by decide) ?_
          exact ih (i + 1) _ (by omega) (Or.inr ⟨by omega, by rw [nx]⟩)
  refine hv_iload_n dX12_poorest_0 rfl ?_
  refine hv_cs1 (d_isLong) dX12_poorest_1 ml_X12_431 mk_X12_isLong rfl rfl rfl ?_
  rintro _ _ _ _ ⟨rfl, rfl, rfl, rfl⟩
  refine hv_if_eq (tgt := 16) dX12_poorest_4 (by decide) (fun c_4 => ?_) (fun c_4 => ?_)
  · rw [if_neg (fun qq => by rw [bI_0 c_4] at qq; exact absurd qq.1 (by decide))]
    refine hv_iconst (v := -1) dX12_poorest_16 (by decide) ?_
    refine hv_iret dX12_poorest_17 rfl ?_
    exact ⟨rfl, rfl, rfl, fun _ _ => rfl, k64_rf⟩
  · refine hv_iload_n dX12_poorest_7 rfl ?_
    refine hv_iconst (v := 0) dX12_poorest_8 (by decide) ?_
    refine hv_iconst (v := 1) dX12_poorest_9 (by decide) ?_
    refine hv_cs3 (d_in) dX12_poorest_10 ml_X12_319 mk_X12_in rfl rfl rfl ?_
    rintro _ _ _ _ ⟨rfl, rfl, rfl, rfl⟩
    refine hv_if_ne (tgt := 18) dX12_poorest_13 (by decide) (fun c_13 => ?_) (fun c_13 => ?_)
    · rw [if_pos ⟨bI_1 c_4, in01.mp (bI_1 c_13)⟩]
      obtain ⟨ni, hni, rfl⟩ := inI_ix (n := 60) (by decide) (bI_1 c_4)
      rw [nI_clamp (by omega)]
      refine hv_aload_n dX12_poorest_18 rfl ?_
      refine hv_cv0 (d_copies ok.1.1 ok.1.2.1) dX12_poorest_19 ml_X12_373 mk_X12_copies (by first | rfl | assumption) rfl rfl rfl rfl rfl ?_
      rintro _ _ σ1 _ ⟨rfl, rfl, rfl, q1, q2, q3⟩
      have qc := cp_of ok q1 q2 q3
      refine hv_aload_n dX12_poorest_22 rfl ?_
      refine hv_iload_n dX12_poorest_23 rfl ?_
      refine hv_cv1 (d_goes qc.1 qc.2.1 qc.2.2.1 (by omega)) dX12_poorest_24 ml_X12_391 mk_X12_goes (by first | rfl | assumption) rfl rfl rfl rfl rfl ?_
      rintro _ _ σ2 _ ⟨rfl, rfl, rfl, q4, q5⟩
      obtain ⟨g1, g2, g3, g4, g5⟩ := go_of ok q1 qc q4 q5
      refine hv_bipush (v := -2) dX12_poorest_27 (by decide) ?_
      refine hv_istore_n dX12_poorest_29 rfl rfl ?_
      refine hv_iconst (v := 0) dX12_poorest_30 (by decide) ?_
      refine hv_istore dX12_poorest_31 rfl rfl ?_
      refine loop σ2 _ _ g2.1 g2.2.2.1 g4 g5 ?_ h 0 (-2) (by omega) (Or.inl ⟨rfl, rfl⟩)
      have e1 := amin_congr (f := dF (dyM σ2 99)) h (fun a ha => (g1.1 a ha).1)
      rw [← e1]
      by_cases hz : h = 0
      · rw [if_pos hz, if_pos hz]
      · have hal := amin_le (σ2 99) h
        rw [if_neg hz, if_neg hz, ← (g1.1 (amin (dF (dyM σ2 99)) h) (by show amin (σ2 99) h < h; omega)).1]
        rfl
    · rw [if_neg (fun qq => in01f (bI_0 c_13) qq.2)]
      refine hv_iconst (v := -1) dX12_poorest_16 (by decide) ?_
      refine hv_iret dX12_poorest_17 rfl ?_
      exact ⟨rfl, rfl, rfl, fun _ _ => rfl, k64_rf⟩
theorem d_share {L h : Nat} {LF : Nat → hF → Int32} {a : Int32} {u : Nat → Nat} (ok : okR σ L h LF) (hu : ∀ a, a < h → σ 77 (7 * L + a) = nI (u a) ∧ u a ≤ 9) : hCal G (m_X12_share (hRq (hsel h a (-1) (fun i => if 0 < hsum (tU (twM σ L h LF)) h then hsum (dF (dyM σ 98)) h * tU (twM σ L h LF) i / hsum (tU (twM σ L h LF)) h else 0)) x y σ τ)) [.ref (hgA G 64), .int a] shp (rr 38 51 x y) σ τ := by
  have k2 := ok.1.2.2.2.1
  have hL2 := ok.1.2.1
  have hUa : ∀ i, tU (twM σ L h LF) i = σ 77 (7 * L + i) := fun _ => rfl
  obtain ⟨U, hU⟩ : ∃ U, tU (twM σ L h LF) = U := ⟨_, rfl⟩
  rw [hU] at hUa
  have hsu : hsum U h = nI (nS u h) := nS_sum h (fun i hi => by rw [hUa]; exact (hu i hi).1)
  have hle : nS u h ≤ 63 := by
    have hle : ∀ n, n ≤ h → nS u n ≤ n * 9 := by
      intro n
      induction n with
      | zero => intro _; simp [nS]
      | succ n ih => intro hn; have h1 := ih (by omega); have h2 := (hu n (by omega)).2; rw [nS, Nat.succ_mul]; omega
    have := hle h (Nat.le_refl _)
    omega
  rw [hU]
  refine hv_enter pn_X12 rfl ?_
  have loop : ∀ Q (R : hS) ai, R 64 18 = nI L → R 74 L = nI h → R 77 = σ 77 → hV G (m_X12_share Q) 0 0 shp 54 [some (.ref (hgA G 64)), some (.int ai), some (.int (hsum U h)), some (.int (nI h))] [] (rr 38 51 x y) R τ → ∀ k i, i + k = h → hV G (m_X12_share Q) 0 0 shp 18 [some (.ref (hgA G 64)), some (.int ai), some (.int (hsum U i)), some (.int (nI i))] [] (rr 38 51 x y) R τ := by
    intro Q R ai eL eh e77 kk k
    induction k with
    | zero =>
      intro i hi
      obtain rfl : i = h := by omega
      refine hv_iload_n dX12_share_18 rfl ?_
      refine hv_aload_n dX12_share_19 rfl ?_
      refine hv_getr dX12_share_20 fl_X12_46 (by first | rfl | assumption) rfl (by first | rfl | assumption) ?_
      refine hv_aload_n dX12_share_23 rfl ?_
      refine hv_geti dX12_share_24 fl_X12_233 (by first | rfl | assumption) rfl ?_
      refine hv_iald dX12_share_27 (by first | rfl | assumption) (j := L) eL (by omega) (by first | decide | assumption) ?_
      refine hv_icmp_ge (tgt := 54) dX12_share_28 (by decide) (fun c_28 => ?_) (fun c_28 => absurd ((by rw [eh]; exact nI_le (Nat.le_refl _) (by omega))) c_28)
      exact kk
    | succ k ih =>
      intro i hi
      refine hv_iload_n dX12_share_18 rfl ?_
      refine hv_aload_n dX12_share_19 rfl ?_
      refine hv_getr dX12_share_20 fl_X12_46 (by first | rfl | assumption) rfl (by first | rfl | assumption) ?_
      refine hv_aload_n dX12_share_23 rfl ?_
      refine hv_geti dX12_share_24 fl_X12_233 (by first | rfl | assumption) rfl ?_
      refine hv_iald dX12_share_27 (by first | rfl | assumption) (j := L) eL (by omega) (by first | decide | assumption) ?_
      refine hv_icmp_ge (tgt := 54) dX12_share_28 (by decide) (fun c_28 => absurd c_28 ((by rw [eh]; exact nI_ge (by omega) (by omega)))) (fun c_28 => ?_)
      refine hv_iload_n dX12_share_31 rfl ?_
      refine hv_aload_n dX12_share_32 rfl ?_
      refine hv_getr dX12_share_33 fl_X12_55 (by first | rfl | assumption) rfl (by first | rfl | assumption) ?_
      refine hv_bipush (v := 7) dX12_share_36 (by decide) ?_
      refine hv_aload_n dX12_share_38 rfl ?_
      refine hv_geti dX12_share_39 fl_X12_233 (by first | rfl | assumption) rfl ?_
      refine hv_imul dX12_share_42 ?_
      refine hv_iload_n dX12_share_43 rfl ?_
      refine hv_iadd dX12_share_44 ?_
      refine hv_iald dX12_share_45 (by first | rfl | assumption) (j := 7 * L + i) (by rw [eL]; exact ix7) (by omega) (by first | decide | assumption) ?_
      rw [e77, ← hUa]
      refine hv_iadd dX12_share_46 ?_
      refine hv_istore_n dX12_share_47 rfl rfl ?_
      refine hv_iinc dX12_share_48 rfl (nI_1 i) rfl rfl ?_
      refine hv_goto (tgt := 18) dX12_share_51 (by decide) ?_
      exact ih (i + 1) (by omega)
  refine hv_aload_n dX12_share_0 rfl ?_
  refine hv_iload_n dX12_share_1 rfl ?_
  refine hv_cv1 (d_isHouse ok.1.1 ok.1.2.1 ok.1.2.2.1 k2) dX12_share_2 ml_X12_370 mk_X12_isHouse (by first | rfl | assumption) rfl rfl rfl rfl rfl ?_
  rintro _ _ _ _ ⟨rfl, rfl, rfl, rfl⟩
  refine hv_if_ne (tgt := 10) dX12_share_5 (by decide) (fun c_5 => ?_) (fun c_5 => ?_)
  · obtain ⟨ai, hai, rfl⟩ := isH_ix k2 (bI_1 c_5)
    rw [hsel_yes hai k2]
    refine hv_aload_n dX12_share_10 rfl ?_
    refine hv_cv0 (d_copies ok.1.1 ok.1.2.1) dX12_share_11 ml_X12_373 mk_X12_copies (by first | rfl | assumption) rfl rfl rfl rfl rfl ?_
    rintro _ _ σ1 _ ⟨rfl, rfl, rfl, q1, q2, q3⟩
    obtain ⟨c1, c2, c3, c4, c5, c6, c7, c8⟩ := cp_of ok q1 q2 q3
    refine hv_iconst (v := 0) dX12_share_14 (by decide) ?_
    refine hv_istore_n dX12_share_15 rfl rfl ?_
    refine hv_iconst (v := 0) dX12_share_16 (by decide) ?_
    refine hv_istore_n dX12_share_17 rfl rfl ?_
    refine loop _ σ1 _ c1.1 c1.2.2.1 (q1 77 (by decide)) ?_ h 0 (by omega)
    refine hv_iload_n dX12_share_54 rfl ?_
    refine hv_if_ne (tgt := 62) dX12_share_55 (by decide) (fun c_55 => ?_) (fun c_55 => ?_)
    · rw [if_pos (by rw [hsu]; exact nI_lt (a := 0) (Nat.pos_of_ne_zero fun qq => c_55 (by rw [hsu, qq]; rfl)) (by omega))]
      refine hv_aload_n dX12_share_62 rfl ?_
      refine hv_iconst (v := 0) dX12_share_63 (by decide) ?_
      refine hv_cv1 (d_sumOf (f := 0) (by decide)) dX12_share_64 ml_X12_330 mk_X12_sumOf (by first | rfl | assumption) rfl rfl rfl rfl rfl ?_
      rintro _ _ _ _ ⟨rfl, rfl, rfl, rfl⟩
      rw [hsum_M k2 c2, hsum_congr (f := dF (dyM σ1 99)) (g := dF (dyM σ 98)) h (fun a ha => c8 a (by omega))]
      refine hv_aload_n dX12_share_67 rfl ?_
      refine hv_getr dX12_share_68 fl_X12_55 (by first | rfl | assumption) rfl (by first | rfl | assumption) ?_
      refine hv_bipush (v := 7) dX12_share_71 (by decide) ?_
      refine hv_aload_n dX12_share_73 rfl ?_
      refine hv_geti dX12_share_74 fl_X12_233 (by first | rfl | assumption) rfl ?_
      refine hv_imul dX12_share_77 ?_
      refine hv_iload_n dX12_share_78 rfl ?_
      refine hv_iadd dX12_share_79 ?_
      refine hv_iald dX12_share_80 (by first | rfl | assumption) (j := 7 * L + ai) (by rw [c1.1]; exact ix7) (by omega) (by first | decide | assumption) ?_
      rw [q1 77 (by decide), ← hUa]
      refine hv_imul dX12_share_81 ?_
      refine hv_iload_n dX12_share_82 rfl ?_
      refine hv_idiv dX12_share_83 c_55 ?_
      refine hv_iret dX12_share_84 rfl ?_
      exact ⟨rfl, rfl, rfl, off_wk q1 (by decide), fun j j1 j2 j3 => c7 j j2⟩
    · rw [if_neg (by rw [c_55]; decide)]
      refine hv_iconst (v := 0) dX12_share_58 (by decide) ?_
      refine hv_goto (tgt := 84) dX12_share_59 (by decide) ?_
      refine hv_iret dX12_share_84 rfl ?_
      exact ⟨rfl, rfl, rfl, off_wk q1 (by decide), fun j j1 j2 j3 => c7 j j2⟩
  · rw [hsel_no (bI_0 c_5)]
    refine hv_iconst (v := -1) dX12_share_8 (by decide) ?_
    refine hv_iret dX12_share_9 rfl ?_
    exact ⟨rfl, rfl, rfl, fun _ _ => rfl, k64_rf⟩
end S57

