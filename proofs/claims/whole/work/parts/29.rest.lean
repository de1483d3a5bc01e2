/-- the byte of a word -/
def fByte (w : Int32) (k : Nat) : Int32 := (hush w (nI (24 - 8 * k))).toInt8.toInt32
def fTake (all own price : Int32) : Int32 := hmax 0 (all / 2 + 1 - own) * price
def fDealA (f c u : hF) (p : Int32) (g t : Nat) : Bool := decide (0 < f g ∧ c g < p ∧ p ≤ c t ∧ u g < u t)
/-- how many, and the first: behind the pairs of g with the first n -/
def fDl1 (D : Nat → Nat → Bool) (g : Nat) (s : Nat × Int32) : Nat → Nat × Int32
  | 0 => s
  | n + 1 => if D g n = true then ((fDl1 D g s n).1 + 1, if (fDl1 D g s n).1 = 0 then 10 * nI g + nI n else (fDl1 D g s n).2) else fDl1 D g s n
def fDl (D : Nat → Nat → Bool) (h : Nat) : Nat → Nat × Int32
  | 0 => (0, -2)
  | n + 1 => fDl1 D n (fDl D h n) h
theorem fDl1_le (D : Nat → Nat → Bool) (g : Nat) (s : Nat × Int32) : ∀ n, (fDl1 D g s n).1 ≤ s.1 + n
  | 0 => Nat.le_refl _
  | n + 1 => by
    have hq := fDl1_le D g s n
    unfold fDl1
    split
    · simp only; omega
    · omega
theorem fDl_le (D : Nat → Nat → Bool) (h : Nat) : ∀ n, (fDl D h n).1 ≤ n * h
  | 0 => by simp [fDl]
  | n + 1 => by
    have hq := fDl_le D h n
    have hq2 := fDl1_le D n (fDl D h n) h
    unfold fDl
    rw [Nat.succ_mul]
    omega
def fRuin (P : Nat → Bool) : Nat → Nat
  | 0 => 0
  | n + 1 => fRuin P n + (if P n = true then 1 else 0)
theorem fRuin_le (P : Nat → Bool) : ∀ n, fRuin P n ≤ n
  | 0 => Nat.le_refl _
  | n + 1 => by
    have hq := fRuin_le P n
    unfold fRuin
    split <;> omega
section S29
variable {G : hGl} {σ : hS} {τ : hT} {x y : Option Nat}
theorem c_buy {h sz o nn : Nat} {a b n : Int32} {P : Int32} (ok : okC σ h sz) (hs5 : σ 11 5 = nI h) (hk : okK σ o nn) (hP : P = fPrice (twC σ h sz) (dyC σ 11)) : hCal G (m_X11_buy (fun v r' σ' τ' => rr 38 51 x y = r' ∧ τ = τ' ∧ ((¬ (isH h a = true ∧ isH h b = true ∧ ¬ a = b ∧ inI 1 99 n = true) ∧ v = some (.int (-1)) ∧ σ = σ') ∨ (∃ i j, i < h ∧ j < h ∧ a = nI i ∧ b = nI j ∧ ¬ i = j ∧ inI 1 99 n = true ∧ (σ 12 j < n ∨ σ 13 i < n * P ∨ 9999 < σ 12 i + n ∨ 9999 < σ 13 j + n * P) ∧ v = some (.int (-2)) ∧ ∀ k, k ∉ [49, 50] → σ' k = σ k) ∨ (∃ i j, i < h ∧ j < h ∧ a = nI i ∧ b = nI j ∧ ¬ i = j ∧ inI 1 99 n = true ∧ ¬ (σ 12 j < n ∨ σ 13 i < n * P ∨ 9999 < σ 12 i + n ∨ 9999 < σ 13 j + n * P) ∧ v = some (.int (n * P)) ∧ (∀ k, k ∉ [12, 13, 14, 17, 18, 49, 50] → σ' k = σ k) ∧ σ' 12 = sMove j i n σ 12 ∧ σ' 14 = sMove j i n σ 14 ∧ σ' 13 = upd (upd (σ 13) i (σ 13 i - n * P)) j (σ 13 j + n * P) ∧ pKp σ o nn σ')))) [.ref (hgA G 0), .int a, .int b, .int n] shp (rr 38 51 x y) σ τ := by
  have k2 := ok.2.1
  refine hv_enter pn_X11 rfl ?_
  refine hv_aload_n dX11_buy_0 rfl ?_
  refine hv_iload_n dX11_buy_1 rfl ?_
  refine hv_cv1 (c_isHouse ok.1) dX11_buy_2 ml_X11_141 mk_X11_isHouse (by first | rfl | assumption) rfl rfl rfl rfl rfl ?_
  rintro _ _ _ _ ⟨rfl, rfl, rfl, rfl⟩
  refine hv_if_eq (tgt := 29) dX11_buy_5 (by decide) (fun c_5 => ?_) (fun c_5 => ?_)
  · refine hv_iconst (v := -1) dX11_buy_29 (by decide) ?_
    refine hv_iret dX11_buy_30 rfl ?_
    first
      | exact ⟨rfl, rfl, Or.inl ⟨fun qq => by rw [bI_0 c_26] at qq; exact absurd qq.2.2.2 (by decide), rfl, rfl⟩⟩
      | exact ⟨rfl, rfl, Or.inl ⟨fun qq => qq.2.2.1 c_18, rfl, rfl⟩⟩
      | exact ⟨rfl, rfl, Or.inl ⟨fun qq => by rw [bI_0 c_13] at qq; exact absurd qq.2.1 (by decide), rfl, rfl⟩⟩
      | exact ⟨rfl, rfl, Or.inl ⟨fun qq => by rw [bI_0 c_5] at qq; exact absurd qq.1 (by decide), rfl, rfl⟩⟩
  · refine hv_aload_n dX11_buy_8 rfl ?_
    refine hv_iload_n dX11_buy_9 rfl ?_
    refine hv_cv1 (c_isHouse ok.1) dX11_buy_10 ml_X11_141 mk_X11_isHouse (by first | rfl | assumption) rfl rfl rfl rfl rfl ?_
    rintro _ _ _ _ ⟨rfl, rfl, rfl, rfl⟩
    refine hv_if_eq (tgt := 29) dX11_buy_13 (by decide) (fun c_13 => ?_) (fun c_13 => ?_)
    · refine hv_iconst (v := -1) dX11_buy_29 (by decide) ?_
      refine hv_iret dX11_buy_30 rfl ?_
      first
        | exact ⟨rfl, rfl, Or.inl ⟨fun qq => by rw [bI_0 c_26] at qq; exact absurd qq.2.2.2 (by decide), rfl, rfl⟩⟩
        | exact ⟨rfl, rfl, Or.inl ⟨fun qq => qq.2.2.1 c_18, rfl, rfl⟩⟩
        | exact ⟨rfl, rfl, Or.inl ⟨fun qq => by rw [bI_0 c_13] at qq; exact absurd qq.2.1 (by decide), rfl, rfl⟩⟩
        | exact ⟨rfl, rfl, Or.inl ⟨fun qq => by rw [bI_0 c_5] at qq; exact absurd qq.1 (by decide), rfl, rfl⟩⟩
    · refine hv_iload_n dX11_buy_16 rfl ?_
      refine hv_iload_n dX11_buy_17 rfl ?_
      refine hv_icmp_eq (tgt := 29) dX11_buy_18 (by decide) (fun c_18 => ?_) (fun c_18 => ?_)
      · refine hv_iconst (v := -1) dX11_buy_29 (by decide) ?_
        refine hv_iret dX11_buy_30 rfl ?_
        first
          | exact ⟨rfl, rfl, Or.inl ⟨fun qq => by rw [bI_0 c_26] at qq; exact absurd qq.2.2.2 (by decide), rfl, rfl⟩⟩
          | exact ⟨rfl, rfl, Or.inl ⟨fun qq => qq.2.2.1 c_18, rfl, rfl⟩⟩
          | exact ⟨rfl, rfl, Or.inl ⟨fun qq => by rw [bI_0 c_13] at qq; exact absurd qq.2.1 (by decide), rfl, rfl⟩⟩
          | exact ⟨rfl, rfl, Or.inl ⟨fun qq => by rw [bI_0 c_5] at qq; exact absurd qq.1 (by decide), rfl, rfl⟩⟩
      · refine hv_aload_n dX11_buy_21 rfl ?_
        refine hv_iload_n dX11_buy_22 rfl ?_
        refine hv_cv1 (c_isByHand) dX11_buy_23 ml_X11_193 mk_X11_isByHand (by first | rfl | assumption) rfl rfl rfl rfl rfl ?_
        rintro _ _ _ _ ⟨rfl, rfl, rfl, rfl⟩
        refine hv_if_ne (tgt := 31) dX11_buy_26 (by decide) (fun c_26 => ?_) (fun c_26 => ?_)
        · obtain ⟨i, hi, rfl⟩ := isH_ix k2 (bI_1 c_5)
          obtain ⟨j, hj, rfl⟩ := isH_ix k2 (bI_1 c_13)
          have hij : ¬ i = j := fun qq => c_18 (by rw [qq])
          refine hv_iload_n dX11_buy_31 rfl ?_
          refine hv_aload_n dX11_buy_32 rfl ?_
          refine hv_getr dX11_buy_33 fl_X11_58 (by first | rfl | assumption) rfl (by first | rfl | assumption) ?_
          refine hv_aload_n dX11_buy_36 rfl ?_
          refine hv_getr dX11_buy_37 fl_X11_81 (by first | rfl | assumption) rfl (by first | rfl | assumption) ?_
          refine hv_aload_n dX11_buy_40 rfl ?_
          refine hv_getr dX11_buy_41 fl_X11_44 (by first | rfl | assumption) rfl (by first | rfl | assumption) ?_
          refine hv_cv2 (c_price_11 ok hs5) dX11_buy_44 ml_X11_180 mk_X2_price (by first | rfl | assumption) rfl rfl rfl rfl rfl ?_
          rintro _ _ σ0 _ ⟨rfl, rfl, rfl, hq0⟩
          rw [← hP]
          have e12 := hq0 12 (by decide)
          have e13 := hq0 13 (by decide)
          have e14 := hq0 14 (by decide)
          refine hv_imul dX11_buy_47 ?_
          refine hv_istore dX11_buy_48 rfl rfl ?_
          refine hv_aload_n dX11_buy_50 rfl ?_
          refine hv_getr dX11_buy_51 fl_X11_44 (by first | rfl | assumption) rfl (by first | rfl | assumption) ?_
          refine hv_getr dX11_buy_54 fl_X11_144 (by first | rfl | assumption) rfl (by first | rfl | assumption) ?_
          refine hv_iload_n dX11_buy_57 rfl ?_
          refine hv_iald dX11_buy_58 (by first | rfl | assumption) rfl (by first | assumption | omega) (by first | decide | assumption) ?_
          refine hv_iload_n dX11_buy_59 rfl ?_
          rw [e12]
          refine hv_icmp_lt (tgt := 112) dX11_buy_60 (by decide) (fun c_60 => ?_) (fun c_60 => ?_)
          · refine hv_bipush (v := -2) dX11_buy_112 (by decide) ?_
            refine hv_iret dX11_buy_114 rfl ?_
            first
              | exact ⟨rfl, rfl, Or.inr (Or.inl ⟨i, j, hi, hj, rfl, rfl, hij, bI_1 c_26, Or.inr (Or.inr (Or.inr (Int32.not_le.mp c_109))), rfl, hq0⟩)⟩
              | exact ⟨rfl, rfl, Or.inr (Or.inl ⟨i, j, hi, hj, rfl, rfl, hij, bI_1 c_26, Or.inr (Or.inr (Or.inl c_91)), rfl, hq0⟩)⟩
              | exact ⟨rfl, rfl, Or.inr (Or.inl ⟨i, j, hi, hj, rfl, rfl, hij, bI_1 c_26, Or.inr (Or.inl c_74), rfl, hq0⟩)⟩
              | exact ⟨rfl, rfl, Or.inr (Or.inl ⟨i, j, hi, hj, rfl, rfl, hij, bI_1 c_26, Or.inl c_60, rfl, hq0⟩)⟩
          · refine hv_aload_n dX11_buy_63 rfl ?_
            refine hv_getr dX11_buy_64 fl_X11_44 (by first | rfl | assumption) rfl (by first | rfl | assumption) ?_
            refine hv_getr dX11_buy_67 fl_X11_148 (by first | rfl | assumption) rfl (by first | rfl | assumption) ?_
            refine hv_iload_n dX11_buy_70 rfl ?_
            refine hv_iald dX11_buy_71 (by first | rfl | assumption) rfl (by first | assumption | omega) (by first | decide | assumption) ?_
            refine hv_iload dX11_buy_72 rfl ?_
            rw [e13]
            refine hv_icmp_lt (tgt := 112) dX11_buy_74 (by decide) (fun c_74 => ?_) (fun c_74 => ?_)
            · refine hv_bipush (v := -2) dX11_buy_112 (by decide) ?_
              refine hv_iret dX11_buy_114 rfl ?_
              first
                | exact ⟨rfl, rfl, Or.inr (Or.inl ⟨i, j, hi, hj, rfl, rfl, hij, bI_1 c_26, Or.inr (Or.inr (Or.inr (Int32.not_le.mp c_109))), rfl, hq0⟩)⟩
                | exact ⟨rfl, rfl, Or.inr (Or.inl ⟨i, j, hi, hj, rfl, rfl, hij, bI_1 c_26, Or.inr (Or.inr (Or.inl c_91)), rfl, hq0⟩)⟩
                | exact ⟨rfl, rfl, Or.inr (Or.inl ⟨i, j, hi, hj, rfl, rfl, hij, bI_1 c_26, Or.inr (Or.inl c_74), rfl, hq0⟩)⟩
                | exact ⟨rfl, rfl, Or.inr (Or.inl ⟨i, j, hi, hj, rfl, rfl, hij, bI_1 c_26, Or.inl c_60, rfl, hq0⟩)⟩
            · refine hv_aload_n dX11_buy_77 rfl ?_
              refine hv_getr dX11_buy_78 fl_X11_44 (by first | rfl | assumption) rfl (by first | rfl | assumption) ?_
              refine hv_getr dX11_buy_81 fl_X11_144 (by first | rfl | assumption) rfl (by first | rfl | assumption) ?_
              refine hv_iload_n dX11_buy_84 rfl ?_
              refine hv_iald dX11_buy_85 (by first | rfl | assumption) rfl (by first | assumption | omega) (by first | decide | assumption) ?_
              refine hv_iload_n dX11_buy_86 rfl ?_
              refine hv_iadd dX11_buy_87 ?_
              refine hv_sipush (v := 9999) dX11_buy_88 (by decide) ?_
              rw [e12]
              refine hv_icmp_gt (tgt := 112) dX11_buy_91 (by decide) (fun c_91 => ?_) (fun c_91 => ?_)
              · refine hv_bipush (v := -2) dX11_buy_112 (by decide) ?_
                refine hv_iret dX11_buy_114 rfl ?_
                first
                  | exact ⟨rfl, rfl, Or.inr (Or.inl ⟨i, j, hi, hj, rfl, rfl, hij, bI_1 c_26, Or.inr (Or.inr (Or.inr (Int32.not_le.mp c_109))), rfl, hq0⟩)⟩
                  | exact ⟨rfl, rfl, Or.inr (Or.inl ⟨i, j, hi, hj, rfl, rfl, hij, bI_1 c_26, Or.inr (Or.inr (Or.inl c_91)), rfl, hq0⟩)⟩
                  | exact ⟨rfl, rfl, Or.inr (Or.inl ⟨i, j, hi, hj, rfl, rfl, hij, bI_1 c_26, Or.inr (Or.inl c_74), rfl, hq0⟩)⟩
                  | exact ⟨rfl, rfl, Or.inr (Or.inl ⟨i, j, hi, hj, rfl, rfl, hij, bI_1 c_26, Or.inl c_60, rfl, hq0⟩)⟩
              · refine hv_aload_n dX11_buy_94 rfl ?_
                refine hv_getr dX11_buy_95 fl_X11_44 (by first | rfl | assumption) rfl (by first | rfl | assumption) ?_
                refine hv_getr dX11_buy_98 fl_X11_148 (by first | rfl | assumption) rfl (by first | rfl | assumption) ?_
                refine hv_iload_n dX11_buy_101 rfl ?_
                refine hv_iald dX11_buy_102 (by first | rfl | assumption) rfl (by first | assumption | omega) (by first | decide | assumption) ?_
                refine hv_iload dX11_buy_103 rfl ?_
                refine hv_iadd dX11_buy_105 ?_
                refine hv_sipush (v := 9999) dX11_buy_106 (by decide) ?_
                rw [e13]
                refine hv_icmp_le (tgt := 115) dX11_buy_109 (by decide) (fun c_109 => ?_) (fun c_109 => ?_)
                · refine hv_aload_n dX11_buy_115 rfl ?_
                  refine hv_getr dX11_buy_116 fl_X11_51 (by first | rfl | assumption) rfl (by first | rfl | assumption) ?_
                  refine hv_aload_n dX11_buy_119 rfl ?_
                  refine hv_getr dX11_buy_120 fl_X11_44 (by first | rfl | assumption) rfl (by first | rfl | assumption) ?_
                  refine hv_cv1 (c_kp (o := o) (n := nn) (by unfold okK; rw [hq0 17 (by decide)]; exact hk)) dX11_buy_123 ml_X11_196 mk_X5_keep (by first | rfl | assumption) rfl rfl rfl rfl rfl ?_
                  rintro _ _ σ1 _ ⟨rfl, rfl, rfl, hq1, hq2⟩
                  refine hv_aload_n dX11_buy_126 rfl ?_
                  refine hv_getr dX11_buy_127 fl_X11_44 (by first | rfl | assumption) rfl (by first | rfl | assumption) ?_
                  refine hv_iload_n dX11_buy_130 rfl ?_
                  refine hv_iload_n dX11_buy_131 rfl ?_
                  refine hv_iload_n dX11_buy_132 rfl ?_
                  refine hv_cv3 (c_move (by omega) (by omega)) dX11_buy_133 ml_X11_200 mk_X6_move (by first | rfl | assumption) rfl rfl rfl rfl rfl ?_
                  rintro _ _ _ _ ⟨rfl, rfl, rfl, rfl⟩
                  refine hv_aload_n dX11_buy_136 rfl ?_
                  refine hv_getr dX11_buy_137 fl_X11_44 (by first | rfl | assumption) rfl (by first | rfl | assumption) ?_
                  refine hv_getr dX11_buy_140 fl_X11_148 (by first | rfl | assumption) rfl (by first | rfl | assumption) ?_
                  refine hv_iload_n dX11_buy_143 rfl ?_
                  refine hv_dup2 dX11_buy_144 rfl rfl ?_
                  refine hv_iald dX11_buy_145 (by first | rfl | assumption) rfl (by first | assumption | omega) (by first | decide | assumption) ?_
                  refine hv_iload dX11_buy_146 rfl ?_
                  refine hv_isub dX11_buy_148 ?_
                  refine hv_iast dX11_buy_149 (by first | rfl | assumption) rfl (by first | assumption | omega) (by first | decide | assumption) ?_
                  refine hv_aload_n dX11_buy_150 rfl ?_
                  refine hv_getr dX11_buy_151 fl_X11_44 (by first | rfl | assumption) rfl (by first | rfl | assumption) ?_
                  refine hv_getr dX11_buy_154 fl_X11_148 (by first | rfl | assumption) rfl (by first | rfl | assumption) ?_
                  refine hv_iload_n dX11_buy_157 rfl ?_
                  refine hv_dup2 dX11_buy_158 rfl rfl ?_
                  refine hv_iald dX11_buy_159 (by first | rfl | assumption) rfl (by first | assumption | omega) (by first | decide | assumption) ?_
                  refine hv_iload dX11_buy_160 rfl ?_
                  refine hv_iadd dX11_buy_162 ?_
                  refine hv_iast dX11_buy_163 (by first | rfl | assumption) rfl (by first | assumption | omega) (by first | decide | assumption) ?_
                  refine hv_iload dX11_buy_164 rfl ?_
                  refine hv_iret dX11_buy_166 rfl ?_
                  have f12 : σ1 12 = σ 12 := (hq1 12 (by decide)).trans e12
                  have f13 : σ1 13 = σ 13 := (hq1 13 (by decide)).trans e13
                  have f14 : σ1 14 = σ 14 := (hq1 14 (by decide)).trans e14
                  refine ⟨rfl, rfl, Or.inr (Or.inr ⟨i, j, hi, hj, rfl, rfl, hij, bI_1 c_26, fun qq => qq.elim c_60 (fun qq => qq.elim c_74 (fun qq => qq.elim c_91 (Int32.not_lt.mpr c_109))), rfl, ?_, ?_, ?_, ?_, ?_⟩)⟩
                  · intro k hk2
                    simp only [List.mem_cons, List.not_mem_nil, or_false, not_or] at hk2
                    obtain ⟨u1, u2, u3, u4, u5, u6, u7⟩ := hk2
                    rw [hva_ne u2, hva_ne u2, sMove, hva_ne u3, hva_ne u1, hq1 k (by simp [u4, u5]), hq0 k (by simp [u6, u7])]
                  · rw [hva_ne (by decide), hva_ne (by decide)]
                    simp only [sMove, f12, f14]
                    rw [hva_ne (by decide), hup_eq, hva_ne (by decide), hup_eq]
                  · rw [hva_ne (by decide), hva_ne (by decide)]
                    simp only [sMove, f12, f14]
                    rw [hup_eq, hup_eq]
                  · have g13 : sMove j i n σ1 13 = σ 13 := by rw [sMove, hva_ne (by decide), hva_ne (by decide)]; exact f13
                    rw [hup_eq, hup_eq, g13, pk_un (fun qq => hij qq.symm)]
                  · have hq3 : pKp σ o nn σ1 := by
                      obtain ⟨⟨w1, w2, w3, w4⟩, w5, w6⟩ := hq2
                      refine ⟨⟨fun a ha => ?_, by rw [w2, hq0 11 (by decide)], by rw [w3, hq0 11 (by decide)], by rw [w4, hq0 11 (by decide)]⟩, fun j hj => by rw [w5 j hj, hq0 18 (by decide)], w6⟩
                      have w1a := w1 a ha
                      rw [e12, e13, e14, hq0 15 (by decide), hq0 16 (by decide)] at w1a
                      exact w1a
                    refine pKp_of hq3 ?_ ?_
                    · rw [hva_ne (by decide), hva_ne (by decide), sMove, hva_ne (by decide), hva_ne (by decide)]
                    · rw [hva_ne (by decide), hva_ne (by decide), sMove, hva_ne (by decide), hva_ne (by decide)]
                · refine hv_bipush (v := -2) dX11_buy_112 (by decide) ?_
                  refine hv_iret dX11_buy_114 rfl ?_
                  first
                    | exact ⟨rfl, rfl, Or.inr (Or.inl ⟨i, j, hi, hj, rfl, rfl, hij, bI_1 c_26, Or.inr (Or.inr (Or.inr (Int32.not_le.mp c_109))), rfl, hq0⟩)⟩
                    | exact ⟨rfl, rfl, Or.inr (Or.inl ⟨i, j, hi, hj, rfl, rfl, hij, bI_1 c_26, Or.inr (Or.inr (Or.inl c_91)), rfl, hq0⟩)⟩
                    | exact ⟨rfl, rfl, Or.inr (Or.inl ⟨i, j, hi, hj, rfl, rfl, hij, bI_1 c_26, Or.inr (Or.inl c_74), rfl, hq0⟩)⟩
                    | exact ⟨rfl, rfl, Or.inr (Or.inl ⟨i, j, hi, hj, rfl, rfl, hij, bI_1 c_26, Or.inl c_60, rfl, hq0⟩)⟩
        · refine hv_iconst (v := -1) dX11_buy_29 (by decide) ?_
          refine hv_iret dX11_buy_30 rfl ?_
          first
            | exact ⟨rfl, rfl, Or.inl ⟨fun qq => by rw [bI_0 c_26] at qq; exact absurd qq.2.2.2 (by decide), rfl, rfl⟩⟩
            | exact ⟨rfl, rfl, Or.inl ⟨fun qq => qq.2.2.1 c_18, rfl, rfl⟩⟩
            | exact ⟨rfl, rfl, Or.inl ⟨fun qq => by rw [bI_0 c_13] at qq; exact absurd qq.2.1 (by decide), rfl, rfl⟩⟩
            | exact ⟨rfl, rfl, Or.inl ⟨fun qq => by rw [bI_0 c_5] at qq; exact absurd qq.1 (by decide), rfl, rfl⟩⟩
theorem c_isDeal {g t : Nat} {p : Int32} (hg : g < 7) (ht : t < 7) : hCal G (m_X11_isDeal (hEq (some (.int (bI (fDealA (σ 12) (σ 13) (σ 41) p g t)))) (rr 38 51 x y) σ τ)) [.ref (hgA G 0), .int (nI g), .int (nI t), .int p] shp (rr 38 51 x y) σ τ := by
  refine hv_enter pn_X11 rfl ?_
  refine hv_aload_n dX11_isDeal_0 rfl ?_
  refine hv_getr dX11_isDeal_1 fl_X11_44 (by first | rfl | assumption) rfl (by first | rfl | assumption) ?_
  refine hv_getr dX11_isDeal_4 fl_X11_144 (by first | rfl | assumption) rfl (by first | rfl | assumption) ?_
  refine hv_iload_n dX11_isDeal_7 rfl ?_
  refine hv_iald dX11_isDeal_8 (by first | rfl | assumption) rfl (by first | assumption | omega) (by first | decide | assumption) ?_
  refine hv_if_le (tgt := 63) dX11_isDeal_9 (by decide) (fun c_9 => ?_) (fun c_9 => ?_)
  · refine hv_iconst (v := 0) dX11_isDeal_63 (by decide) ?_
    refine hv_zret dX11_isDeal_64 rfl (by first | exact Or.inl rfl | exact Or.inr rfl | assumption) ?_
    first
      | (rw [show fDealA (σ 12) (σ 13) (σ 41) p g t = true from decide_eq_true ⟨Int32.not_le.mp c_9, Int32.not_le.mp c_22, Int32.not_lt.mp c_35, Int32.not_le.mp c_56⟩]; exact ⟨rfl, rfl, rfl, rfl⟩)
      | (rw [show fDealA (σ 12) (σ 13) (σ 41) p g t = false from decide_eq_false (fun qq => Int32.not_lt.mpr c_56 qq.2.2.2)]; exact ⟨rfl, rfl, rfl, rfl⟩)
      | (rw [show fDealA (σ 12) (σ 13) (σ 41) p g t = false from decide_eq_false (fun qq => Int32.not_le.mpr c_35 qq.2.2.1)]; exact ⟨rfl, rfl, rfl, rfl⟩)
      | (rw [show fDealA (σ 12) (σ 13) (σ 41) p g t = false from decide_eq_false (fun qq => Int32.not_lt.mpr c_22 qq.2.1)]; exact ⟨rfl, rfl, rfl, rfl⟩)
      | (rw [show fDealA (σ 12) (σ 13) (σ 41) p g t = false from decide_eq_false (fun qq => Int32.not_lt.mpr c_9 qq.1)]; exact ⟨rfl, rfl, rfl, rfl⟩)
  · refine hv_aload_n dX11_isDeal_12 rfl ?_
    refine hv_getr dX11_isDeal_13 fl_X11_44 (by first | rfl | assumption) rfl (by first | rfl | assumption) ?_
    refine hv_getr dX11_isDeal_16 fl_X11_148 (by first | rfl | assumption) rfl (by first | rfl | assumption) ?_
    refine hv_iload_n dX11_isDeal_19 rfl ?_
    refine hv_iald dX11_isDeal_20 (by first | rfl | assumption) rfl (by first | assumption | omega) (by first | decide | assumption) ?_
    refine hv_iload_n dX11_isDeal_21 rfl ?_
    refine hv_icmp_ge (tgt := 63) dX11_isDeal_22 (by decide) (fun c_22 => ?_) (fun c_22 => ?_)
    · refine hv_iconst (v := 0) dX11_isDeal_63 (by decide) ?_
      refine hv_zret dX11_isDeal_64 rfl (by first | exact Or.inl rfl | exact Or.inr rfl | assumption) ?_
      first
        | (rw [show fDealA (σ 12) (σ 13) (σ 41) p g t = true from decide_eq_true ⟨Int32.not_le.mp c_9, Int32.not_le.mp c_22, Int32.not_lt.mp c_35, Int32.not_le.mp c_56⟩]; exact ⟨rfl, rfl, rfl, rfl⟩)
        | (rw [show fDealA (σ 12) (σ 13) (σ 41) p g t = false from decide_eq_false (fun qq => Int32.not_lt.mpr c_56 qq.2.2.2)]; exact ⟨rfl, rfl, rfl, rfl⟩)
        | (rw [show fDealA (σ 12) (σ 13) (σ 41) p g t = false from decide_eq_false (fun qq => Int32.not_le.mpr c_35 qq.2.2.1)]; exact ⟨rfl, rfl, rfl, rfl⟩)
        | (rw [show fDealA (σ 12) (σ 13) (σ 41) p g t = false from decide_eq_false (fun qq => Int32.not_lt.mpr c_22 qq.2.1)]; exact ⟨rfl, rfl, rfl, rfl⟩)
        | (rw [show fDealA (σ 12) (σ 13) (σ 41) p g t = false from decide_eq_false (fun qq => Int32.not_lt.mpr c_9 qq.1)]; exact ⟨rfl, rfl, rfl, rfl⟩)
    · refine hv_aload_n dX11_isDeal_25 rfl ?_
      refine hv_getr dX11_isDeal_26 fl_X11_44 (by first | rfl | assumption) rfl (by first | rfl | assumption) ?_
      refine hv_getr dX11_isDeal_29 fl_X11_148 (by first | rfl | assumption) rfl (by first | rfl | assumption) ?_
      refine hv_iload_n dX11_isDeal_32 rfl ?_
      refine hv_iald dX11_isDeal_33 (by first | rfl | assumption) rfl (by first | assumption | omega) (by first | decide | assumption) ?_
      refine hv_iload_n dX11_isDeal_34 rfl ?_
      refine hv_icmp_lt (tgt := 63) dX11_isDeal_35 (by decide) (fun c_35 => ?_) (fun c_35 => ?_)
      · refine hv_iconst (v := 0) dX11_isDeal_63 (by decide) ?_
        refine hv_zret dX11_isDeal_64 rfl (by first | exact Or.inl rfl | exact Or.inr rfl | assumption) ?_
        first
          | (rw [show fDealA (σ 12) (σ 13) (σ 41) p g t = true from decide_eq_true ⟨Int32.not_le.mp c_9, Int32.not_le.mp c_22, Int32.not_lt.mp c_35, Int32.not_le.mp c_56⟩]; exact ⟨rfl, rfl, rfl, rfl⟩)
          | (rw [show fDealA (σ 12) (σ 13) (σ 41) p g t = false from decide_eq_false (fun qq => Int32.not_lt.mpr c_56 qq.2.2.2)]; exact ⟨rfl, rfl, rfl, rfl⟩)
          | (rw [show fDealA (σ 12) (σ 13) (σ 41) p g t = false from decide_eq_false (fun qq => Int32.not_le.mpr c_35 qq.2.2.1)]; exact ⟨rfl, rfl, rfl, rfl⟩)
          | (rw [show fDealA (σ 12) (σ 13) (σ 41) p g t = false from decide_eq_false (fun qq => Int32.not_lt.mpr c_22 qq.2.1)]; exact ⟨rfl, rfl, rfl, rfl⟩)
          | (rw [show fDealA (σ 12) (σ 13) (σ 41) p g t = false from decide_eq_false (fun qq => Int32.not_lt.mpr c_9 qq.1)]; exact ⟨rfl, rfl, rfl, rfl⟩)
      · refine hv_aload_n dX11_isDeal_38 rfl ?_
        refine hv_getr dX11_isDeal_39 fl_X11_81 (by first | rfl | assumption) rfl (by first | rfl | assumption) ?_
        refine hv_getr dX11_isDeal_42 fl_X11_151 (by first | rfl | assumption) rfl (by first | rfl | assumption) ?_
        refine hv_iload_n dX11_isDeal_45 rfl ?_
        refine hv_iald dX11_isDeal_46 (by first | rfl | assumption) rfl (by first | assumption | omega) (by first | decide | assumption) ?_
        refine hv_aload_n dX11_isDeal_47 rfl ?_
        refine hv_getr dX11_isDeal_48 fl_X11_81 (by first | rfl | assumption) rfl (by first | rfl | assumption) ?_
        refine hv_getr dX11_isDeal_51 fl_X11_151 (by first | rfl | assumption) rfl (by first | rfl | assumption) ?_
        refine hv_iload_n dX11_isDeal_54 rfl ?_
        refine hv_iald dX11_isDeal_55 (by first | rfl | assumption) rfl (by first | assumption | omega) (by first | decide | assumption) ?_
        refine hv_icmp_le (tgt := 63) dX11_isDeal_56 (by decide) (fun c_56 => ?_) (fun c_56 => ?_)
        · refine hv_iconst (v := 0) dX11_isDeal_63 (by decide) ?_
          refine hv_zret dX11_isDeal_64 rfl (by first | exact Or.inl rfl | exact Or.inr rfl | assumption) ?_
          first
            | (rw [show fDealA (σ 12) (σ 13) (σ 41) p g t = true from decide_eq_true ⟨Int32.not_le.mp c_9, Int32.not_le.mp c_22, Int32.not_lt.mp c_35, Int32.not_le.mp c_56⟩]; exact ⟨rfl, rfl, rfl, rfl⟩)
            | (rw [show fDealA (σ 12) (σ 13) (σ 41) p g t = false from decide_eq_false (fun qq => Int32.not_lt.mpr c_56 qq.2.2.2)]; exact ⟨rfl, rfl, rfl, rfl⟩)
            | (rw [show fDealA (σ 12) (σ 13) (σ 41) p g t = false from decide_eq_false (fun qq => Int32.not_le.mpr c_35 qq.2.2.1)]; exact ⟨rfl, rfl, rfl, rfl⟩)
            | (rw [show fDealA (σ 12) (σ 13) (σ 41) p g t = false from decide_eq_false (fun qq => Int32.not_lt.mpr c_22 qq.2.1)]; exact ⟨rfl, rfl, rfl, rfl⟩)
            | (rw [show fDealA (σ 12) (σ 13) (σ 41) p g t = false from decide_eq_false (fun qq => Int32.not_lt.mpr c_9 qq.1)]; exact ⟨rfl, rfl, rfl, rfl⟩)
        · refine hv_iconst (v := 1) dX11_isDeal_59 (by decide) ?_
          refine hv_goto (tgt := 64) dX11_isDeal_60 (by decide) ?_
          refine hv_zret dX11_isDeal_64 rfl (by first | exact Or.inl rfl | exact Or.inr rfl | assumption) ?_
          first
            | (rw [show fDealA (σ 12) (σ 13) (σ 41) p g t = true from decide_eq_true ⟨Int32.not_le.mp c_9, Int32.not_le.mp c_22, Int32.not_lt.mp c_35, Int32.not_le.mp c_56⟩]; exact ⟨rfl, rfl, rfl, rfl⟩)
            | (rw [show fDealA (σ 12) (σ 13) (σ 41) p g t = false from decide_eq_false (fun qq => Int32.not_lt.mpr c_56 qq.2.2.2)]; exact ⟨rfl, rfl, rfl, rfl⟩)
            | (rw [show fDealA (σ 12) (σ 13) (σ 41) p g t = false from decide_eq_false (fun qq => Int32.not_le.mpr c_35 qq.2.2.1)]; exact ⟨rfl, rfl, rfl, rfl⟩)
            | (rw [show fDealA (σ 12) (σ 13) (σ 41) p g t = false from decide_eq_false (fun qq => Int32.not_lt.mpr c_22 qq.2.1)]; exact ⟨rfl, rfl, rfl, rfl⟩)
            | (rw [show fDealA (σ 12) (σ 13) (σ 41) p g t = false from decide_eq_false (fun qq => Int32.not_lt.mpr c_9 qq.1)]; exact ⟨rfl, rfl, rfl, rfl⟩)
theorem c_ruin {h sz : Nat} {a n s : Int32} (ok : okC σ h sz) (hs5 : σ 11 5 = nI h) : hCal G (m_X11_ruin (hQx xQ (some (.int (if isH h a = true ∧ inI 0 60 n = true ∧ inI 1 20 s = true then nI (fRuin (fun i => decide (dF (fDays (twC σ h sz) (fGl (twC σ h sz) (σ 38 12 + nI i)) n.toNatClampNeg (dyC σ 11)) a.toNatClampNeg = 0)) s.toNatClampNeg) else -1))) (rr 38 51 x y) σ τ)) [.ref (hgA G 0), .int a, .int n, .int s] shp (rr 38 51 x y) σ τ := by
  have k2 := ok.2.1
  refine hv_enter pn_X11 rfl ?_
  have loop : ∀ ai ni, ai < h → ni ≤ 60 → ∀ (m k i ru : Nat) (σ' : hS) (res : Int32), i + k = m → m ≤ 20 → (∀ c, c ∉ xQ → σ' c = σ c) → ru = fRuin (fun i => decide (dF (fDays (twC σ h sz) (fGl (twC σ h sz) (σ 38 12 + nI i)) ni (dyC σ 11)) ai = 0)) i → res = nI (fRuin (fun i => decide (dF (fDays (twC σ h sz) (fGl (twC σ h sz) (σ 38 12 + nI i)) ni (dyC σ 11)) ai = 0)) m) → hV G (m_X11_ruin (hQx xQ (some (.int res)) (rr 38 51 x y) σ τ)) 0 0 shp 35 [some (.ref (hgA G 0)), some (.int (nI ai)), some (.int (nI ni)), some (.int (nI m)), some (.int (nI ru)), some (.int (nI i))] [] (rr 38 51 x y) σ' τ := by
    intro ai ni hai hni m k
    induction k with
    | zero =>
      intro i ru σ' res hi hm hσ hru hres
      obtain rfl : i = m := by omega
      refine hv_iload dX11_ruin_35 rfl ?_
      refine hv_iload_n dX11_ruin_37 rfl ?_
      refine hv_icmp_ge (tgt := 84) dX11_ruin_38 (by decide) (fun c_38 => ?_) (fun c_38 => absurd ((nI_le (Nat.le_refl _) (by omega))) c_38)
      refine hv_iload dX11_ruin_84 rfl ?_
      refine hv_iret dX11_ruin_86 rfl ?_
      rw [hres, ← hru]; exact ⟨rfl, rfl, rfl, hσ⟩
    | succ k ih =>
      intro i ru σ' res hi hm hσ hru hres
      have hrl : ru ≤ i := by rw [hru]; exact fRuin_le _ _
      have e38 : σ' 38 = σ 38 := hσ 38 (by decide)
      refine hv_iload dX11_ruin_35 rfl ?_
      refine hv_iload_n dX11_ruin_37 rfl ?_
      refine hv_icmp_ge (tgt := 84) dX11_ruin_38 (by decide) (fun c_38 => absurd c_38 ((nI_ge (by omega) (by omega)))) (fun c_38 => ?_)
      refine hv_aload_n dX11_ruin_41 rfl ?_
      refine hv_getr dX11_ruin_42 fl_X11_58 (by first | rfl | assumption) rfl (by first | rfl | assumption) ?_
      refine hv_aload_n dX11_ruin_45 rfl ?_
      refine hv_getr dX11_ruin_46 fl_X11_81 (by first | rfl | assumption) rfl (by first | rfl | assumption) ?_
      refine hv_aload_n dX11_ruin_49 rfl ?_
      refine hv_getr dX11_ruin_50 fl_X11_44 (by first | rfl | assumption) rfl (by first | rfl | assumption) ?_
      refine hv_iload_n dX11_ruin_53 rfl ?_
      refine hv_aload_n dX11_ruin_54 rfl ?_
      refine hv_getr dX11_ruin_55 fl_X11_81 (by first | rfl | assumption) rfl (by first | rfl | assumption) ?_
      refine hv_geti dX11_ruin_58 fl_X11_220 (by first | rfl | assumption) rfl ?_
      refine hv_iload dX11_ruin_61 rfl ?_
      rw [e38]
      refine hv_iadd dX11_ruin_63 ?_
      refine hv_cv4 (c_after (okC_of ok hσ rfl) (by rw [hσ 11 (by decide)]; exact hs5) (by omega)) dX11_ruin_64 ml_X11_323 mk_X2_after (by first | rfl | assumption) rfl rfl rfl rfl rfl ?_
      rintro _ _ σ1 _ ⟨rfl, rfl, rfl, hq1, hq2, hq3⟩
      rw [twC_of hσ rfl, dyC_of hσ rfl] at hq2
      have hq4 : ∀ c, c ∉ xQ → σ1 c = σ c := off_tr hσ hq1 (by decide) (by decide)
      refine hv_getr dX11_ruin_67 fl_X11_144 (by first | rfl | assumption) rfl (by first | rfl | assumption) ?_
      refine hv_iload_n dX11_ruin_70 rfl ?_
      refine hv_iald dX11_ruin_71 (by first | rfl | assumption) rfl (by first | assumption | omega) (by first | decide | assumption) ?_
      rw [show σ1 23 ai = _ from (hq2.1 ai hai).1]
      refine hv_if_ne (tgt := 78) dX11_ruin_72 (by decide) (fun c_72 => ?_) (fun c_72 => ?_)
      · refine hv_iinc dX11_ruin_78 rfl (nI_1 i) rfl rfl ?_
        refine hv_goto (tgt := 35) dX11_ruin_81 (by decide) ?_
        first
          | exact ih (i + 1) (ru + 1) σ1 res (by omega) hm hq4 (by rw [fRuin, ← hru, if_pos (decide_eq_true c_72)]) hres
          | exact ih (i + 1) ru σ1 res (by omega) hm hq4 (by rw [fRuin, ← hru, if_neg (by rw [decide_eq_false c_72]; decide)]; rfl) hres
      · refine hv_iinc dX11_ruin_75 rfl (nI_1 ru) rfl rfl ?_
        refine hv_iinc dX11_ruin_78 rfl (nI_1 i) rfl rfl ?_
        refine hv_goto (tgt := 35) dX11_ruin_81 (by decide) ?_
        first
          | exact ih (i + 1) (ru + 1) σ1 res (by omega) hm hq4 (by rw [fRuin, ← hru, if_pos (decide_eq_true c_72)]) hres
          | exact ih (i + 1) ru σ1 res (by omega) hm hq4 (by rw [fRuin, ← hru, if_neg (by rw [decide_eq_false c_72]; decide)]; rfl) hres
  refine hv_aload_n dX11_ruin_0 rfl ?_
  refine hv_iload_n dX11_ruin_1 rfl ?_
  refine hv_cv1 (c_isHouse ok.1) dX11_ruin_2 ml_X11_141 mk_X11_isHouse (by first | rfl | assumption) rfl rfl rfl rfl rfl ?_
  rintro _ _ _ _ ⟨rfl, rfl, rfl, rfl⟩
  refine hv_if_eq (tgt := 27) dX11_ruin_5 (by decide) (fun c_5 => ?_) (fun c_5 => ?_)
  · rw [if_neg (fun qq => by rw [bI_0 c_5] at qq; exact absurd qq.1 (by decide))]
    refine hv_iconst (v := -1) dX11_ruin_27 (by decide) ?_
    refine hv_iret dX11_ruin_28 rfl ?_
    exact ⟨rfl, rfl, rfl, fun _ _ => rfl⟩
  · refine hv_aload_n dX11_ruin_8 rfl ?_
    refine hv_iload_n dX11_ruin_9 rfl ?_
    refine hv_cv1 (c_isSpan) dX11_ruin_10 ml_X11_217 mk_X11_isSpan (by first | rfl | assumption) rfl rfl rfl rfl rfl ?_
    rintro _ _ _ _ ⟨rfl, rfl, rfl, rfl⟩
    refine hv_if_eq (tgt := 27) dX11_ruin_13 (by decide) (fun c_13 => ?_) (fun c_13 => ?_)
    · rw [if_neg (fun qq => by rw [bI_0 c_13] at qq; exact absurd qq.2.1 (by decide))]
      refine hv_iconst (v := -1) dX11_ruin_27 (by decide) ?_
      refine hv_iret dX11_ruin_28 rfl ?_
      exact ⟨rfl, rfl, rfl, fun _ _ => rfl⟩
    · refine hv_iload_n dX11_ruin_16 rfl ?_
      refine hv_iconst (v := 1) dX11_ruin_17 (by decide) ?_
      refine hv_icmp_lt (tgt := 27) dX11_ruin_18 (by decide) (fun c_18 => ?_) (fun c_18 => ?_)
      · rw [if_neg (fun qq => Int32.not_lt.mpr (of_decide_eq_true qq.2.2).1 c_18)]
        refine hv_iconst (v := -1) dX11_ruin_27 (by decide) ?_
        refine hv_iret dX11_ruin_28 rfl ?_
        exact ⟨rfl, rfl, rfl, fun _ _ => rfl⟩
      · refine hv_iload_n dX11_ruin_21 rfl ?_
        refine hv_bipush (v := 20) dX11_ruin_22 (by decide) ?_
        refine hv_icmp_le (tgt := 29) dX11_ruin_24 (by decide) (fun c_24 => ?_) (fun c_24 => ?_)
        · rw [if_pos ⟨bI_1 c_5, bI_1 c_13, decide_eq_true ⟨Int32.not_lt.mp c_18, c_24⟩⟩]
          obtain ⟨ai, hai, rfl⟩ := isH_ix k2 (bI_1 c_5)
          obtain ⟨ni, hni, rfl⟩ := inI_ix (n := 60) (by decide) (bI_1 c_13)
          obtain ⟨si, hsi, rfl⟩ := inI_ix (n := 20) (a := s) (by decide) (decide_eq_true ⟨Int32.le_trans (by decide) (Int32.not_lt.mp c_18), c_24⟩)
          rw [nI_clamp (by omega), nI_clamp (by omega), nI_clamp (by omega)]
          refine hv_iconst (v := 0) dX11_ruin_29 (by decide) ?_
          refine hv_istore dX11_ruin_30 rfl rfl ?_
          refine hv_iconst (v := 0) dX11_ruin_32 (by decide) ?_
          refine hv_istore dX11_ruin_33 rfl rfl ?_
          exact loop ai ni hai hni si si 0 0 σ _ (by omega) hsi (fun _ _ => rfl) rfl rfl
        · rw [if_neg (fun qq => c_24 (of_decide_eq_true qq.2.2).2)]
          refine hv_iconst (v := -1) dX11_ruin_27 (by decide) ?_
          refine hv_iret dX11_ruin_28 rfl ?_
          exact ⟨rfl, rfl, rfl, fun _ _ => rfl⟩
end S29

