/-- the class's draft holds what is told -/
def clsS (f : hF) (n : Nat) (S : hSm) (σ : hS) : Prop := nmC f n S σ ∧ σ 51 8 = nI (sR S) ∧ sR S ≤ 16 ∧ (∀ i, i < sH S → σ 52 i = nI (sFi S i) ∧ σ 53 i = nI (sCo S i) ∧ σ 54 i = nI (sHu S i) ∧ σ 55 i = nI (sFe S i) ∧ σ 56 i = nI (sHe S i)) ∧ (∀ i, i < sM S → σ 57 i = nI (sSu S i)) ∧ σ 51 10 = nI (sSa S) ∧ σ 51 11 = nI (sOd S) ∧ σ 51 12 = nI (sSe S)
/-- the numbers are as told -/
def okS (S : hSm) : Prop := sH S ≤ 7 ∧ sR S ≤ 16 ∧ sM S ≤ 5 ∧ (∀ i, i < sH S → sFi S i ≤ 99 ∧ sCo S i ≤ 999 ∧ sHu S i ≤ 9 ∧ sFe S i ≤ 9 ∧ sHe S i < 2 ^ sH S) ∧ (∀ i, i < sM S → sSu S i < 2 ^ sH S) ∧ sSa S ≤ 999 ∧ sOd S ≤ 100 ∧ sSe S ≤ 9999
def pSm (f : hF) (n : Nat) (R : Sum (Nat × Nat) hSm) (σ' : hS) : Prop := match R with
  | .inl e => tSt (some e) σ'
  | .inr S => tSt none σ' ∧ clsS f n S σ'
abbrev xTl : List Nat := [8, 9, 10, 51, 52, 53, 54, 55, 56, 57]
theorem supX_lt {D : Nat → Nat} {S : hSm} (hH : sH S ≤ 7) : ∀ k j m q, m < 2 ^ sH S → supX D S k j m = .inr q → q < 2 ^ sH S
  | 0, j, m, q, hm, h => by cases h; exact hm
  | k + 1, j, m, q, hm, h => by
    unfold supX at h
    cases hf : fnd D (sHn S) (D j) (sH S) with
    | none => rw [hf] at h; cases h
    | some a =>
      rw [hf] at h
      dsimp only at h
      split at h
      · cases h
      · exact supX_lt hH k (j + 1) _ q (or_lt_pow hm (fnd_lt _ a hf).1) h
theorem pow_mono {a h h2 : Nat} (q : a < 2 ^ h) (hh : h ≤ h2) : a < 2 ^ h2 := Nat.lt_of_lt_of_le q (Nat.pow_le_pow_right (by decide) hh)
theorem smTell_ok {K V D : Nat → Nat} {S S' : hSm} {s e : Nat} (h : okS S) (hh : K s = 0 → sH S < 7) (hr : K s = 1 → sR S < 16) (hm : K s = 2 → sM S < 5) (hS : smTell K V D S s e = .inr S') : okS S' ∧ sH S' = cnt K 0 (sH S) s ∧ sR S' = cnt K 1 (sR S) s ∧ sM S' = cnt K 2 (sM S) s := by
  obtain ⟨o1, o2, o3, o4, o5, o6, o7, o8⟩ := h
  unfold smTell at hS
  unfold cnt
  split at hS
  · rename_i k0
    have hh := hh k0
    rw [if_pos k0, if_neg (by omega), if_neg (by omega)]
    unfold smHouse at hS
    split at hS
    · cases hS
    · split at hS
      · cases hS
      · split at hS
        · cases hS
        · split at hS
          · cases hS
          · split at hS
            · cases hS
            · cases hS
              refine ⟨⟨show sH S + 1 ≤ 7 by omega, o2, o3, fun i hi => ?_, fun i hi => pow_mono (o5 i hi) (Nat.le_succ _), o6, o7, o8⟩, rfl, rfl, rfl⟩
              have hi2 : i < sH S + 1 := hi
              show upN (sFi S) (sH S) (V (s + 2)) i ≤ 99 ∧ upN (sCo S) (sH S) (V (s + 3)) i ≤ 999 ∧ upN (sHu S) (sH S) (V (s + 4)) i ≤ 9 ∧ upN (sFe S) (sH S) (V (s + 5)) i ≤ 9 ∧ upN (sHe S) (sH S) 0 i < 2 ^ (sH S + 1)
              by_cases c : i = sH S
              · subst c
                rw [upN_eq, upN_eq, upN_eq, upN_eq, upN_eq]
                exact ⟨by omega, by omega, by omega, by omega, Nat.two_pow_pos _⟩
              · rw [upN_ne c, upN_ne c, upN_ne c, upN_ne c, upN_ne c]
                obtain ⟨p1, p2, p3, p4, p5⟩ := o4 i (by omega)
                exact ⟨p1, p2, p3, p4, pow_mono p5 (Nat.le_succ _)⟩
  · rename_i k0
    rw [if_neg k0]
    split at hS
    · rename_i k1
      have hr := hr k1
      rw [if_pos k1, if_neg (by omega)]
      unfold smHears at hS
      split at hS
      · cases hS
      · rename_i a ha
        split at hS
        · cases hS
        · rename_i b hb
          split at hS
          · cases hS
          · cases hS
            refine ⟨⟨o1, show sR S + 1 ≤ 16 by omega, o3, fun i hi => ?_, o5, o6, o7, o8⟩, rfl, rfl, rfl⟩
            obtain ⟨p1, p2, p3, p4, p5⟩ := o4 i hi
            refine ⟨p1, p2, p3, p4, ?_⟩
            show upN (sHe S) a (sHe S a ||| 2 ^ b) i < 2 ^ sH S
            by_cases c : i = a
            · subst c; rw [upN_eq]; exact or_lt_pow p5 (fnd_lt _ b hb).1
            · rw [upN_ne c]; exact p5
    · rename_i k1
      rw [if_neg k1]
      split at hS
      · rename_i k2
        have hm := hm k2
        rw [if_pos k2]
        unfold smMotion at hS
        split at hS
        · cases hS
        · split at hS
          · cases hS
          · rename_i m hm2
            cases hS
            refine ⟨⟨o1, o2, show sM S + 1 ≤ 5 by omega, o4, fun i hi => ?_, o6, o7, o8⟩, rfl, rfl, rfl⟩
            have hi2 : i < sM S + 1 := hi
            show upN (sSu S) (sM S) m i < 2 ^ sH S
            by_cases c : i = sM S
            · subst c; rw [upN_eq]; exact supX_lt o1 _ _ 0 m (Nat.two_pow_pos _) hm2
            · rw [upN_ne c]; exact o5 i (by omega)
      · rename_i k2
        rw [if_neg k2]
        split at hS
        · split at hS
          · cases hS
          · cases hS; exact ⟨⟨o1, o2, o3, o4, o5, by show V (s + 1) ≤ 999; omega, o7, o8⟩, rfl, rfl, rfl⟩
        · split at hS
          · split at hS
            · cases hS
            · cases hS; exact ⟨⟨o1, o2, o3, o4, o5, o6, by show V (s + 1) ≤ 100; omega, o8⟩, rfl, rfl, rfl⟩
          · split at hS
            · split at hS
              · cases hS
              · cases hS; exact ⟨⟨o1, o2, o3, o4, o5, o6, o7, by show V (s + 1) ≤ 9999; omega⟩, rfl, rfl, rfl⟩
            · cases hS; exact ⟨⟨o1, o2, o3, o4, o5, o6, o7, o8⟩, rfl, rfl, rfl⟩
section S84
variable {G : hGl} {σ : hS} {τ : hT} {x : Option Nat}
theorem c_fillHouse {f : hF} {n s : Nat} {S : hSm} (ht : tlC f n σ) (hc : clsS f n S σ) (hh : sH S < 7) (h4 : σ 8 4 = nI s) (hs : tSt none σ) (hr : ∀ j, s ≤ j → j ≤ s + 5 → rel f n j) (hk : kd f n (s + 1) = 23 ∧ kd f n (s + 2) = 24 ∧ kd f n (s + 3) = 24 ∧ kd f n (s + 4) = 24 ∧ kd f n (s + 5) = 24) : hCal G (m_X8_fillHouse (hQp xTl none (rr 38 51 x (some 51)) σ τ (fun σ' => k8 σ σ' ∧ pSm f n (smHouse (vl f n) (dg f n) S s) σ'))) [.ref (hgA G 8)] shp (rr 38 51 x (some 51)) σ τ := by
  have hcc := hc
  obtain ⟨⟨n1, n2, n3, n4, n5, n6⟩, c2, c3, c4, c5, c6, c7, c8⟩ := hc
  obtain ⟨k1, k2, k3, k4, k5⟩ := hk
  have hr5 := (hr (s + 5) (by omega) (by omega)).1
  refine hv_enter pn_X8 rfl ?_
  refine hv_aload_n dX8_fillHouse_0 rfl ?_
  refine hv_getr dX8_fillHouse_1 fl_X8_22 (by first | rfl | assumption) rfl (by first | rfl | assumption) ?_
  refine hv_geti dX8_fillHouse_4 fl_X8_84 (by first | rfl | assumption) rfl ?_
  refine hv_istore_n dX8_fillHouse_7 rfl rfl ?_
  rw [n1]
  refine hv_iload_n dX8_fillHouse_8 rfl ?_
  refine hv_bipush (v := 7) dX8_fillHouse_9 (by decide) ?_
  refine hv_icmp_lt (tgt := 15) dX8_fillHouse_11 (by decide) (fun c_11 => ?_) (fun c_11 => absurd ((nI_lt (b := 7) hh (by decide))) c_11)
  refine hv_aload_n dX8_fillHouse_15 rfl ?_
  refine hv_aload_n dX8_fillHouse_16 rfl ?_
  refine hv_geti dX8_fillHouse_17 fl_X8_26 (by first | rfl | assumption) rfl ?_
  refine hv_iconst (v := 1) dX8_fillHouse_20 (by decide) ?_
  refine hv_iadd dX8_fillHouse_21 ?_
  rw [h4, nI_1]
  refine hv_cv1 (c_checkNewName (S := S) ht hcc.1 (hr (s + 1) (by omega) (by omega)) k1 hs) dX8_fillHouse_22 ml_X8_87 mk_X8_checkNewName (by first | rfl | assumption) rfl rfl rfl rfl rfl ?_
  rintro _ _ σ1 _ ⟨rfl, rfl, rfl, a1, a2, a3⟩
  have t1 := tlC_of ht a1 rfl
  have e1 : σ1 8 4 = nI s := by rw [a2 4 (by decide) (by decide)]; exact h4
  refine hv_aload_n dX8_fillHouse_25 rfl ?_
  refine hv_getr dX8_fillHouse_26 fl_X8_9 (by first | rfl | assumption) rfl (by first | rfl | assumption) ?_
  refine hv_iload_n dX8_fillHouse_29 rfl ?_
  refine hv_aload_n dX8_fillHouse_30 rfl ?_
  refine hv_geti dX8_fillHouse_31 fl_X8_26 (by first | rfl | assumption) rfl ?_
  refine hv_iconst (v := 1) dX8_fillHouse_34 (by decide) ?_
  refine hv_iadd dX8_fillHouse_35 ?_
  rw [e1, nI_1]
  refine hv_iast dX8_fillHouse_36 (by first | rfl | assumption) (j := sH S) rfl (by omega) (by first | decide | assumption) ?_
  obtain ⟨σ2, hσ2⟩ : ∃ σ2 : hS, va_up σ1 9 (upd (σ1 9) (sH S) (nI (s + 1))) = σ2 := ⟨_, rfl⟩
  rw [hσ2]
  have b1 : ∀ c, c ∉ [9] → σ2 c = σ1 c := fun c hc => by rw [← hσ2]; exact hva_ne (by simpa using hc)
  have b2 : σ2 9 = upd (σ1 9) (sH S) (nI (s + 1)) := by rw [← hσ2, hup_eq]
  refine hv_aload_n dX8_fillHouse_37 rfl ?_
  refine hv_getr dX8_fillHouse_38 fl_X8_22 (by first | rfl | assumption) rfl (by first | rfl | assumption) ?_
  refine hv_getr dX8_fillHouse_41 fl_X8_90 (by first | rfl | assumption) rfl (by first | rfl | assumption) ?_
  refine hv_iload_n dX8_fillHouse_44 rfl ?_
  refine hv_aload_n dX8_fillHouse_45 rfl ?_
  refine hv_aload_n dX8_fillHouse_46 rfl ?_
  refine hv_geti dX8_fillHouse_47 fl_X8_26 (by first | rfl | assumption) rfl ?_
  refine hv_iconst (v := 2) dX8_fillHouse_50 (by decide) ?_
  refine hv_iadd dX8_fillHouse_51 ?_
  refine hv_bipush (v := 99) dX8_fillHouse_52 (by decide) ?_
  rw [show σ2 8 4 = nI s by rw [b1 8 (by decide)]; exact e1, show nI s + 2 = nI (s + 2) from nI_add s 2]
  refine hv_cv2 (c_number2 (i := s + 2) (most := 99) (tlC_of t1 b1 rfl) (hr (s + 2) (by omega) (by omega)) k2 (by decide) (tSt_of a3 (b1 8 (by decide)))) dX8_fillHouse_54 ml_X8_62 mk_X8_number (by first | rfl | assumption) rfl rfl rfl rfl rfl ?_
  rintro _ _ σ3 _ ⟨rfl, rfl, rfl, d1, d2, d3⟩
  refine hv_iast dX8_fillHouse_57 (by first | rfl | assumption) (j := sH S) rfl (by omega) (by first | decide | assumption) ?_
  obtain ⟨σ4, hσ4⟩ : ∃ σ4 : hS, va_up σ3 52 (upd (σ3 52) (sH S) (nI (vl f n (s + 2)))) = σ4 := ⟨_, rfl⟩
  rw [hσ4]
  have g1 : ∀ c, c ∉ [52] → σ4 c = σ3 c := fun c hc => by rw [← hσ4]; exact hva_ne (by simpa using hc)
  have g2 : σ4 52 = upd (σ3 52) (sH S) (nI (vl f n (s + 2))) := by rw [← hσ4, hup_eq]
  have t4 := tlC_of (tlC_of (tlC_of t1 b1 rfl) d1 rfl) g1 rfl
  have e4 : σ4 8 4 = nI s := by rw [g1 8 (by decide), d2 4 (by decide) (by decide), b1 8 (by decide)]; exact e1
  refine hv_aload_n dX8_fillHouse_58 rfl ?_
  refine hv_getr dX8_fillHouse_59 fl_X8_22 (by first | rfl | assumption) rfl (by first | rfl | assumption) ?_
  refine hv_getr dX8_fillHouse_62 fl_X8_93 (by first | rfl | assumption) rfl (by first | rfl | assumption) ?_
  refine hv_iload_n dX8_fillHouse_65 rfl ?_
  refine hv_aload_n dX8_fillHouse_66 rfl ?_
  refine hv_aload_n dX8_fillHouse_67 rfl ?_
  refine hv_geti dX8_fillHouse_68 fl_X8_26 (by first | rfl | assumption) rfl ?_
  refine hv_iconst (v := 3) dX8_fillHouse_71 (by decide) ?_
  refine hv_iadd dX8_fillHouse_72 ?_
  refine hv_sipush (v := 999) dX8_fillHouse_73 (by decide) ?_
  rw [e4, show nI s + 3 = nI (s + 3) from nI_add s 3]
  refine hv_cv2 (c_number2 (i := s + 3) (most := 999) t4 (hr (s + 3) (by omega) (by omega)) k3 (by decide) (tSt_of d3 (g1 8 (by decide)))) dX8_fillHouse_76 ml_X8_62 mk_X8_number (by first | rfl | assumption) rfl rfl rfl rfl rfl ?_
  rintro _ _ σ5 _ ⟨rfl, rfl, rfl, i1, i2, i3⟩
  refine hv_iast dX8_fillHouse_79 (by first | rfl | assumption) (j := sH S) rfl (by omega) (by first | decide | assumption) ?_
  obtain ⟨σ6, hσ6⟩ : ∃ σ6 : hS, va_up σ5 53 (upd (σ5 53) (sH S) (nI (vl f n (s + 3)))) = σ6 := ⟨_, rfl⟩
  rw [hσ6]
  have j1 : ∀ c, c ∉ [53] → σ6 c = σ5 c := fun c hc => by rw [← hσ6]; exact hva_ne (by simpa using hc)
  have j2 : σ6 53 = upd (σ5 53) (sH S) (nI (vl f n (s + 3))) := by rw [← hσ6, hup_eq]
  have t6 := tlC_of (tlC_of t4 i1 rfl) j1 rfl
  have e6 : σ6 8 4 = nI s := by rw [j1 8 (by decide), i2 4 (by decide) (by decide)]; exact e4
  refine hv_aload_n dX8_fillHouse_80 rfl ?_
  refine hv_getr dX8_fillHouse_81 fl_X8_22 (by first | rfl | assumption) rfl (by first | rfl | assumption) ?_
  refine hv_getr dX8_fillHouse_84 fl_X8_96 (by first | rfl | assumption) rfl (by first | rfl | assumption) ?_
  refine hv_iload_n dX8_fillHouse_87 rfl ?_
  refine hv_aload_n dX8_fillHouse_88 rfl ?_
  refine hv_aload_n dX8_fillHouse_89 rfl ?_
  refine hv_geti dX8_fillHouse_90 fl_X8_26 (by first | rfl | assumption) rfl ?_
  refine hv_iconst (v := 4) dX8_fillHouse_93 (by decide) ?_
  refine hv_iadd dX8_fillHouse_94 ?_
  refine hv_bipush (v := 9) dX8_fillHouse_95 (by decide) ?_
  rw [e6, show nI s + 4 = nI (s + 4) from nI_add s 4]
  refine hv_cv2 (c_number2 (i := s + 4) (most := 9) t6 (hr (s + 4) (by omega) (by omega)) k4 (by decide) (tSt_of i3 (j1 8 (by decide)))) dX8_fillHouse_97 ml_X8_62 mk_X8_number (by first | rfl | assumption) rfl rfl rfl rfl rfl ?_
  rintro _ _ σ7 _ ⟨rfl, rfl, rfl, l1, l2, l3⟩
  refine hv_iast dX8_fillHouse_100 (by first | rfl | assumption) (j := sH S) rfl (by omega) (by first | decide | assumption) ?_
  obtain ⟨σ8, hσ8⟩ : ∃ σ8 : hS, va_up σ7 54 (upd (σ7 54) (sH S) (nI (vl f n (s + 4)))) = σ8 := ⟨_, rfl⟩
  rw [hσ8]
  have m1 : ∀ c, c ∉ [54] → σ8 c = σ7 c := fun c hc => by rw [← hσ8]; exact hva_ne (by simpa using hc)
  have m2 : σ8 54 = upd (σ7 54) (sH S) (nI (vl f n (s + 4))) := by rw [← hσ8, hup_eq]
  have t8 := tlC_of (tlC_of t6 l1 rfl) m1 rfl
  have e8 : σ8 8 4 = nI s := by rw [m1 8 (by decide), l2 4 (by decide) (by decide)]; exact e6
  refine hv_aload_n dX8_fillHouse_101 rfl ?_
  refine hv_getr dX8_fillHouse_102 fl_X8_22 (by first | rfl | assumption) rfl (by first | rfl | assumption) ?_
  refine hv_getr dX8_fillHouse_105 fl_X8_99 (by first | rfl | assumption) rfl (by first | rfl | assumption) ?_
  refine hv_iload_n dX8_fillHouse_108 rfl ?_
  refine hv_aload_n dX8_fillHouse_109 rfl ?_
  refine hv_aload_n dX8_fillHouse_110 rfl ?_
  refine hv_geti dX8_fillHouse_111 fl_X8_26 (by first | rfl | assumption) rfl ?_
  refine hv_iconst (v := 5) dX8_fillHouse_114 (by decide) ?_
  refine hv_iadd dX8_fillHouse_115 ?_
  refine hv_bipush (v := 9) dX8_fillHouse_116 (by decide) ?_
  rw [e8, show nI s + 5 = nI (s + 5) from nI_add s 5]
  refine hv_cv2 (c_number2 (i := s + 5) (most := 9) t8 (hr (s + 5) (by omega) (by omega)) k5 (by decide) (tSt_of l3 (m1 8 (by decide)))) dX8_fillHouse_118 ml_X8_62 mk_X8_number (by first | rfl | assumption) rfl rfl rfl rfl rfl ?_
  rintro _ _ σ9 _ ⟨rfl, rfl, rfl, p1, p2, p3⟩
  refine hv_iast dX8_fillHouse_121 (by first | rfl | assumption) (j := sH S) rfl (by omega) (by first | decide | assumption) ?_
  refine hv_aload_n dX8_fillHouse_122 rfl ?_
  refine hv_getr dX8_fillHouse_123 fl_X8_22 (by first | rfl | assumption) rfl (by first | rfl | assumption) ?_
  refine hv_getr dX8_fillHouse_126 fl_X8_102 (by first | rfl | assumption) rfl (by first | rfl | assumption) ?_
  refine hv_iload_n dX8_fillHouse_129 rfl ?_
  refine hv_iconst (v := 0) dX8_fillHouse_130 (by decide) ?_
  refine hv_iast dX8_fillHouse_131 (by first | rfl | assumption) (j := sH S) rfl (by omega) (by first | decide | assumption) ?_
  refine hv_aload_n dX8_fillHouse_132 rfl ?_
  refine hv_getr dX8_fillHouse_133 fl_X8_22 (by first | rfl | assumption) rfl (by first | rfl | assumption) ?_
  refine hv_iload_n dX8_fillHouse_136 rfl ?_
  refine hv_iconst (v := 1) dX8_fillHouse_137 (by decide) ?_
  refine hv_iadd dX8_fillHouse_138 ?_
  rw [nI_1]
  refine hv_puti dX8_fillHouse_139 fl_X8_84 (by first | rfl | assumption) rfl rfl rfl ?_
  refine hv_vret dX8_fillHouse_142 rfl ?_
  obtain ⟨σ10, hσ10⟩ : ∃ σ10 : hS, va_up (va_up (va_up σ9 55 (upd (σ9 55) (sH S) (nI (vl f n (s + 5))))) 56 (upd (va_up σ9 55 (upd (σ9 55) (sH S) (nI (vl f n (s + 5)))) 56) (sH S) 0)) 51 (upd (va_up (va_up σ9 55 (upd (σ9 55) (sH S) (nI (vl f n (s + 5))))) 56 (upd (va_up σ9 55 (upd (σ9 55) (sH S) (nI (vl f n (s + 5)))) 56) (sH S) 0) 51) 7 (nI (sH S + 1))) = σ10 := ⟨_, rfl⟩
  rw [hσ10]
  have q1 : ∀ c, c ∉ [51, 55, 56] → σ10 c = σ9 c := fun c hc => by
    simp only [List.mem_cons, List.not_mem_nil, or_false, not_or] at hc
    rw [← hσ10, hva_ne hc.1, hva_ne hc.2.2, hva_ne hc.2.1]
  have q2 : σ10 51 = upd (σ9 51) 7 (nI (sH S + 1)) := by rw [← hσ10, hup_eq, hva_ne (by decide), hva_ne (by decide)]
  have q3 : σ10 55 = upd (σ9 55) (sH S) (nI (vl f n (s + 5))) := by rw [← hσ10, hva_ne (by decide), hva_ne (by decide), hup_eq]
  have q4 : σ10 56 = upd (σ9 56) (sH S) 0 := by rw [← hσ10, hva_ne (by decide), hup_eq, hva_ne (by decide)]
  have o9 : ∀ c, c ∉ [8, 9, 52, 53, 54] → σ9 c = σ c := fun c hc => by
    simp only [List.mem_cons, List.not_mem_nil, or_false, not_or] at hc
    rw [p1 c (by simp [hc.1]), m1 c (by simp [hc.2.2.2.2]), l1 c (by simp [hc.1]), j1 c (by simp [hc.2.2.2.1]), i1 c (by simp [hc.1]), g1 c (by simp [hc.2.2.1]), d1 c (by simp [hc.1]), b1 c (by simp [hc.2.1]), a1 c (by simp [hc.1])]
  have v9 : σ9 9 = upd (σ 9) (sH S) (nI (s + 1)) := by rw [p1 9 (by decide), m1 9 (by decide), l1 9 (by decide), j1 9 (by decide), i1 9 (by decide), g1 9 (by decide), d1 9 (by decide), b2, a1 9 (by decide)]
  have v52 : σ9 52 = upd (σ 52) (sH S) (nI (vl f n (s + 2))) := by rw [p1 52 (by decide), m1 52 (by decide), l1 52 (by decide), j1 52 (by decide), i1 52 (by decide), g2, d1 52 (by decide), b1 52 (by decide), a1 52 (by decide)]
  have v53 : σ9 53 = upd (σ 53) (sH S) (nI (vl f n (s + 3))) := by rw [p1 53 (by decide), m1 53 (by decide), l1 53 (by decide), j2, i1 53 (by decide), g1 53 (by decide), d1 53 (by decide), b1 53 (by decide), a1 53 (by decide)]
  have v54 : σ9 54 = upd (σ 54) (sH S) (nI (vl f n (s + 4))) := by rw [p1 54 (by decide), m2, l1 54 (by decide), j1 54 (by decide), i1 54 (by decide), g1 54 (by decide), d1 54 (by decide), b1 54 (by decide), a1 54 (by decide)]
  refine ⟨rfl, rfl, rfl, off_tr (off_wk o9 (Z := xTl) (by decide)) q1 (by decide) (by decide), fun j j1' j2' => ?_, ?_⟩
  · rw [q1 8 (by decide), p2 j j1' j2', m1 8 (by decide), l2 j j1' j2', j1 8 (by decide), i2 j j1' j2', g1 8 (by decide), d2 j j1' j2', b1 8 (by decide), a2 j j1' j2']
  · have p4 := tSt_of p3 (q1 8 (by decide))
    unfold smHouse
    by_cases z0 : tld (dg f n) S (dg f n (s + 1)) = true
    · rw [if_pos z0] at p4 ⊢
      have hz : ∀ (P : Prop) [Decidable P] (e e2 : Nat × Nat), (if P then orE (some e) e2 else some e) = some e := fun P _ e e2 => by split <;> rfl
      simp only [orE, hz, ite_self] at p4
      exact p4
    · rw [if_neg z0] at p4 ⊢
      by_cases z1 : 99 < vl f n (s + 2)
      · rw [if_pos z1] at p4 ⊢
        simp only [orE, ite_self] at p4
        exact p4
      · rw [if_neg z1] at p4 ⊢
        by_cases z2 : 999 < vl f n (s + 3)
        · rw [if_pos z2] at p4 ⊢
          simp only [orE, ite_self] at p4
          exact p4
        · rw [if_neg z2] at p4 ⊢
          by_cases z3 : 9 < vl f n (s + 4)
          · rw [if_pos z3] at p4 ⊢
            simp only [orE, ite_self] at p4
            exact p4
          · rw [if_neg z3] at p4 ⊢
            by_cases z4 : 9 < vl f n (s + 5)
            · rw [if_pos z4] at p4 ⊢
              exact p4
            · rw [if_neg z4] at p4 ⊢
              refine ⟨p4, ⟨?_, show sH S + 1 ≤ 7 by omega, ?_, n4, fun i hi => ?_, fun i hi => ?_⟩, ?_, c3, fun i hi => ?_, fun i hi => ?_, ?_, ?_, ?_⟩
              · rw [q2, pk_us]; rfl
              · rw [q2, pk_un (by decide), o9 51 (by decide)]; exact n3
              · have hi2 : i < sH S + 1 := hi
                show σ10 9 i = nI (upN (sHn S) (sH S) (s + 1) i) ∧ rel f n (upN (sHn S) (sH S) (s + 1) i) ∧ kd f n (upN (sHn S) (sH S) (s + 1) i) = 23
                rw [q1 9 (by decide), v9]
                by_cases c : i = sH S
                · subst c; rw [pk_us, upN_eq]; exact ⟨rfl, hr (s + 1) (by omega) (by omega), k1⟩
                · rw [pk_un c, upN_ne c]; exact n5 i (by omega)
              · rw [q1 10 (by decide), o9 10 (by decide)]; exact n6 i hi
              · rw [q2, pk_un (by decide), o9 51 (by decide)]; exact c2
              · have hi2 : i < sH S + 1 := hi
                show σ10 52 i = nI (upN (sFi S) (sH S) (vl f n (s + 2)) i) ∧ σ10 53 i = nI (upN (sCo S) (sH S) (vl f n (s + 3)) i) ∧ σ10 54 i = nI (upN (sHu S) (sH S) (vl f n (s + 4)) i) ∧ σ10 55 i = nI (upN (sFe S) (sH S) (vl f n (s + 5)) i) ∧ σ10 56 i = nI (upN (sHe S) (sH S) 0 i)
                rw [q1 52 (by decide), q1 53 (by decide), q1 54 (by decide), q3, q4, v52, v53, v54, o9 55 (by decide), o9 56 (by decide)]
                by_cases c : i = sH S
                · subst c; rw [pk_us, pk_us, pk_us, pk_us, pk_us, upN_eq, upN_eq, upN_eq, upN_eq, upN_eq]; exact ⟨rfl, rfl, rfl, rfl, rfl⟩
                · rw [pk_un c, pk_un c, pk_un c, pk_un c, pk_un c, upN_ne c, upN_ne c, upN_ne c, upN_ne c, upN_ne c]; exact c4 i (by omega)
              · rw [q1 57 (by decide), o9 57 (by decide)]; exact c5 i hi
              · rw [q2, pk_un (by decide), o9 51 (by decide)]; exact c6
              · rw [q2, pk_un (by decide), o9 51 (by decide)]; exact c7
              · rw [q2, pk_un (by decide), o9 51 (by decide)]; exact c8
end S84

