abbrev m_X12_lawTells (Q : hPo) : hMe := (hrm 1, 0, 0, yX12_lawTells, cX12_lawTells, 7, (some FieldType.int), shp, none, Q)
def mJ (k a b : Int32) : Int32 := if k = 2 then a + b else if k = 3 then a - b else if k = 4 then a * b else a / b
/-- what a term of the reference's code comes to: none: not well made; some none: divided by 0 -/
def mT (cd ci v : hF) : Nat → Nat → List Int32 → Option (Option Int32)
  | 0, _, s => match s.getLast? with
    | none => none
    | some z => some (some z)
  | n + 1, c, s =>
    if cd c = 0 then (if s.length < 400 then mT cd ci v n (c + 1) (ci c :: s) else none)
    else if cd c = 1 then (if s.length < 400 ∧ ¬ ci c < 0 ∧ ¬ 9 ≤ ci c then mT cd ci v n (c + 1) (v (ci c).toNatClampNeg :: s) else none)
    else if cd c = 2 ∨ cd c = 3 ∨ cd c = 4 ∨ cd c = 5 then
      match s with
      | b :: a :: s' => if cd c = 5 ∧ b = 0 then some none else mT cd ci v n (c + 1) (mJ (cd c) a b :: s')
      | _ => none
    else none
theorem hstk_last {f : hF} : ∀ {s : List Int32} {z : Int32}, hstk f s → s.getLast? = some z → f 0 = z
  | [], _, _, hq => by simp at hq
  | [u], z, hk, hq => by simp at hq; rw [← hq]; exact hk.1
  | u :: w :: s, z, hk, hq => by
    rw [List.getLast?_cons_cons] at hq
    exact hstk_last hk.2 hq
/-- the E behind then, or else -/
def mW (cd ci v : hF) (TT TE : Nat → Nat) (b : Nat) : Option Int32 := (mT cd ci v (TE b - TT b) (TT b) []).map (fun z => z.getD 0)
def mL (cd ci v ht : hF) (TF TM TT TE : Nat → Nat) : Nat → Nat → Option Int32
  | 0, _ => some 0
  | n + 1, b => if ht b = 0 then mW cd ci v TT TE b else
    match mT cd ci v (TM b - TF b) (TF b) [], mT cd ci v (TT b - TM b) (TM b) [] with
    | some (some u), some (some w) => if u < w then mW cd ci v TT TE b else mL cd ci v ht TF TM TT TE n (b + 1)
    | some _, some _ => some 0
    | _, _ => none
/-- the places of the terms -/
def okM (σ : hS) (TF TM TT TE : Nat → Nat) (b : Nat) : Prop := σ 91 b = nI (TT b) ∧ σ 92 b = nI (TE b) ∧ TT b ≤ TE b ∧ TE b ≤ 840 ∧ (¬ σ 88 b = 0 → σ 89 b = nI (TF b) ∧ σ 90 b = nI (TM b) ∧ TF b ≤ TM b ∧ TM b ≤ TT b)
section S41
variable {G : hGl} {σ : hS} {τ : hT} {x y : Option Nat}
theorem d_termOf {f t : Nat} {res : Option Int32} (ht : t ≤ 840) (hft : f ≤ t) (hm : mT (σ 93) (σ 94) (σ 96) (t - f) f [] = some res) : hCal G (m_X12_termOf (hQp [64, 97] (some (.int (res.getD 0))) (rr 38 51 x y) σ τ (fun σ' => σ' 64 = if res = none then upd (σ 64) 50 1 else σ 64))) [.ref (hgA G 64), .int (nI f), .int (nI t)] shp (rr 38 51 x y) σ τ := by
  refine hv_enter pn_X12 rfl ?_
  generalize hQ : hQp [64, 97] (some (.int (res.getD 0))) (rr 38 51 x y) σ τ (fun σ' => σ' 64 = if res = none then upd (σ 64) 50 1 else σ 64) = Q
  have loop : ∀ n c (s : List Int32) (σ' : hS), c + n = t → (∀ k, k ∉ [97] → σ' k = σ k) → hstk (σ' 97) s → s.length ≤ 400 → mT (σ 93) (σ 94) (σ 96) n c s = some res → hV G (m_X12_termOf Q) 0 0 shp 5 [some (.ref (hgA G 64)), some (.int (nI f)), some (.int (nI t)), some (.int (nI s.length)), some (.int (nI c)), none, none, none] [] (rr 38 51 x y) σ' τ := by
    intro n
    induction n with
    | zero =>
      intro c s σ' hc hσ hst hl hr
      obtain rfl : c = t := by omega
      unfold mT at hr
      obtain ⟨z, hz⟩ : ∃ z, s.getLast? = some z := by
        cases hq : s.getLast? with
        | none => rw [hq] at hr; simp at hr
        | some z => exact ⟨z, rfl⟩
      rw [hz] at hr
      simp at hr
      have h0 := hstk_last hst hz
      refine hv_iload dX12_termOf_5 rfl ?_
      refine hv_iload_n dX12_termOf_7 rfl ?_
      refine hv_icmp_ge (tgt := 165) dX12_termOf_8 (by decide) (fun c_8 => ?_) (fun c_8 => absurd ((nI_le (Nat.le_refl _) (by omega))) c_8)
      refine hv_aload_n dX12_termOf_165 rfl ?_
      refine hv_getr dX12_termOf_166 fl_X12_116 (by first | rfl | assumption) rfl (by first | rfl | assumption) ?_
      refine hv_iconst (v := 0) dX12_termOf_169 (by decide) ?_
      refine hv_iald dX12_termOf_170 (by first | rfl | assumption) (j := 0) rfl (by decide) (by first | decide | assumption) ?_
      refine hv_iret dX12_termOf_171 rfl ?_
      rw [← hQ, ← hr, h0]; exact ⟨rfl, rfl, rfl, off_wk hσ (by decide), by rw [if_neg (by simp)]; exact hσ 64 (by decide)⟩
    | succ n ih =>
      intro c s σ' hc hσ hst hl hr
      have e93 := hσ 93 (by decide)
      have e94 := hσ 94 (by decide)
      have e96 := hσ 96 (by decide)
      have put : ∀ (j : Nat) (z : Int32), ∀ k, k ∉ [97] → va_up σ' 97 (upd (σ' 97) j z) k = σ k := fun j z k hk => by rw [hva_ne (by simpa using hk)]; exact hσ k hk
      unfold mT at hr
      obtain ⟨cd, hcd⟩ : ∃ cd, σ 93 c = cd := ⟨_, rfl⟩
      obtain ⟨cv, hcv⟩ : ∃ cv, σ 94 c = cv := ⟨_, rfl⟩
      rw [hcd, hcv] at hr
      by_cases k0 : cd = 0
      · rw [if_pos k0] at hr
        have hl4 : s.length < 400 := by
          by_cases hq : s.length < 400
          · exact hq
          · rw [if_neg hq] at hr; simp at hr
        rw [if_pos hl4] at hr
        refine hv_iload dX12_termOf_5 rfl ?_
        refine hv_iload_n dX12_termOf_7 rfl ?_
        refine hv_icmp_ge (tgt := 165) dX12_termOf_8 (by decide) (fun c_8 => absurd c_8 ((nI_ge (by omega) (by omega)))) (fun c_8 => ?_)
        refine hv_aload_n dX12_termOf_11 rfl ?_
        refine hv_getr dX12_termOf_12 fl_X12_104 (by first | rfl | assumption) rfl (by first | rfl | assumption) ?_
        refine hv_iload dX12_termOf_15 rfl ?_
        refine hv_iald dX12_termOf_17 (by first | rfl | assumption) rfl (by first | assumption | omega) (by first | decide | assumption) ?_
        rw [e93, hcd, k0]
        refine hv_istore dX12_termOf_18 rfl rfl ?_
        refine hv_iload dX12_termOf_20 rfl ?_
        refine hv_iconst (v := 2) dX12_termOf_22 (by decide) ?_
        refine hv_icmp_ge (tgt := 65) dX12_termOf_23 (by decide) (fun c_23 => absurd c_23 ((by decide))) (fun c_23 => ?_)
        refine hv_aload_n dX12_termOf_26 rfl ?_
        refine hv_getr dX12_termOf_27 fl_X12_116 (by first | rfl | assumption) rfl (by first | rfl | assumption) ?_
        refine hv_iload_n dX12_termOf_30 rfl ?_
        refine hv_iload dX12_termOf_31 rfl ?_
        refine hv_if_ne (tgt := 46) dX12_termOf_33 (by decide) (fun c_33 => absurd (rfl) c_33) (fun c_33 => ?_)
        refine hv_aload_n dX12_termOf_36 rfl ?_
        refine hv_getr dX12_termOf_37 fl_X12_107 (by first | rfl | assumption) rfl (by first | rfl | assumption) ?_
        refine hv_iload dX12_termOf_40 rfl ?_
        refine hv_iald dX12_termOf_42 (by first | rfl | assumption) rfl (by first | assumption | omega) (by first | decide | assumption) ?_
        rw [e94, hcv]
        refine hv_goto (tgt := 58) dX12_termOf_43 (by decide) ?_
        refine hv_iast dX12_termOf_58 (by first | rfl | assumption) rfl (by omega) (by first | decide | assumption) ?_
        refine hv_iinc dX12_termOf_59 rfl (nI_1 s.length) rfl rfl ?_
        refine hv_goto (tgt := 159) dX12_termOf_62 (by decide) ?_
        refine hv_iinc dX12_termOf_159 rfl (nI_1 c) rfl rfl ?_
        refine hv_goto (tgt := 5) dX12_termOf_162 (by decide) ?_
        refine hv_drop 5 ?_
        exact ih (c + 1) (cv :: s) _ (by omega) (put _ _) ⟨by rw [hup_eq, pk_us], by rw [hup_eq]; exact hstk_upd (Nat.le_refl _) hst⟩ (by simp; omega) hr
      rw [if_neg k0] at hr
      by_cases k1 : cd = 1
      · rw [if_pos k1] at hr
        have hl4 : s.length < 400 ∧ ¬ cv < 0 ∧ ¬ 9 ≤ cv := by
          by_cases hq : s.length < 400 ∧ ¬ cv < 0 ∧ ¬ 9 ≤ cv
          · exact hq
          · rw [if_neg hq] at hr; simp at hr
        rw [if_pos hl4] at hr
        obtain ⟨j, hj, hcj⟩ : ∃ j, j < 9 ∧ cv = nI j := by
          rcases pk_ix cv (n := 9) (by decide) with qq | qq | qq
          · exact absurd qq hl4.2.1
          · exact absurd qq hl4.2.2
          · exact qq
        rw [hcj, nI_clamp (by omega)] at hr
        refine hv_iload dX12_termOf_5 rfl ?_
        refine hv_iload_n dX12_termOf_7 rfl ?_
        refine hv_icmp_ge (tgt := 165) dX12_termOf_8 (by decide) (fun c_8 => absurd c_8 ((nI_ge (by omega) (by omega)))) (fun c_8 => ?_)
        refine hv_aload_n dX12_termOf_11 rfl ?_
        refine hv_getr dX12_termOf_12 fl_X12_104 (by first | rfl | assumption) rfl (by first | rfl | assumption) ?_
        refine hv_iload dX12_termOf_15 rfl ?_
        refine hv_iald dX12_termOf_17 (by first | rfl | assumption) rfl (by first | assumption | omega) (by first | decide | assumption) ?_
        rw [e93, hcd, k1]
        refine hv_istore dX12_termOf_18 rfl rfl ?_
        refine hv_iload dX12_termOf_20 rfl ?_
        refine hv_iconst (v := 2) dX12_termOf_22 (by decide) ?_
        refine hv_icmp_ge (tgt := 65) dX12_termOf_23 (by decide) (fun c_23 => absurd c_23 ((by decide))) (fun c_23 => ?_)
        refine hv_aload_n dX12_termOf_26 rfl ?_
        refine hv_getr dX12_termOf_27 fl_X12_116 (by first | rfl | assumption) rfl (by first | rfl | assumption) ?_
        refine hv_iload_n dX12_termOf_30 rfl ?_
        refine hv_iload dX12_termOf_31 rfl ?_
        refine hv_if_ne (tgt := 46) dX12_termOf_33 (by decide) (fun c_33 => ?_) (fun c_33 => absurd c_33 ((by decide)))
        refine hv_aload_n dX12_termOf_46 rfl ?_
        refine hv_getr dX12_termOf_47 fl_X12_113 (by first | rfl | assumption) rfl (by first | rfl | assumption) ?_
        refine hv_aload_n dX12_termOf_50 rfl ?_
        refine hv_getr dX12_termOf_51 fl_X12_107 (by first | rfl | assumption) rfl (by first | rfl | assumption) ?_
        refine hv_iload dX12_termOf_54 rfl ?_
        refine hv_iald dX12_termOf_56 (by first | rfl | assumption) rfl (by first | assumption | omega) (by first | decide | assumption) ?_
        rw [e94, hcv, hcj]
        refine hv_iald dX12_termOf_57 (by first | rfl | assumption) (j := j) rfl (by omega) (by first | decide | assumption) ?_
        rw [e96]
        refine hv_iast dX12_termOf_58 (by first | rfl | assumption) rfl (by omega) (by first | decide | assumption) ?_
        refine hv_iinc dX12_termOf_59 rfl (nI_1 s.length) rfl rfl ?_
        refine hv_goto (tgt := 159) dX12_termOf_62 (by decide) ?_
        refine hv_iinc dX12_termOf_159 rfl (nI_1 c) rfl rfl ?_
        refine hv_goto (tgt := 5) dX12_termOf_162 (by decide) ?_
        refine hv_drop 5 ?_
        exact ih (c + 1) (σ 96 j :: s) _ (by omega) (put _ _) ⟨by rw [hup_eq, pk_us], by rw [hup_eq]; exact hstk_upd (Nat.le_refl _) hst⟩ (by simp; omega) hr
      rw [if_neg k1] at hr
      have k25 : cd = 2 ∨ cd = 3 ∨ cd = 4 ∨ cd = 5 := by
        by_cases hq : cd = 2 ∨ cd = 3 ∨ cd = 4 ∨ cd = 5
        · exact hq
        · rw [if_neg hq] at hr; simp at hr
      rw [if_pos k25] at hr
      obtain ⟨b, a, s, rfl⟩ : ∃ b a s', s = b :: a :: s' := by
        match s, hr with
        | [], hr => simp at hr
        | [b], hr => simp at hr
        | b :: a :: s', _ => exact ⟨b, a, s', rfl⟩
      obtain ⟨hb, ha, hst2⟩ := hst
      simp only [List.length_cons] at hl hb ha
      dsimp only at hr
      have k2 : (2 : Int32) ≤ cd := by rcases k25 with rfl | rfl | rfl | rfl <;> decide
      have hm1 : nI (s.length + 1 + 1) + Int32.ofInt (-1) = nI (s.length + 1) := pk_m1 _
      refine hv_iload dX12_termOf_5 rfl ?_
      refine hv_iload_n dX12_termOf_7 rfl ?_
      refine hv_icmp_ge (tgt := 165) dX12_termOf_8 (by decide) (fun c_8 => absurd c_8 ((nI_ge (by omega) (by omega)))) (fun c_8 => ?_)
      refine hv_aload_n dX12_termOf_11 rfl ?_
      refine hv_getr dX12_termOf_12 fl_X12_104 (by first | rfl | assumption) rfl (by first | rfl | assumption) ?_
      refine hv_iload dX12_termOf_15 rfl ?_
      refine hv_iald dX12_termOf_17 (by first | rfl | assumption) rfl (by first | assumption | omega) (by first | decide | assumption) ?_
      rw [e93, hcd]
      refine hv_istore dX12_termOf_18 rfl rfl ?_
      refine hv_iload dX12_termOf_20 rfl ?_
      refine hv_iconst (v := 2) dX12_termOf_22 (by decide) ?_
      refine hv_icmp_ge (tgt := 65) dX12_termOf_23 (by decide) (fun c_23 => ?_) (fun c_23 => absurd (k2) c_23)
      refine hv_iinc dX12_termOf_65 rfl hm1 rfl rfl ?_
      refine hv_aload_n dX12_termOf_68 rfl ?_
      refine hv_getr dX12_termOf_69 fl_X12_116 (by first | rfl | assumption) rfl (by first | rfl | assumption) ?_
      refine hv_iload_n dX12_termOf_72 rfl ?_
      refine hv_iconst (v := 1) dX12_termOf_73 (by decide) ?_
      refine hv_isub dX12_termOf_74 ?_
      refine hv_iald dX12_termOf_75 (by first | rfl | assumption) (show nI (s.length + 1) - 1 = nI s.length from nI_pred _) (by omega) (by first | decide | assumption) ?_
      rw [ha]
      refine hv_istore dX12_termOf_76 rfl rfl ?_
      refine hv_aload_n dX12_termOf_78 rfl ?_
      refine hv_getr dX12_termOf_79 fl_X12_116 (by first | rfl | assumption) rfl (by first | rfl | assumption) ?_
      refine hv_iload_n dX12_termOf_82 rfl ?_
      refine hv_iald dX12_termOf_83 (by first | rfl | assumption) rfl (by omega) (by first | decide | assumption) ?_
      rw [hb]
      refine hv_istore dX12_termOf_84 rfl rfl ?_
      refine hv_iload dX12_termOf_86 rfl ?_
      refine hv_iconst (v := 5) dX12_termOf_88 (by decide) ?_
      refine hv_icmp_ne (tgt := 104) dX12_termOf_89 (by decide) (fun c_89 => ?_) (fun c_89 => ?_)
      · rw [if_neg (fun qq => c_89 qq.1)] at hr
        refine hv_aload_n dX12_termOf_104 rfl ?_
        refine hv_getr dX12_termOf_105 fl_X12_116 (by first | rfl | assumption) rfl (by first | rfl | assumption) ?_
        refine hv_iload_n dX12_termOf_108 rfl ?_
        refine hv_iconst (v := 1) dX12_termOf_109 (by decide) ?_
        refine hv_isub dX12_termOf_110 ?_
        refine hv_iload dX12_termOf_111 rfl ?_
        refine hv_iconst (v := 2) dX12_termOf_113 (by decide) ?_
        refine hv_icmp_ne (tgt := 125) dX12_termOf_114 (by decide) (fun c_114 => ?_) (fun c_114 => ?_)
        · rw [mJ, if_neg c_114] at hr
          refine hv_iload dX12_termOf_125 rfl ?_
          refine hv_iconst (v := 3) dX12_termOf_127 (by decide) ?_
          refine hv_icmp_ne (tgt := 139) dX12_termOf_128 (by decide) (fun c_128 => ?_) (fun c_128 => ?_)
          · rw [if_neg c_128] at hr
            refine hv_iload dX12_termOf_139 rfl ?_
            refine hv_iconst (v := 4) dX12_termOf_141 (by decide) ?_
            refine hv_icmp_ne (tgt := 153) dX12_termOf_142 (by decide) (fun c_142 => ?_) (fun c_142 => ?_)
            · rw [if_neg c_142] at hr
              have hb0 : ¬ b = 0 := by
                have k5 : cd = 5 := by
                  rcases k25 with qq | qq | qq | qq
                  · exact absurd qq c_114
                  · exact absurd qq c_128
                  · exact absurd qq c_142
                  · exact qq
                first | exact absurd k5 c_89 | exact c_94
              refine hv_iload dX12_termOf_153 rfl ?_
              refine hv_iload dX12_termOf_155 rfl ?_
              refine hv_idiv dX12_termOf_157 hb0 ?_
              refine hv_iast dX12_termOf_158 (by first | rfl | assumption) (show nI (s.length + 1) - 1 = nI s.length from nI_pred _) (by omega) (by first | decide | assumption) ?_
              refine hv_iinc dX12_termOf_159 rfl (nI_1 c) rfl rfl ?_
              refine hv_goto (tgt := 5) dX12_termOf_162 (by decide) ?_
              refine hv_drop 5 (hv_drop 6 (hv_drop 7 ?_))
              exact ih (c + 1) (_ :: s) _ (by omega) (put _ _) ⟨by rw [hup_eq, pk_us], by rw [hup_eq]; exact hstk_upd (Nat.le_refl _) hst2⟩ (by simp; omega) hr
            · rw [if_pos c_142] at hr
              refine hv_iload dX12_termOf_145 rfl ?_
              refine hv_iload dX12_termOf_147 rfl ?_
              refine hv_imul dX12_termOf_149 ?_
              refine hv_goto (tgt := 158) dX12_termOf_150 (by decide) ?_
              refine hv_iast dX12_termOf_158 (by first | rfl | assumption) (show nI (s.length + 1) - 1 = nI s.length from nI_pred _) (by omega) (by first | decide | assumption) ?_
              refine hv_iinc dX12_termOf_159 rfl (nI_1 c) rfl rfl ?_
              refine hv_goto (tgt := 5) dX12_termOf_162 (by decide) ?_
              refine hv_drop 5 (hv_drop 6 (hv_drop 7 ?_))
              exact ih (c + 1) (_ :: s) _ (by omega) (put _ _) ⟨by rw [hup_eq, pk_us], by rw [hup_eq]; exact hstk_upd (Nat.le_refl _) hst2⟩ (by simp; omega) hr
          · rw [if_pos c_128] at hr
            refine hv_iload dX12_termOf_131 rfl ?_
            refine hv_iload dX12_termOf_133 rfl ?_
            refine hv_isub dX12_termOf_135 ?_
            refine hv_goto (tgt := 158) dX12_termOf_136 (by decide) ?_
            refine hv_iast dX12_termOf_158 (by first | rfl | assumption) (show nI (s.length + 1) - 1 = nI s.length from nI_pred _) (by omega) (by first | decide | assumption) ?_
            refine hv_iinc dX12_termOf_159 rfl (nI_1 c) rfl rfl ?_
            refine hv_goto (tgt := 5) dX12_termOf_162 (by decide) ?_
            refine hv_drop 5 (hv_drop 6 (hv_drop 7 ?_))
            exact ih (c + 1) (_ :: s) _ (by omega) (put _ _) ⟨by rw [hup_eq, pk_us], by rw [hup_eq]; exact hstk_upd (Nat.le_refl _) hst2⟩ (by simp; omega) hr
        · rw [mJ, if_pos c_114] at hr
          refine hv_iload dX12_termOf_117 rfl ?_
          refine hv_iload dX12_termOf_119 rfl ?_
          refine hv_iadd dX12_termOf_121 ?_
          refine hv_goto (tgt := 158) dX12_termOf_122 (by decide) ?_
          refine hv_iast dX12_termOf_158 (by first | rfl | assumption) (show nI (s.length + 1) - 1 = nI s.length from nI_pred _) (by omega) (by first | decide | assumption) ?_
          refine hv_iinc dX12_termOf_159 rfl (nI_1 c) rfl rfl ?_
          refine hv_goto (tgt := 5) dX12_termOf_162 (by decide) ?_
          refine hv_drop 5 (hv_drop 6 (hv_drop 7 ?_))
          exact ih (c + 1) (_ :: s) _ (by omega) (put _ _) ⟨by rw [hup_eq, pk_us], by rw [hup_eq]; exact hstk_upd (Nat.le_refl _) hst2⟩ (by simp; omega) hr
      · refine hv_iload dX12_termOf_92 rfl ?_
        refine hv_if_ne (tgt := 104) dX12_termOf_94 (by decide) (fun c_94 => ?_) (fun c_94 => ?_)
        · rw [if_neg (fun qq => c_94 qq.2)] at hr
          refine hv_aload_n dX12_termOf_104 rfl ?_
          refine hv_getr dX12_termOf_105 fl_X12_116 (by first | rfl | assumption) rfl (by first | rfl | assumption) ?_
          refine hv_iload_n dX12_termOf_108 rfl ?_
          refine hv_iconst (v := 1) dX12_termOf_109 (by decide) ?_
          refine hv_isub dX12_termOf_110 ?_
          refine hv_iload dX12_termOf_111 rfl ?_
          refine hv_iconst (v := 2) dX12_termOf_113 (by decide) ?_
          refine hv_icmp_ne (tgt := 125) dX12_termOf_114 (by decide) (fun c_114 => ?_) (fun c_114 => ?_)
          · rw [mJ, if_neg c_114] at hr
            refine hv_iload dX12_termOf_125 rfl ?_
            refine hv_iconst (v := 3) dX12_termOf_127 (by decide) ?_
            refine hv_icmp_ne (tgt := 139) dX12_termOf_128 (by decide) (fun c_128 => ?_) (fun c_128 => ?_)
            · rw [if_neg c_128] at hr
              refine hv_iload dX12_termOf_139 rfl ?_
              refine hv_iconst (v := 4) dX12_termOf_141 (by decide) ?_
              refine hv_icmp_ne (tgt := 153) dX12_termOf_142 (by decide) (fun c_142 => ?_) (fun c_142 => ?_)
              · rw [if_neg c_142] at hr
                have hb0 : ¬ b = 0 := by
                  have k5 : cd = 5 := by
                    rcases k25 with qq | qq | qq | qq
                    · exact absurd qq c_114
                    · exact absurd qq c_128
                    · exact absurd qq c_142
                    · exact qq
                  first | exact absurd k5 c_89 | exact c_94
                refine hv_iload dX12_termOf_153 rfl ?_
                refine hv_iload dX12_termOf_155 rfl ?_
                refine hv_idiv dX12_termOf_157 hb0 ?_
                refine hv_iast dX12_termOf_158 (by first | rfl | assumption) (show nI (s.length + 1) - 1 = nI s.length from nI_pred _) (by omega) (by first | decide | assumption) ?_
                refine hv_iinc dX12_termOf_159 rfl (nI_1 c) rfl rfl ?_
                refine hv_goto (tgt := 5) dX12_termOf_162 (by decide) ?_
                refine hv_drop 5 (hv_drop 6 (hv_drop 7 ?_))
                exact ih (c + 1) (_ :: s) _ (by omega) (put _ _) ⟨by rw [hup_eq, pk_us], by rw [hup_eq]; exact hstk_upd (Nat.le_refl _) hst2⟩ (by simp; omega) hr
              · rw [if_pos c_142] at hr
                refine hv_iload dX12_termOf_145 rfl ?_
                refine hv_iload dX12_termOf_147 rfl ?_
                refine hv_imul dX12_termOf_149 ?_
                refine hv_goto (tgt := 158) dX12_termOf_150 (by decide) ?_
                refine hv_iast dX12_termOf_158 (by first | rfl | assumption) (show nI (s.length + 1) - 1 = nI s.length from nI_pred _) (by omega) (by first | decide | assumption) ?_
                refine hv_iinc dX12_termOf_159 rfl (nI_1 c) rfl rfl ?_
                refine hv_goto (tgt := 5) dX12_termOf_162 (by decide) ?_
                refine hv_drop 5 (hv_drop 6 (hv_drop 7 ?_))
                exact ih (c + 1) (_ :: s) _ (by omega) (put _ _) ⟨by rw [hup_eq, pk_us], by rw [hup_eq]; exact hstk_upd (Nat.le_refl _) hst2⟩ (by simp; omega) hr
            · rw [if_pos c_128] at hr
              refine hv_iload dX12_termOf_131 rfl ?_
              refine hv_iload dX12_termOf_133 rfl ?_
              refine hv_isub dX12_termOf_135 ?_
              refine hv_goto (tgt := 158) dX12_termOf_136 (by decide) ?_
              refine hv_iast dX12_termOf_158 (by first | rfl | assumption) (show nI (s.length + 1) - 1 = nI s.length from nI_pred _) (by omega) (by first | decide | assumption) ?_
              refine hv_iinc dX12_termOf_159 rfl (nI_1 c) rfl rfl ?_
              refine hv_goto (tgt := 5) dX12_termOf_162 (by decide) ?_
              refine hv_drop 5 (hv_drop 6 (hv_drop 7 ?_))
              exact ih (c + 1) (_ :: s) _ (by omega) (put _ _) ⟨by rw [hup_eq, pk_us], by rw [hup_eq]; exact hstk_upd (Nat.le_refl _) hst2⟩ (by simp; omega) hr
          · rw [mJ, if_pos c_114] at hr
            refine hv_iload dX12_termOf_117 rfl ?_
            refine hv_iload dX12_termOf_119 rfl ?_
            refine hv_iadd dX12_termOf_121 ?_
            refine hv_goto (tgt := 158) dX12_termOf_122 (by decide) ?_
            refine hv_iast dX12_termOf_158 (by first | rfl | assumption) (show nI (s.length + 1) - 1 = nI s.length from nI_pred _) (by omega) (by first | decide | assumption) ?_
            refine hv_iinc dX12_termOf_159 rfl (nI_1 c) rfl rfl ?_
            refine hv_goto (tgt := 5) dX12_termOf_162 (by decide) ?_
            refine hv_drop 5 (hv_drop 6 (hv_drop 7 ?_))
            exact ih (c + 1) (_ :: s) _ (by omega) (put _ _) ⟨by rw [hup_eq, pk_us], by rw [hup_eq]; exact hstk_upd (Nat.le_refl _) hst2⟩ (by simp; omega) hr
        · rw [if_pos ⟨c_89, c_94⟩] at hr
          refine hv_aload_n dX12_termOf_97 rfl ?_
          refine hv_iconst (v := 1) dX12_termOf_98 (by decide) ?_
          refine hv_puti dX12_termOf_99 fl_X12_315 (by first | rfl | assumption) rfl rfl rfl ?_
          refine hv_iconst (v := 0) dX12_termOf_102 (by decide) ?_
          refine hv_iret dX12_termOf_103 rfl ?_
          rw [← hQ]
          have hre : res = none := by simpa using hr.symm
          subst hre
          exact ⟨rfl, rfl, rfl, off_up (off_wk hσ (by decide)) (by decide), by rw [if_pos rfl]; show va_up σ' 64 (upd (σ' 64) 50 1) 64 = _; rw [hup_eq, hσ 64 (by decide)]⟩
  refine hv_iconst (v := 0) dX12_termOf_0 (by decide) ?_
  refine hv_istore_n dX12_termOf_1 rfl rfl ?_
  refine hv_iload_n dX12_termOf_2 rfl ?_
  refine hv_istore dX12_termOf_3 rfl rfl ?_
  exact loop (t - f) f [] σ (by omega) (fun _ _ => rfl) trivial (by simp) hm
theorem d_lawTells {L k fi la : Nat} {pl res : Int32} {TF TM TT TE : Nat → Nat} (hL : σ 64 18 = nI L) (hL2 : L < 2) (hk : k < 5) (hfi : σ 86 (5 * L + k) = nI fi) (hla : σ 87 (5 * L + k) = nI la) (hfl : fi ≤ la) (hl2 : la ≤ 260) (hok : ∀ b, fi ≤ b → b < la → okM σ TF TM TT TE b) (hres : (if fi = la then some pl else mL (σ 93) (σ 94) (σ 96) (σ 88) TF TM TT TE (la - fi) fi) = some res) : hCal G (m_X12_lawTells (hQp [64, 97] (some (.int res)) (rr 38 51 x y) σ τ (fun σ' => ∀ j, j ≠ 50 → σ' 64 j = σ 64 j))) [.ref (hgA G 64), .int (nI k), .int pl] shp (rr 38 51 x y) σ τ := by
  have ixk : 5 * σ 64 18 + nI k = nI (5 * L + k) := by rw [hL]; exact ix5
  refine hv_enter pn_X12 rfl ?_
  generalize hQ : hQp [64, 97] (some (.int res)) (rr 38 51 x y) σ τ (fun σ' => ∀ j, j ≠ 50 → σ' 64 j = σ 64 j) = Q
  have fin : ∀ (σ' : hS), (∀ c, c ∉ [64, 97] → σ' c = σ c) → (∀ j, j ≠ 50 → σ' 64 j = σ 64 j) → Q (some (.int res)) (rr 38 51 x y) σ' τ := fun σ' q1 q2 => by rw [← hQ]; exact ⟨rfl, rfl, rfl, q1, q2⟩
  have wPart : ∀ b (l5 l6 : Option Value) (σ' : hS), fi ≤ b → b < la → (∀ c, c ∉ [64, 97] → σ' c = σ c) → (∀ j, j ≠ 50 → σ' 64 j = σ 64 j) → σ' 64 50 = 0 → mW (σ 93) (σ 94) (σ 96) TT TE b = some res → hV G (m_X12_lawTells Q) 0 0 shp 119 [some (.ref (hgA G 64)), some (.int (nI k)), some (.int pl), some (.int (nI (5 * L + k))), some (.int (nI b)), l5, l6] [] (rr 38 51 x y) σ' τ := by
    intro b l5 l6 σ' hb1 hb2 hσ h64 h50 hw
    obtain ⟨o1, o2, o3, o4, -⟩ := hok b hb1 hb2
    unfold mW at hw
    obtain ⟨wr, hwr⟩ : ∃ wr, mT (σ 93) (σ 94) (σ 96) (TE b - TT b) (TT b) [] = some wr := by
      cases hq : mT (σ 93) (σ 94) (σ 96) (TE b - TT b) (TT b) [] with
      | none => rw [hq] at hw; simp at hw
      | some wr => exact ⟨wr, rfl⟩
    rw [hwr] at hw
    have hw2 : wr.getD 0 = res := by simpa using hw
    refine hv_aload_n dX12_lawTells_119 rfl ?_
    refine hv_aload_n dX12_lawTells_120 rfl ?_
    refine hv_getr dX12_lawTells_121 fl_X12_98 (by first | rfl | assumption) rfl (by first | rfl | assumption) ?_
    refine hv_iload dX12_lawTells_124 rfl ?_
    refine hv_iald dX12_lawTells_126 (by first | rfl | assumption) rfl (by omega) (by first | decide | assumption) ?_
    refine hv_aload_n dX12_lawTells_127 rfl ?_
    refine hv_getr dX12_lawTells_128 fl_X12_101 (by first | rfl | assumption) rfl (by first | rfl | assumption) ?_
    refine hv_iload dX12_lawTells_131 rfl ?_
    refine hv_iald dX12_lawTells_133 (by first | rfl | assumption) rfl (by omega) (by first | decide | assumption) ?_
    rw [hσ 91 (by decide), hσ 92 (by decide), o1, o2]
    refine hv_cv2 (d_termOf (res := wr) o4 o3 (by rw [hσ 93 (by decide), hσ 94 (by decide), hσ 96 (by decide)]; exact hwr)) dX12_lawTells_134 ml_X12_336 mk_X12_termOf (by first | rfl | assumption) rfl rfl rfl rfl rfl ?_
    rintro _ _ σ1 _ ⟨rfl, rfl, rfl, q1, q2⟩
    have q3 : ∀ c, c ∉ [64, 97] → σ1 c = σ c := off_tr hσ q1 (by decide) (by decide)
    have q4 : ∀ j, j ≠ 50 → σ1 64 j = σ 64 j := fun j hj => by
      rw [q2]
      split
      · rw [pk_un hj]; exact h64 j hj
      · exact h64 j hj
    refine hv_istore dX12_lawTells_137 rfl rfl ?_
    refine hv_aload_n dX12_lawTells_139 rfl ?_
    refine hv_geti dX12_lawTells_140 fl_X12_315 (by first | rfl | assumption) rfl ?_
    refine hv_if_eq (tgt := 150) dX12_lawTells_143 (by decide) (fun c_143 => ?_) (fun c_143 => ?_)
    · have hr0 : wr.getD 0 = res := hw2
      refine hv_iload dX12_lawTells_150 rfl ?_
      rw [hr0]
      refine hv_iret dX12_lawTells_152 rfl ?_
      exact fin σ1 q3 q4
    · have hnn : wr = none := by
        cases wr with
        | none => rfl
        | some z => rw [q2, if_neg (by simp), h50] at c_143; exact absurd rfl c_143
      have hr0 : (0 : Int32) = res := by rw [← hw2, hnn]; rfl
      refine hv_iconst (v := 0) dX12_lawTells_146 (by decide) ?_
      refine hv_goto (tgt := 152) dX12_lawTells_147 (by decide) ?_
      rw [hr0]
      refine hv_iret dX12_lawTells_152 rfl ?_
      exact fin σ1 q3 q4
  have loop : ∀ n b (l5 l6 : Option Value) (σ' : hS), b + n = la → fi ≤ b → (∀ c, c ∉ [64, 97] → σ' c = σ c) → (∀ j, j ≠ 50 → σ' 64 j = σ 64 j) → σ' 64 50 = 0 → mL (σ 93) (σ 94) (σ 96) (σ 88) TF TM TT TE n b = some res → hV G (m_X12_lawTells Q) 0 0 shp 39 [some (.ref (hgA G 64)), some (.int (nI k)), some (.int pl), some (.int (nI (5 * L + k))), some (.int (nI b)), l5, l6] [] (rr 38 51 x y) σ' τ := by
    intro n
    induction n with
    | zero =>
      intro b l5 l6 σ' hb hfb hσ h64 h50 hr
      obtain rfl : b = la := by omega
      have hr0 : (0 : Int32) = res := by simpa [mL] using hr
      refine hv_iload dX12_lawTells_39 rfl ?_
      refine hv_aload_n dX12_lawTells_41 rfl ?_
      refine hv_getr dX12_lawTells_42 fl_X12_85 (by first | rfl | assumption) rfl (by first | rfl | assumption) ?_
      refine hv_iload_n dX12_lawTells_45 rfl ?_
      refine hv_iald dX12_lawTells_46 (by first | rfl | assumption) rfl (by omega) (by first | decide | assumption) ?_
      refine hv_icmp_ge (tgt := 159) dX12_lawTells_47 (by decide) (fun c_47 => ?_) (fun c_47 => absurd ((by rw [hσ 87 (by decide), hla]; exact nI_le (Nat.le_refl _) (by omega))) c_47)
      refine hv_iconst (v := 0) dX12_lawTells_159 (by decide) ?_
      rw [hr0]
      refine hv_iret dX12_lawTells_160 rfl ?_
      exact fin σ' hσ h64
    | succ n ih =>
      intro b l5 l6 σ' hb hfb hσ h64 h50 hr
      obtain ⟨o1, o2, o3, o4, o5⟩ := hok b hfb (by omega)
      unfold mL at hr
      refine hv_iload dX12_lawTells_39 rfl ?_
      refine hv_aload_n dX12_lawTells_41 rfl ?_
      refine hv_getr dX12_lawTells_42 fl_X12_85 (by first | rfl | assumption) rfl (by first | rfl | assumption) ?_
      refine hv_iload_n dX12_lawTells_45 rfl ?_
      refine hv_iald dX12_lawTells_46 (by first | rfl | assumption) rfl (by omega) (by first | decide | assumption) ?_
      refine hv_icmp_ge (tgt := 159) dX12_lawTells_47 (by decide) (fun c_47 => absurd c_47 ((by rw [hσ 87 (by decide), hla]; exact nI_ge (by omega) (by omega)))) (fun c_47 => ?_)
      refine hv_aload_n dX12_lawTells_50 rfl ?_
      refine hv_getr dX12_lawTells_51 fl_X12_88 (by first | rfl | assumption) rfl (by first | rfl | assumption) ?_
      refine hv_iload dX12_lawTells_54 rfl ?_
      refine hv_zald dX12_lawTells_56 (by first | rfl | assumption) rfl (by omega) (by first | decide | assumption) ?_
      rw [hσ 88 (by decide)]
      refine hv_if_eq (tgt := 119) dX12_lawTells_57 (by decide) (fun c_57 => ?_) (fun c_57 => ?_)
      · rw [if_pos c_57] at hr
        first
          | exact wPart b _ _ σ' hfb (by omega) hσ h64 h50 hr
          | exact wPart b _ _ σ2 hfb (by omega) q23 q24 hbr hr
      · rw [if_neg c_57] at hr
        obtain ⟨o6, o7, o8, o9⟩ := o5 c_57
        obtain ⟨ur, hur⟩ : ∃ ur, mT (σ 93) (σ 94) (σ 96) (TM b - TF b) (TF b) [] = some ur := by
          cases hq : mT (σ 93) (σ 94) (σ 96) (TM b - TF b) (TF b) [] with
          | none => rw [hq] at hr; simp at hr
          | some ur => exact ⟨ur, rfl⟩
        obtain ⟨vr, hvr⟩ : ∃ vr, mT (σ 93) (σ 94) (σ 96) (TT b - TM b) (TM b) [] = some vr := by
          cases hq : mT (σ 93) (σ 94) (σ 96) (TT b - TM b) (TM b) [] with
          | none => rw [hur, hq] at hr; cases ur <;> simp at hr
          | some vr => exact ⟨vr, rfl⟩
        rw [hur, hvr] at hr
        refine hv_aload_n dX12_lawTells_60 rfl ?_
        refine hv_aload_n dX12_lawTells_61 rfl ?_
        refine hv_getr dX12_lawTells_62 fl_X12_92 (by first | rfl | assumption) rfl (by first | rfl | assumption) ?_
        refine hv_iload dX12_lawTells_65 rfl ?_
        refine hv_iald dX12_lawTells_67 (by first | rfl | assumption) rfl (by omega) (by first | decide | assumption) ?_
        refine hv_aload_n dX12_lawTells_68 rfl ?_
        refine hv_getr dX12_lawTells_69 fl_X12_95 (by first | rfl | assumption) rfl (by first | rfl | assumption) ?_
        refine hv_iload dX12_lawTells_72 rfl ?_
        refine hv_iald dX12_lawTells_74 (by first | rfl | assumption) rfl (by omega) (by first | decide | assumption) ?_
        rw [hσ 89 (by decide), hσ 90 (by decide), o6, o7]
        refine hv_cv2 (d_termOf (res := ur) (by omega) o8 (by rw [hσ 93 (by decide), hσ 94 (by decide), hσ 96 (by decide)]; exact hur)) dX12_lawTells_75 ml_X12_336 mk_X12_termOf (by first | rfl | assumption) rfl rfl rfl rfl rfl ?_
        rintro _ _ σ1 _ ⟨rfl, rfl, rfl, q11, q12⟩
        have q13 : ∀ c, c ∉ [64, 97] → σ1 c = σ c := off_tr hσ q11 (by decide) (by decide)
        refine hv_istore dX12_lawTells_78 rfl rfl ?_
        refine hv_aload_n dX12_lawTells_80 rfl ?_
        refine hv_aload_n dX12_lawTells_81 rfl ?_
        refine hv_getr dX12_lawTells_82 fl_X12_95 (by first | rfl | assumption) rfl (by first | rfl | assumption) ?_
        refine hv_iload dX12_lawTells_85 rfl ?_
        refine hv_iald dX12_lawTells_87 (by first | rfl | assumption) rfl (by omega) (by first | decide | assumption) ?_
        refine hv_aload_n dX12_lawTells_88 rfl ?_
        refine hv_getr dX12_lawTells_89 fl_X12_98 (by first | rfl | assumption) rfl (by first | rfl | assumption) ?_
        refine hv_iload dX12_lawTells_92 rfl ?_
        refine hv_iald dX12_lawTells_94 (by first | rfl | assumption) rfl (by omega) (by first | decide | assumption) ?_
        rw [q13 90 (by decide), q13 91 (by decide), o7, o1]
        refine hv_cv2 (d_termOf (res := vr) (by omega) o9 (by rw [q13 93 (by decide), q13 94 (by decide), q13 96 (by decide)]; exact hvr)) dX12_lawTells_95 ml_X12_336 mk_X12_termOf (by first | rfl | assumption) rfl rfl rfl rfl rfl ?_
        rintro _ _ σ2 _ ⟨rfl, rfl, rfl, q21, q22⟩
        have q23 : ∀ c, c ∉ [64, 97] → σ2 c = σ c := off_tr q13 q21 (by decide) (by decide)
        have q24 : ∀ j, j ≠ 50 → σ2 64 j = σ 64 j := fun j hj => by
          rw [q22, q12]
          split <;> split <;> (try rw [pk_un hj]) <;> (try rw [pk_un hj]) <;> exact h64 j hj
        refine hv_istore dX12_lawTells_98 rfl rfl ?_
        refine hv_aload_n dX12_lawTells_100 rfl ?_
        refine hv_geti dX12_lawTells_101 fl_X12_315 (by first | rfl | assumption) rfl ?_
        refine hv_if_eq (tgt := 109) dX12_lawTells_104 (by decide) (fun c_104 => ?_) (fun c_104 => ?_)
        · obtain ⟨u, rfl⟩ : ∃ u, ur = some u := by
            cases ur with
            | some u => exact ⟨u, rfl⟩
            | none =>
              exfalso
              rw [q22, q12, if_pos rfl] at c_104
              split at c_104 <;> exact absurd c_104 (by rw [pk_us]; decide)
          obtain ⟨v, rfl⟩ : ∃ v, vr = some v := by
            cases vr with
            | some v => exact ⟨v, rfl⟩
            | none =>
              exfalso
              rw [q22, if_pos rfl, pk_us] at c_104
              exact absurd c_104 (by decide)
          have hbr : σ2 64 50 = 0 := c_104
          dsimp only at hr
          refine hv_iload dX12_lawTells_109 rfl ?_
          refine hv_iload dX12_lawTells_111 rfl ?_
          refine hv_icmp_lt (tgt := 119) dX12_lawTells_113 (by decide) (fun c_113 => ?_) (fun c_113 => ?_)
          · rw [if_pos (show u < v from c_113)] at hr
            first
              | exact wPart b _ _ σ' hfb (by omega) hσ h64 h50 hr
              | exact wPart b _ _ σ2 hfb (by omega) q23 q24 hbr hr
          · rw [if_neg (show ¬ u < v from c_113)] at hr
            refine hv_goto (tgt := 153) dX12_lawTells_116 (by decide) ?_
            refine hv_iinc dX12_lawTells_153 rfl (nI_1 b) rfl rfl ?_
            refine hv_goto (tgt := 39) dX12_lawTells_156 (by decide) ?_
            exact ih (b + 1) _ _ σ2 (by omega) (by omega) q23 q24 hbr hr
        · have hr0 : (0 : Int32) = res := by
            cases ur with
            | none => simpa using hr
            | some u =>
              cases vr with
              | none => simpa using hr
              | some v => rw [q22, if_neg (by simp), q12, if_neg (by simp), h50] at c_104; exact absurd rfl c_104
          refine hv_iconst (v := 0) dX12_lawTells_107 (by decide) ?_
          rw [hr0]
          refine hv_iret dX12_lawTells_108 rfl ?_
          exact fin σ2 q23 q24
  refine hv_iconst (v := 5) dX12_lawTells_0 (by decide) ?_
  refine hv_aload_n dX12_lawTells_1 rfl ?_
  refine hv_geti dX12_lawTells_2 fl_X12_233 (by first | rfl | assumption) rfl ?_
  refine hv_imul dX12_lawTells_5 ?_
  refine hv_iload_n dX12_lawTells_6 rfl ?_
  refine hv_iadd dX12_lawTells_7 ?_
  rw [ixk]
  refine hv_istore_n dX12_lawTells_8 rfl rfl ?_
  refine hv_aload_n dX12_lawTells_9 rfl ?_
  refine hv_getr dX12_lawTells_10 fl_X12_82 (by first | rfl | assumption) rfl (by first | rfl | assumption) ?_
  refine hv_iload_n dX12_lawTells_13 rfl ?_
  refine hv_iald dX12_lawTells_14 (by first | rfl | assumption) rfl (by omega) (by first | decide | assumption) ?_
  refine hv_aload_n dX12_lawTells_15 rfl ?_
  refine hv_getr dX12_lawTells_16 fl_X12_85 (by first | rfl | assumption) rfl (by first | rfl | assumption) ?_
  refine hv_iload_n dX12_lawTells_19 rfl ?_
  refine hv_iald dX12_lawTells_20 (by first | rfl | assumption) rfl (by omega) (by first | decide | assumption) ?_
  rw [hfi, hla]
  refine hv_icmp_ne (tgt := 26) dX12_lawTells_21 (by decide) (fun c_21 => ?_) (fun c_21 => ?_)
  · have hne : ¬ fi = la := fun qq => c_21 (by rw [qq])
    rw [if_neg hne] at hres
    refine hv_aload_n dX12_lawTells_26 rfl ?_
    refine hv_iconst (v := 0) dX12_lawTells_27 (by decide) ?_
    refine hv_puti dX12_lawTells_28 fl_X12_315 (by first | rfl | assumption) rfl rfl rfl ?_
    refine hv_aload_n dX12_lawTells_31 rfl ?_
    refine hv_getr dX12_lawTells_32 fl_X12_82 (by first | rfl | assumption) rfl (by first | rfl | assumption) ?_
    refine hv_iload_n dX12_lawTells_35 rfl ?_
    refine hv_iald dX12_lawTells_36 (by first | rfl | assumption) rfl (by omega) (by first | decide | assumption) ?_
    refine hv_str (st' := [.int (nI fi)]) (congrArg (fun z => [Value.int z]) hfi) ?_
    refine hv_istore dX12_lawTells_37 rfl rfl ?_
    exact loop (la - fi) fi none none _ (by omega) (Nat.le_refl _) (off_up (fun _ _ => rfl) (by decide)) (fun j hj => by rw [hup_eq, pk_un hj]) (by rw [hup_eq, pk_us]) hres
  · rw [if_pos ((nI_eq (by omega) (by omega)).mp c_21)] at hres
    have hpl : pl = res := by simpa using hres
    refine hv_iload_n dX12_lawTells_24 rfl ?_
    rw [hpl]
    refine hv_iret dX12_lawTells_25 rfl ?_
    exact fin σ (fun _ _ => rfl) (fun _ _ => rfl)
end S41

