abbrev m_X1_value (Q : hPo) : hMe := (hrm 1, 0, 0, yX1_value, cX1_value, 8, (some FieldType.int), shp, none, Q)
abbrev m_X1_varValue (Q : hPo) : hMe := (hrm 0, 0, 0, yX1_varValue, cX1_varValue, 2, (some FieldType.int), shp, none, Q)
abbrev m_X1_joined (Q : hPo) : hMe := (hrm 0, 0, 0, yX1_joined, cX1_joined, 3, (some FieldType.int), shp, none, Q)
section S12
theorem pk_m2 (n : Nat) : nI (n + 1 + 1) + (-2) = nI n := by
  have h1 := nI_succ (n + 1)
  have h2 := nI_succ n
  rw [h1, h2, Int32.add_assoc, Int32.add_assoc]
  rw [show (1 : Int32) + (1 + -2) = 0 by decide, Int32.add_zero]
variable {G : hGl} {σ : hS} {τ : hT} {x y : Option Nat}
theorem hsw_out {v : Int32} {lo hi : Int} (h : ¬ (lo ≤ v.toInt ∧ v.toInt ≤ hi)) : v.toInt < lo ∨ hi < v.toInt := by omega
theorem c_varValue {w : Int32} : hCal G (m_X1_varValue (hEq (some (.int (lVar (σ 50) w))) (rr 38 51 x y) σ τ)) [.ref (hgA G 45), .int w] shp (rr 38 51 x y) σ τ := by
  refine hv_enter pn_X1 rfl ?_
  refine hv_iload_n dX1_varValue_0 rfl ?_
  refine hv_if_lt (tgt := 19) dX1_varValue_1 (by decide) (fun c_1 => ?_) (fun c_1 => ?_)
  · (try rw [lVar, if_pos c_1])
    refine hv_iconst (v := 0) dX1_varValue_19 (by decide) ?_
    refine hv_iret dX1_varValue_20 rfl ?_
    exact ⟨rfl, rfl, rfl, rfl⟩
  · rw [lVar, if_neg c_1]
    refine hv_iload_n dX1_varValue_4 rfl ?_
    refine hv_bipush (v := 9) dX1_varValue_5 (by decide) ?_
    refine hv_icmp_ge (tgt := 19) dX1_varValue_7 (by decide) (fun c_7 => ?_) (fun c_7 => ?_)
    · rw [if_pos c_7]
      refine hv_iconst (v := 0) dX1_varValue_19 (by decide) ?_
      refine hv_iret dX1_varValue_20 rfl ?_
      exact ⟨rfl, rfl, rfl, rfl⟩
    · rw [if_neg c_7]
      obtain ⟨j, hj, rfl⟩ : ∃ j, j < 9 ∧ w = nI j := by
        rcases pk_ix w (n := 9) (by decide) with q | q | q
        · exact absurd q c_1
        · exact absurd q c_7
        · exact q
      rw [nI_clamp (by omega)]
      refine hv_aload_n dX1_varValue_10 rfl ?_
      refine hv_getr dX1_varValue_11 fl_X1_24 (by first | rfl | assumption) rfl (by first | rfl | assumption) ?_
      refine hv_iload_n dX1_varValue_14 rfl ?_
      refine hv_iald dX1_varValue_15 (by first | rfl | assumption) rfl (by first | assumption | omega) (by first | decide | assumption) ?_
      refine hv_goto (tgt := 20) dX1_varValue_16 (by decide) ?_
      refine hv_iret dX1_varValue_20 rfl ?_
      exact ⟨rfl, rfl, rfl, rfl⟩
theorem c_joined {s a b : Int32} {r : hR} : hCal G (m_X1_joined (hEq (some (.int (lJoin s a b))) r σ τ)) [.int s, .int a, .int b] shp r σ τ := by
  refine hv_enter pn_X1 rfl ?_
  refine hv_iload_n dX1_joined_0 rfl ?_
  by_cases c_1_0 : s = 2
  · refine hv_tin (off := 27) (tgt := 28) (i := 0) dX1_joined_1 c_1_0 (by decide) (by decide) (by decide) (by decide) ?_
    refine hv_iload_n dX1_joined_28 rfl ?_
    refine hv_iload_n dX1_joined_29 rfl ?_
    refine hv_iadd dX1_joined_30 ?_
    refine hv_iret dX1_joined_31 rfl ?_
    subst c_1_0; exact ⟨rfl, rfl, rfl, rfl⟩
  by_cases c_1_1 : s = 3
  · refine hv_tin (off := 31) (tgt := 32) (i := 1) dX1_joined_1 c_1_1 (by decide) (by decide) (by decide) (by decide) ?_
    refine hv_iload_n dX1_joined_32 rfl ?_
    refine hv_iload_n dX1_joined_33 rfl ?_
    refine hv_isub dX1_joined_34 ?_
    refine hv_iret dX1_joined_35 rfl ?_
    subst c_1_1; exact ⟨rfl, rfl, rfl, rfl⟩
  by_cases c_1_2 : s = 4
  · refine hv_tin (off := 35) (tgt := 36) (i := 2) dX1_joined_1 c_1_2 (by decide) (by decide) (by decide) (by decide) ?_
    refine hv_iload_n dX1_joined_36 rfl ?_
    refine hv_iload_n dX1_joined_37 rfl ?_
    refine hv_imul dX1_joined_38 ?_
    refine hv_iret dX1_joined_39 rfl ?_
    subst c_1_2; exact ⟨rfl, rfl, rfl, rfl⟩
  refine hv_tout (tgt := 40) dX1_joined_1 (by have q0 := lv_neT (a := 2) c_1_0 (by decide); have q1 := lv_neT (a := 3) c_1_1 (by decide); have q2 := lv_neT (a := 4) c_1_2 (by decide); omega) (by decide) ?_
  refine hv_iload_n dX1_joined_40 rfl ?_
  refine hv_if_ne (tgt := 48) dX1_joined_41 (by decide) (fun c_41 => ?_) (fun c_41 => ?_)
  · refine hv_iload_n dX1_joined_48 rfl ?_
    refine hv_iload_n dX1_joined_49 rfl ?_
    refine hv_idiv dX1_joined_50 (by assumption) ?_
    refine hv_iret dX1_joined_51 rfl ?_
    refine ⟨?_, rfl, rfl, rfl⟩
    rw [lJoin, if_neg c_1_0, if_neg c_1_1, if_neg c_1_2]
    first | rw [if_pos c_41] | rw [if_neg c_41]
  · refine hv_iconst (v := 0) dX1_joined_44 (by decide) ?_
    refine hv_goto (tgt := 51) dX1_joined_45 (by decide) ?_
    refine hv_iret dX1_joined_51 rfl ?_
    refine ⟨?_, rfl, rfl, rfl⟩
    rw [lJoin, if_neg c_1_0, if_neg c_1_1, if_neg c_1_2]
    first | rw [if_pos c_41] | rw [if_neg c_41]
theorem c_value {k sz : Nat} (hk : k < 5) (hsz : σ 45 5 = nI sz) (hs : sz ≤ 410) : hCal G (m_X1_value (hQx [49] (some (.int (lvalC (σ 46) (σ 47) sz (σ 50) sz (σ 48 k) []))) (rr 38 51 x y) σ τ)) [.ref (hgA G 45), .int (nI k)] shp (rr 38 51 x y) σ τ := by
  refine hv_enter pn_X1 rfl ?_
  generalize hR : lvalC (σ 46) (σ 47) sz (σ 50) sz (σ 48 k) [] = res
  have loop : ∀ (n i : Nat) (w : Int32) (s : List Int32) (σ' : hS), (∀ c, c ∉ [49] → σ' c = σ c) → hstk (σ' 49) s → s.length ≤ 24 → i + n = sz → lvalC (σ 46) (σ 47) sz (σ 50) n w s = res → hV G (m_X1_value (hQx [49] (some (.int res)) (rr 38 51 x y) σ τ)) 0 0 shp 28 [some (.ref (hgA G 45)), some (.int (nI k)), some (.int w), some (.int (nI s.length)), some (.int (nI i)), none, none, none] [] (rr 38 51 x y) σ' τ := by
    intro n
    induction n with
    | zero =>
      intro i w s σ' hσ hst hl hi hres
      refine hv_iload dX1_value_28 rfl ?_
      refine hv_aload_n dX1_value_30 rfl ?_
      refine hv_geti dX1_value_31 fl_X1_27 (by first | rfl | assumption) rfl ?_
      refine hv_icmp_ge (tgt := 236) dX1_value_34 (by decide) (fun c_34 => ?_) (fun c_34 => absurd ((by rw [hσ 45 (by decide), hsz, ← hi]; exact nI_le (Nat.le_refl _) (by omega))) c_34)
      refine hv_iconst (v := 0) dX1_value_236 (by decide) ?_
      refine hv_iret dX1_value_237 rfl ?_
      exact ⟨by rw [← hres]; rfl, rfl, rfl, hσ⟩
    | succ n ih =>
      intro i w s σ' hσ hst hl hi hres
      have hz : σ' 45 5 = nI sz := by rw [hσ 45 (by decide), hsz]
      have e6 : σ' 46 = σ 46 := hσ 46 (by decide)
      have e7 : σ' 47 = σ 47 := hσ 47 (by decide)
      have e0 : σ' 50 = σ 50 := hσ 50 (by decide)
      have put : ∀ (j : Nat) (z : Int32), ∀ c, c ∉ [49] → va_up σ' 49 (upd (σ' 49) j z) c = σ c := fun j z c hc => by rw [hva_ne (by simpa using hc)]; exact hσ c hc
      unfold lvalC at hres
      refine hv_iload dX1_value_28 rfl ?_
      refine hv_aload_n dX1_value_30 rfl ?_
      refine hv_geti dX1_value_31 fl_X1_27 (by first | rfl | assumption) rfl ?_
      refine hv_icmp_ge (tgt := 236) dX1_value_34 (by decide) (fun c_34 => absurd c_34 ((by rw [hz]; exact nI_ge (by omega) (by omega)))) (fun c_34 => ?_)
      refine hv_iload_n dX1_value_37 rfl ?_
      refine hv_if_lt (tgt := 236) dX1_value_38 (by decide) (fun c_38 => ?_) (fun c_38 => ?_)
      · rw [if_pos c_38] at hres
        refine hv_iconst (v := 0) dX1_value_236 (by decide) ?_
        refine hv_iret dX1_value_237 rfl ?_
        first | exact ⟨congrArg (fun z => some (Value.int z)) hres.symm, rfl, rfl, hσ⟩ | exact ⟨congrArg (fun z => some (Value.int z)) (hst.1.trans hres).symm, rfl, rfl, hσ⟩
      · rw [if_neg c_38] at hres
        refine hv_iload_n dX1_value_41 rfl ?_
        refine hv_aload_n dX1_value_42 rfl ?_
        refine hv_geti dX1_value_43 fl_X1_27 (by first | rfl | assumption) rfl ?_
        refine hv_icmp_ge (tgt := 236) dX1_value_46 (by decide) (fun c_46 => ?_) (fun c_46 => ?_)
        · rw [hz] at c_46
          rw [if_pos c_46] at hres
          refine hv_iconst (v := 0) dX1_value_236 (by decide) ?_
          refine hv_iret dX1_value_237 rfl ?_
          first | exact ⟨congrArg (fun z => some (Value.int z)) hres.symm, rfl, rfl, hσ⟩ | exact ⟨congrArg (fun z => some (Value.int z)) (hst.1.trans hres).symm, rfl, rfl, hσ⟩
        · rw [hz] at c_46
          rw [if_neg c_46] at hres
          obtain ⟨j, hj, rfl⟩ : ∃ j, j < sz ∧ w = nI j := by
            rcases pk_ix w (n := sz) (by omega) with q | q | q
            · exact absurd q c_38
            · exact absurd q c_46
            · exact q
          rw [nI_clamp (by omega)] at hres
          refine hv_aload_n dX1_value_49 rfl ?_
          refine hv_getr dX1_value_50 fl_X1_11 (by first | rfl | assumption) rfl (by first | rfl | assumption) ?_
          refine hv_iload_n dX1_value_53 rfl ?_
          refine hv_iald dX1_value_54 (by first | rfl | assumption) rfl (by first | assumption | omega) (by first | decide | assumption) ?_
          refine hv_istore dX1_value_55 rfl rfl ?_
          refine hv_iload dX1_value_57 rfl ?_
          refine hv_bipush (v := 7) dX1_value_59 (by decide) ?_
          refine hv_icmp_ne (tgt := 81) dX1_value_61 (by decide) (fun c_61 => ?_) (fun c_61 => ?_)
          · rw [e6] at c_61
            rw [if_neg c_61] at hres
            refine hv_iload dX1_value_81 rfl ?_
            refine hv_iconst (v := 1) dX1_value_83 (by decide) ?_
            refine hv_icmp_gt (tgt := 134) dX1_value_84 (by decide) (fun c_84 => ?_) (fun c_84 => ?_)
            · rw [e6] at c_84
              rw [if_neg (Int32.not_le.mpr c_84)] at hres
              refine hv_iload_n dX1_value_134 rfl ?_
              refine hv_iconst (v := 2) dX1_value_135 (by decide) ?_
              refine hv_icmp_ge (tgt := 141) dX1_value_136 (by decide) (fun c_136 => ?_) (fun c_136 => ?_)
              · obtain ⟨b, a, s, rfl⟩ : ∃ b a s', s = b :: a :: s' := by
                  match s, c_136 with
                  | [], h => exact absurd h (by decide)
                  | [b], h => exact absurd h (show ¬ (2 : Int32) ≤ nI 1 by decide)
                  | b :: a :: s', _ => exact ⟨b, a, s', rfl⟩
                obtain ⟨hb, ha, hst2⟩ := hst
                simp only [List.length_cons] at hl hb ha
                refine hv_aload_n dX1_value_141 rfl ?_
                refine hv_getr dX1_value_142 fl_X1_21 (by first | rfl | assumption) rfl (by first | rfl | assumption) ?_
                refine hv_iload_n dX1_value_145 rfl ?_
                refine hv_iconst (v := 2) dX1_value_146 (by decide) ?_
                refine hv_isub dX1_value_147 ?_
                refine hv_iald dX1_value_148 (by first | rfl | assumption) (show nI (s.length + 1 + 1) - 2 = nI s.length from pk_sub (b := 2) (by omega)) (by omega) (by first | decide | assumption) ?_
                refine hv_istore dX1_value_149 rfl rfl ?_
                refine hv_aload_n dX1_value_151 rfl ?_
                refine hv_getr dX1_value_152 fl_X1_21 (by first | rfl | assumption) rfl (by first | rfl | assumption) ?_
                refine hv_iload_n dX1_value_155 rfl ?_
                refine hv_iconst (v := 1) dX1_value_156 (by decide) ?_
                refine hv_isub dX1_value_157 ?_
                refine hv_iald dX1_value_158 (by first | rfl | assumption) (show nI (s.length + 1 + 1) - 1 = nI (s.length + 1) from nI_pred _) (by omega) (by first | decide | assumption) ?_
                refine hv_istore dX1_value_159 rfl rfl ?_
                refine hv_iload dX1_value_161 rfl ?_
                refine hv_bipush (v := 6) dX1_value_163 (by decide) ?_
                refine hv_icmp_ne (tgt := 194) dX1_value_165 (by decide) (fun c_165 => ?_) (fun c_165 => ?_)
                · rw [e6] at c_165
                  dsimp only at hres
                  rw [if_neg c_165] at hres
                  refine hv_iload dX1_value_194 rfl ?_
                  refine hv_iconst (v := 5) dX1_value_196 (by decide) ?_
                  refine hv_icmp_ne (tgt := 207) dX1_value_197 (by decide) (fun c_197 => ?_) (fun c_197 => ?_)
                  · rw [e6] at c_197
                    rw [if_neg (fun q => c_197 q.1)] at hres
                    refine hv_iinc dX1_value_207 rfl (show nI (s.length + 1 + 1) + (-1) = nI (s.length + 1) from pk_m1 _) rfl rfl ?_
                    refine hv_aload_n dX1_value_210 rfl ?_
                    refine hv_getr dX1_value_211 fl_X1_21 (by first | rfl | assumption) rfl (by first | rfl | assumption) ?_
                    refine hv_iload_n dX1_value_214 rfl ?_
                    refine hv_iconst (v := 1) dX1_value_215 (by decide) ?_
                    refine hv_isub dX1_value_216 ?_
                    refine hv_iload dX1_value_217 rfl ?_
                    refine hv_iload dX1_value_219 rfl ?_
                    refine hv_iload dX1_value_221 rfl ?_
                    refine hv_cs3 (c_joined) dX1_value_223 ml_X1_47 mk_X1_joined rfl rfl rfl ?_
                    rintro _ _ _ _ ⟨rfl, rfl, rfl, rfl⟩
                    refine hv_iast dX1_value_226 (by first | rfl | assumption) (show nI (s.length + 1) - 1 = nI s.length from nI_pred _) (by omega) (by first | decide | assumption) ?_
                    refine hv_iinc dX1_value_227 rfl (nI_1 j) rfl rfl ?_
                    refine hv_iinc dX1_value_230 rfl (nI_1 i) rfl rfl ?_
                    refine hv_goto (tgt := 28) dX1_value_233 (by decide) ?_
                    refine hv_drop 5 (hv_drop 6 (hv_drop 7 ?_))
                    first
                      | exact ih (i + 1) _ (_ :: s) _ (put _ _) ⟨by rw [hup_eq, pk_us], by rw [hup_eq]; exact hstk_upd (Nat.le_refl _) hst⟩ (by simp; omega) (by omega) (by rw [← hres, nI_1, e7]; try rw [e0])
                      | exact ih (i + 1) _ s _ hσ hst2 (by omega) (by omega) (by rw [← hres, e7])
                      | exact ih (i + 1) _ s _ hσ hst2 (by omega) (by omega) hres
                      | exact ih (i + 1) _ (_ :: s) _ (put _ _) ⟨by rw [hup_eq, pk_us], by rw [hup_eq]; exact hstk_upd (Nat.le_refl _) hst2⟩ (by simp; omega) (by omega) (by rw [← hres, nI_1, e6, hb, ha])
                  · rw [e6] at c_197
                    refine hv_iload dX1_value_200 rfl ?_
                    refine hv_if_ne (tgt := 207) dX1_value_202 (by decide) (fun c_202 => ?_) (fun c_202 => ?_)
                    · rw [hb] at c_202
                      rw [if_neg (fun q => c_202 q.2)] at hres
                      refine hv_iinc dX1_value_207 rfl (show nI (s.length + 1 + 1) + (-1) = nI (s.length + 1) from pk_m1 _) rfl rfl ?_
                      refine hv_aload_n dX1_value_210 rfl ?_
                      refine hv_getr dX1_value_211 fl_X1_21 (by first | rfl | assumption) rfl (by first | rfl | assumption) ?_
                      refine hv_iload_n dX1_value_214 rfl ?_
                      refine hv_iconst (v := 1) dX1_value_215 (by decide) ?_
                      refine hv_isub dX1_value_216 ?_
                      refine hv_iload dX1_value_217 rfl ?_
                      refine hv_iload dX1_value_219 rfl ?_
                      refine hv_iload dX1_value_221 rfl ?_
                      refine hv_cs3 (c_joined) dX1_value_223 ml_X1_47 mk_X1_joined rfl rfl rfl ?_
                      rintro _ _ _ _ ⟨rfl, rfl, rfl, rfl⟩
                      refine hv_iast dX1_value_226 (by first | rfl | assumption) (show nI (s.length + 1) - 1 = nI s.length from nI_pred _) (by omega) (by first | decide | assumption) ?_
                      refine hv_iinc dX1_value_227 rfl (nI_1 j) rfl rfl ?_
                      refine hv_iinc dX1_value_230 rfl (nI_1 i) rfl rfl ?_
                      refine hv_goto (tgt := 28) dX1_value_233 (by decide) ?_
                      refine hv_drop 5 (hv_drop 6 (hv_drop 7 ?_))
                      first
                        | exact ih (i + 1) _ (_ :: s) _ (put _ _) ⟨by rw [hup_eq, pk_us], by rw [hup_eq]; exact hstk_upd (Nat.le_refl _) hst⟩ (by simp; omega) (by omega) (by rw [← hres, nI_1, e7]; try rw [e0])
                        | exact ih (i + 1) _ s _ hσ hst2 (by omega) (by omega) (by rw [← hres, e7])
                        | exact ih (i + 1) _ s _ hσ hst2 (by omega) (by omega) hres
                        | exact ih (i + 1) _ (_ :: s) _ (put _ _) ⟨by rw [hup_eq, pk_us], by rw [hup_eq]; exact hstk_upd (Nat.le_refl _) hst2⟩ (by simp; omega) (by omega) (by rw [← hres, nI_1, e6, hb, ha])
                    · rw [hb] at c_202
                      rw [if_pos ⟨c_197, c_202⟩] at hres
                      refine hv_iconst (v := 0) dX1_value_205 (by decide) ?_
                      refine hv_iret dX1_value_206 rfl ?_
                      first | exact ⟨congrArg (fun z => some (Value.int z)) hres.symm, rfl, rfl, hσ⟩ | exact ⟨congrArg (fun z => some (Value.int z)) (hst.1.trans hres).symm, rfl, rfl, hσ⟩
                · rw [e6] at c_165
                  dsimp only at hres
                  rw [if_pos c_165] at hres
                  refine hv_iinc dX1_value_168 rfl (show nI (s.length + 1 + 1) + (-2) = nI s.length from pk_m2 _) rfl rfl ?_
                  refine hv_iload dX1_value_171 rfl ?_
                  refine hv_iload dX1_value_173 rfl ?_
                  refine hv_icmp_ge (tgt := 184) dX1_value_175 (by decide) (fun c_175 => ?_) (fun c_175 => ?_)
                  · rw [hb, ha] at c_175
                    rw [if_neg (Int32.not_lt.mpr c_175)] at hres
                    refine hv_aload_n dX1_value_184 rfl ?_
                    refine hv_getr dX1_value_185 fl_X1_15 (by first | rfl | assumption) rfl (by first | rfl | assumption) ?_
                    refine hv_iload_n dX1_value_188 rfl ?_
                    refine hv_iald dX1_value_189 (by first | rfl | assumption) rfl (by first | assumption | omega) (by first | decide | assumption) ?_
                    refine hv_istore_n dX1_value_190 rfl rfl ?_
                    refine hv_goto (tgt := 230) dX1_value_191 (by decide) ?_
                    refine hv_iinc dX1_value_230 rfl (nI_1 i) rfl rfl ?_
                    refine hv_goto (tgt := 28) dX1_value_233 (by decide) ?_
                    refine hv_drop 5 (hv_drop 6 (hv_drop 7 ?_))
                    first
                      | exact ih (i + 1) _ (_ :: s) _ (put _ _) ⟨by rw [hup_eq, pk_us], by rw [hup_eq]; exact hstk_upd (Nat.le_refl _) hst⟩ (by simp; omega) (by omega) (by rw [← hres, nI_1, e7]; try rw [e0])
                      | exact ih (i + 1) _ s _ hσ hst2 (by omega) (by omega) (by rw [← hres, e7])
                      | exact ih (i + 1) _ s _ hσ hst2 (by omega) (by omega) hres
                      | exact ih (i + 1) _ (_ :: s) _ (put _ _) ⟨by rw [hup_eq, pk_us], by rw [hup_eq]; exact hstk_upd (Nat.le_refl _) hst2⟩ (by simp; omega) (by omega) (by rw [← hres, nI_1, e6, hb, ha])
                  · rw [hb, ha] at c_175
                    rw [if_pos (Int32.not_le.mp c_175)] at hres
                    refine hv_iload_n dX1_value_178 rfl ?_
                    refine hv_iconst (v := 1) dX1_value_179 (by decide) ?_
                    refine hv_iadd dX1_value_180 ?_
                    refine hv_goto (tgt := 190) dX1_value_181 (by decide) ?_
                    refine hv_istore_n dX1_value_190 rfl rfl ?_
                    refine hv_goto (tgt := 230) dX1_value_191 (by decide) ?_
                    refine hv_iinc dX1_value_230 rfl (nI_1 i) rfl rfl ?_
                    refine hv_goto (tgt := 28) dX1_value_233 (by decide) ?_
                    refine hv_drop 5 (hv_drop 6 (hv_drop 7 ?_))
                    first
                      | exact ih (i + 1) _ (_ :: s) _ (put _ _) ⟨by rw [hup_eq, pk_us], by rw [hup_eq]; exact hstk_upd (Nat.le_refl _) hst⟩ (by simp; omega) (by omega) (by rw [← hres, nI_1, e7]; try rw [e0])
                      | exact ih (i + 1) _ s _ hσ hst2 (by omega) (by omega) (by rw [← hres, e7])
                      | exact ih (i + 1) _ s _ hσ hst2 (by omega) (by omega) hres
                      | exact ih (i + 1) _ (_ :: s) _ (put _ _) ⟨by rw [hup_eq, pk_us], by rw [hup_eq]; exact hstk_upd (Nat.le_refl _) hst2⟩ (by simp; omega) (by omega) (by rw [← hres, nI_1, e6, hb, ha])
              · have hres : (0 : Int32) = res := by
                  match s, c_136, hres with
                  | [], _, h => exact h
                  | [b], _, h => exact h
                  | a :: b :: s', h, _ => exact absurd (nI_le (show 2 ≤ (a :: b :: s').length by simp) (by simp at hl ⊢; omega)) h
                refine hv_iconst (v := 0) dX1_value_139 (by decide) ?_
                refine hv_iret dX1_value_140 rfl ?_
                first | exact ⟨congrArg (fun z => some (Value.int z)) hres.symm, rfl, rfl, hσ⟩ | exact ⟨congrArg (fun z => some (Value.int z)) (hst.1.trans hres).symm, rfl, rfl, hσ⟩
            · rw [e6] at c_84
              rw [if_pos (Int32.not_lt.mp c_84)] at hres
              refine hv_iload_n dX1_value_87 rfl ?_
              refine hv_bipush (v := 24) dX1_value_88 (by decide) ?_
              refine hv_icmp_lt (tgt := 95) dX1_value_90 (by decide) (fun c_90 => ?_) (fun c_90 => ?_)
              · have c90 : s.length < 24 := (nI_ltI (by omega) (by decide)).mp c_90
                rw [if_pos c90] at hres
                refine hv_aload_n dX1_value_95 rfl ?_
                refine hv_getr dX1_value_96 fl_X1_21 (by first | rfl | assumption) rfl (by first | rfl | assumption) ?_
                refine hv_iload_n dX1_value_99 rfl ?_
                refine hv_iload dX1_value_100 rfl ?_
                refine hv_if_ne (tgt := 114) dX1_value_102 (by decide) (fun c_102 => ?_) (fun c_102 => ?_)
                · rw [e6] at c_102
                  rw [if_neg c_102] at hres
                  refine hv_aload_n dX1_value_114 rfl ?_
                  refine hv_aload_n dX1_value_115 rfl ?_
                  refine hv_getr dX1_value_116 fl_X1_15 (by first | rfl | assumption) rfl (by first | rfl | assumption) ?_
                  refine hv_iload_n dX1_value_119 rfl ?_
                  refine hv_iald dX1_value_120 (by first | rfl | assumption) rfl (by first | assumption | omega) (by first | decide | assumption) ?_
                  refine hv_cv1 (c_varValue) dX1_value_121 ml_X1_43 mk_X1_varValue (by first | rfl | assumption) rfl rfl rfl rfl rfl ?_
                  rintro _ _ _ _ ⟨rfl, rfl, rfl, rfl⟩
                  refine hv_iast dX1_value_124 (by first | rfl | assumption) rfl (by omega) (by first | decide | assumption) ?_
                  refine hv_iinc dX1_value_125 rfl (nI_1 s.length) rfl rfl ?_
                  refine hv_iinc dX1_value_128 rfl (nI_1 j) rfl rfl ?_
                  refine hv_goto (tgt := 230) dX1_value_131 (by decide) ?_
                  refine hv_iinc dX1_value_230 rfl (nI_1 i) rfl rfl ?_
                  refine hv_goto (tgt := 28) dX1_value_233 (by decide) ?_
                  refine hv_drop 5 (hv_drop 6 (hv_drop 7 ?_))
                  first
                    | exact ih (i + 1) _ (_ :: s) _ (put _ _) ⟨by rw [hup_eq, pk_us], by rw [hup_eq]; exact hstk_upd (Nat.le_refl _) hst⟩ (by simp; omega) (by omega) (by rw [← hres, nI_1, e7]; try rw [e0])
                    | exact ih (i + 1) _ s _ hσ hst2 (by omega) (by omega) (by rw [← hres, e7])
                    | exact ih (i + 1) _ s _ hσ hst2 (by omega) (by omega) hres
                    | exact ih (i + 1) _ (_ :: s) _ (put _ _) ⟨by rw [hup_eq, pk_us], by rw [hup_eq]; exact hstk_upd (Nat.le_refl _) hst2⟩ (by simp; omega) (by omega) (by rw [← hres, nI_1, e6, hb, ha])
                · rw [e6] at c_102
                  rw [if_pos c_102] at hres
                  refine hv_aload_n dX1_value_105 rfl ?_
                  refine hv_getr dX1_value_106 fl_X1_15 (by first | rfl | assumption) rfl (by first | rfl | assumption) ?_
                  refine hv_iload_n dX1_value_109 rfl ?_
                  refine hv_iald dX1_value_110 (by first | rfl | assumption) rfl (by first | assumption | omega) (by first | decide | assumption) ?_
                  refine hv_goto (tgt := 124) dX1_value_111 (by decide) ?_
                  refine hv_iast dX1_value_124 (by first | rfl | assumption) rfl (by omega) (by first | decide | assumption) ?_
                  refine hv_iinc dX1_value_125 rfl (nI_1 s.length) rfl rfl ?_
                  refine hv_iinc dX1_value_128 rfl (nI_1 j) rfl rfl ?_
                  refine hv_goto (tgt := 230) dX1_value_131 (by decide) ?_
                  refine hv_iinc dX1_value_230 rfl (nI_1 i) rfl rfl ?_
                  refine hv_goto (tgt := 28) dX1_value_233 (by decide) ?_
                  refine hv_drop 5 (hv_drop 6 (hv_drop 7 ?_))
                  first
                    | exact ih (i + 1) _ (_ :: s) _ (put _ _) ⟨by rw [hup_eq, pk_us], by rw [hup_eq]; exact hstk_upd (Nat.le_refl _) hst⟩ (by simp; omega) (by omega) (by rw [← hres, nI_1, e7]; try rw [e0])
                    | exact ih (i + 1) _ s _ hσ hst2 (by omega) (by omega) (by rw [← hres, e7])
                    | exact ih (i + 1) _ s _ hσ hst2 (by omega) (by omega) hres
                    | exact ih (i + 1) _ (_ :: s) _ (put _ _) ⟨by rw [hup_eq, pk_us], by rw [hup_eq]; exact hstk_upd (Nat.le_refl _) hst2⟩ (by simp; omega) (by omega) (by rw [← hres, nI_1, e6, hb, ha])
              · have c90 : ¬ s.length < 24 := fun q => c_90 ((nI_ltI (by omega) (by decide)).mpr q)
                rw [if_neg c90] at hres
                refine hv_iconst (v := 0) dX1_value_93 (by decide) ?_
                refine hv_iret dX1_value_94 rfl ?_
                first | exact ⟨congrArg (fun z => some (Value.int z)) hres.symm, rfl, rfl, hσ⟩ | exact ⟨congrArg (fun z => some (Value.int z)) (hst.1.trans hres).symm, rfl, rfl, hσ⟩
          · rw [e6] at c_61
            rw [if_pos c_61] at hres
            refine hv_iload_n dX1_value_64 rfl ?_
            refine hv_if_le (tgt := 79) dX1_value_65 (by decide) (fun c_65 => ?_) (fun c_65 => ?_)
            · obtain rfl : s = [] := by
                cases s with
                | nil => rfl
                | cons b s' => exact absurd c_65 (nI_nle (by simp) (by simp at hl ⊢; omega))
              refine hv_iconst (v := 0) dX1_value_79 (by decide) ?_
              refine hv_iret dX1_value_80 rfl ?_
              first | exact ⟨congrArg (fun z => some (Value.int z)) hres.symm, rfl, rfl, hσ⟩ | exact ⟨congrArg (fun z => some (Value.int z)) (hst.1.trans hres).symm, rfl, rfl, hσ⟩
            · obtain ⟨b, s, rfl⟩ : ∃ b s', s = b :: s' := by
                cases s with
                | nil => exact absurd (Int32.le_refl 0) c_65
                | cons b s' => exact ⟨b, s', rfl⟩
              refine hv_aload_n dX1_value_68 rfl ?_
              refine hv_getr dX1_value_69 fl_X1_21 (by first | rfl | assumption) rfl (by first | rfl | assumption) ?_
              refine hv_iload_n dX1_value_72 rfl ?_
              refine hv_iconst (v := 1) dX1_value_73 (by decide) ?_
              refine hv_isub dX1_value_74 ?_
              refine hv_iald dX1_value_75 (by first | rfl | assumption) (nI_pred s.length) (by simp at hl; omega) (by first | decide | assumption) ?_
              refine hv_goto (tgt := 80) dX1_value_76 (by decide) ?_
              refine hv_iret dX1_value_80 rfl ?_
              first | exact ⟨congrArg (fun z => some (Value.int z)) hres.symm, rfl, rfl, hσ⟩ | exact ⟨congrArg (fun z => some (Value.int z)) (hst.1.trans hres).symm, rfl, rfl, hσ⟩
  refine hv_iload_n dX1_value_0 rfl ?_
  refine hv_if_lt (tgt := 18) dX1_value_1 (by decide) (fun c_1 => absurd c_1 ((nI_pos (by omega)))) (fun c_1 => ?_)
  refine hv_iload_n dX1_value_4 rfl ?_
  refine hv_iconst (v := 5) dX1_value_5 (by decide) ?_
  refine hv_icmp_ge (tgt := 18) dX1_value_6 (by decide) (fun c_6 => absurd c_6 ((nI_ge (b := 5) (by omega) (by decide)))) (fun c_6 => ?_)
  refine hv_aload_n dX1_value_9 rfl ?_
  refine hv_getr dX1_value_10 fl_X1_18 (by first | rfl | assumption) rfl (by first | rfl | assumption) ?_
  refine hv_iload_n dX1_value_13 rfl ?_
  refine hv_iald dX1_value_14 (by first | rfl | assumption) rfl (by first | assumption | omega) (by first | decide | assumption) ?_
  refine hv_goto (tgt := 22) dX1_value_15 (by decide) ?_
  refine hv_istore_n dX1_value_22 rfl rfl ?_
  refine hv_iconst (v := 0) dX1_value_23 (by decide) ?_
  refine hv_istore_n dX1_value_24 rfl rfl ?_
  refine hv_iconst (v := 0) dX1_value_25 (by decide) ?_
  refine hv_istore dX1_value_26 rfl rfl ?_
  exact loop sz 0 _ [] σ (fun _ _ => rfl) trivial (by simp) (by omega) hR
end S12

