abbrev g_X1_put (Sh : hSh) (Q : hPo) : hMe := (hrm 0, 0, 0, yX1_put, cX1_put, 3, (some FieldType.int), Sh, none, Q)
abbrev g_X1_startHere (Sh : hSh) (Q : hPo) : hMe := (hrm 0, 0, 0, yX1_startHere, cX1_startHere, 2, (none : Option FieldType), Sh, none, Q)
abbrev g_X1_putUntold (Sh : hSh) (Q : hPo) : hMe := (hrm 1, 0, 0, yX1_putUntold, cX1_putUntold, 4, (none : Option FieldType), Sh, none, Q)
abbrev g_X1_reset (Sh : hSh) (Q : hPo) : hMe := (hrm 2, 0, 0, yX1_reset, cX1_reset, 1, (none : Option FieldType), Sh, none, Q)
abbrev g_X10_clear (Sh : hSh) (Q : hPo) : hMe := (hrm 3, 0, 0, yX10_clear, cX10_clear, 1, (none : Option FieldType), Sh, none, Q)
abbrev g_X6_begin (Sh : hSh) (Q : hPo) : hMe := (hrm 0, 0, 0, yX6_begin, cX6_begin, 3, (none : Option FieldType), Sh, none, Q)
abbrev m_X11_takeDraft (Q : hPo) : hMe := (hrm 1, 0, 0, yX11_takeDraft, cX11_takeDraft, 2, (none : Option FieldType), shp, none, Q)
abbrev m_X11_read (Q : hPo) : hMe := (hrm 33, 0, 0, yX11_read, cX11_read, 3, (some FieldType.int), shp, none, Q)
section S87
variable {G : hGl} {σ : hS} {τ : hT} {x y : Option Nat}
def putS (L sz : Nat) (k o : Int32) (σ : hS) : hS := va_up (va_up (va_up σ (L + 1) (upd (σ (L + 1)) sz k)) (L + 2) (upd (σ (L + 2)) sz o)) L (upd (σ L) 5 (nI (sz + 1)))
def untS (L sz l : Nat) (k o : Int32) (σ : hS) : hS := putS L (sz + 1) 7 0 (putS L sz k o (va_up σ (L + 3) (upd (σ (L + 3)) l (nI sz))))
def rstS (L : Nat) (σ : hS) : hS := untS L 8 4 0 0 (untS L 6 3 1 0 (untS L 4 2 0 5 (untS L 2 1 0 0 (untS L 0 0 0 10 (va_up σ L (upd (σ L) 5 0))))))
def clrT (T : Nat) (σ : hS) : hS := va_up σ T (upd (upd (upd (upd (upd (upd (σ T) 7 0) 8 0) 9 0) 10 20) 11 0) 12 0)
/-- how laws lie -/
def lwSh (Sh : hSh) (r : hR) (L : Nat) : Prop := hkd Sh L = (0, 1) ∧ hkd Sh (L + 1) = (1, 410) ∧ hkd Sh (L + 2) = (1, 410) ∧ hkd Sh (L + 3) = (1, 5) ∧ r L 0 = some (L + 1) ∧ r L 1 = some (L + 2) ∧ r L 2 = some (L + 3)
theorem g_put_45 {Sh : hSh} {r : hR} {sz : Nat} {k o : Int32} (hw : lwSh Sh r 45) (h5 : σ 45 5 = nI sz) (c : sz < 410) : hCal G (g_X1_put Sh (hEq (some (.int (nI sz))) r (putS 45 sz k o σ) τ)) [.ref (hgA G 45), .int k, .int o] Sh r σ τ := by
  obtain ⟨w1, w2, w3, w4, w5, w6, w7⟩ := hw
  refine hv_enter pn_X1 rfl ?_
  refine hv_aload_n dX1_put_0 rfl ?_
  refine hv_geti dX1_put_1 fl_X1_27 (by first | rfl | assumption) rfl ?_
  refine hv_sipush (v := 410) dX1_put_4 (by decide) ?_
  refine hv_icmp_ge (tgt := 40) dX1_put_7 (by decide) (fun c_7 => absurd c_7 ((by rw [h5]; exact nI_ge (b := 410) c (by decide)))) (fun c_7 => ?_)
  refine hv_aload_n dX1_put_10 rfl ?_
  refine hv_getr dX1_put_11 fl_X1_11 (by first | rfl | assumption) rfl (by first | rfl | assumption) ?_
  refine hv_aload_n dX1_put_14 rfl ?_
  refine hv_geti dX1_put_15 fl_X1_27 (by first | rfl | assumption) rfl ?_
  refine hv_iload_n dX1_put_18 rfl ?_
  refine hv_iast dX1_put_19 (by first | rfl | assumption) (j := sz) h5 (by omega) (by first | decide | assumption) ?_
  refine hv_aload_n dX1_put_20 rfl ?_
  refine hv_getr dX1_put_21 fl_X1_15 (by first | rfl | assumption) rfl (by first | rfl | assumption) ?_
  refine hv_aload_n dX1_put_24 rfl ?_
  refine hv_geti dX1_put_25 fl_X1_27 (by first | rfl | assumption) rfl ?_
  refine hv_iload_n dX1_put_28 rfl ?_
  refine hv_iast dX1_put_29 (by first | rfl | assumption) (j := sz) h5 (by omega) (by first | decide | assumption) ?_
  refine hv_aload_n dX1_put_30 rfl ?_
  refine hv_dup dX1_put_31 rfl ?_
  refine hv_geti dX1_put_32 fl_X1_27 (by first | rfl | assumption) rfl ?_
  refine hv_iconst (v := 1) dX1_put_35 (by decide) ?_
  rw [hva_ne (show 45 ≠ 47 by decide), hva_ne (show 45 ≠ 46 by decide), h5]
  refine hv_iadd dX1_put_36 ?_
  rw [nI_1]
  refine hv_puti dX1_put_37 fl_X1_27 (by first | rfl | assumption) rfl rfl rfl ?_
  refine hv_aload_n dX1_put_40 rfl ?_
  refine hv_geti dX1_put_41 fl_X1_27 (by first | rfl | assumption) rfl ?_
  refine hv_iconst (v := 1) dX1_put_44 (by decide) ?_
  rw [hup_eq, pk_us]
  refine hv_isub dX1_put_45 ?_
  rw [nI_pred]
  refine hv_iret dX1_put_46 rfl ?_
  exact ⟨rfl, rfl, rfl, rfl⟩
theorem g_startHere_45 {Sh : hSh} {r : hR} {sz l : Nat} (hw : lwSh Sh r 45) (h5 : σ 45 5 = nI sz) (hl : l < 5) : hCal G (g_X1_startHere Sh (hEq none r (va_up σ 48 (upd (σ 48) l (nI sz))) τ)) [.ref (hgA G 45), .int (nI l)] Sh r σ τ := by
  obtain ⟨w1, w2, w3, w4, w5, w6, w7⟩ := hw
  refine hv_enter pn_X1 rfl ?_
  refine hv_iload_n dX1_startHere_0 rfl ?_
  refine hv_if_lt (tgt := 19) dX1_startHere_1 (by decide) (fun c_1 => absurd c_1 ((nI_pos (by omega)))) (fun c_1 => ?_)
  refine hv_iload_n dX1_startHere_4 rfl ?_
  refine hv_iconst (v := 5) dX1_startHere_5 (by decide) ?_
  refine hv_icmp_ge (tgt := 19) dX1_startHere_6 (by decide) (fun c_6 => absurd c_6 ((nI_ge (b := 5) hl (by decide)))) (fun c_6 => ?_)
  refine hv_aload_n dX1_startHere_9 rfl ?_
  refine hv_getr dX1_startHere_10 fl_X1_18 (by first | rfl | assumption) rfl (by first | rfl | assumption) ?_
  refine hv_iload_n dX1_startHere_13 rfl ?_
  refine hv_aload_n dX1_startHere_14 rfl ?_
  refine hv_geti dX1_startHere_15 fl_X1_27 (by first | rfl | assumption) rfl ?_
  refine hv_iast dX1_startHere_18 (by first | rfl | assumption) rfl (by first | assumption | omega) (by first | decide | assumption) ?_
  refine hv_vret dX1_startHere_19 rfl ?_
  rw [h5]; exact ⟨rfl, rfl, rfl, rfl⟩
theorem g_putUntold_45 {Sh : hSh} {r : hR} {sz l : Nat} {k o : Int32} (hw : lwSh Sh r 45) (h5 : σ 45 5 = nI sz) (hl : l < 5) (hs : sz < 400) : hCal G (g_X1_putUntold Sh (hEq none r (untS 45 sz l k o σ) τ)) [.ref (hgA G 45), .int (nI l), .int k, .int o] Sh r σ τ := by
  have w1 := hw.1
  refine hv_enter pn_X1 rfl ?_
  refine hv_aload_n dX1_putUntold_0 rfl ?_
  refine hv_iload_n dX1_putUntold_1 rfl ?_
  refine hv_cv1 (g_startHere_45 hw h5 hl) dX1_putUntold_2 ml_X1_35 mk_X1_startHere (by first | rfl | assumption) rfl rfl rfl rfl rfl ?_
  rintro _ _ _ _ ⟨rfl, rfl, rfl, rfl⟩
  refine hv_aload_n dX1_putUntold_5 rfl ?_
  refine hv_iload_n dX1_putUntold_6 rfl ?_
  refine hv_iload_n dX1_putUntold_7 rfl ?_
  refine hv_cv2 (g_put_45 (sz := sz) hw h5 (by omega)) dX1_putUntold_8 ml_X1_39 mk_X1_put (by first | rfl | assumption) rfl rfl rfl rfl rfl ?_
  rintro _ _ _ _ ⟨rfl, rfl, rfl, rfl⟩
  refine hv_pop dX1_putUntold_11 rfl ?_
  refine hv_aload_n dX1_putUntold_12 rfl ?_
  refine hv_bipush (v := 7) dX1_putUntold_13 (by decide) ?_
  refine hv_iconst (v := 0) dX1_putUntold_15 (by decide) ?_
  refine hv_cv2 (g_put_45 (sz := sz + 1) hw (by unfold putS; rw [hup_eq, pk_us]) (by omega)) dX1_putUntold_16 ml_X1_39 mk_X1_put (by first | rfl | assumption) rfl rfl rfl rfl rfl ?_
  rintro _ _ _ _ ⟨rfl, rfl, rfl, rfl⟩
  refine hv_pop dX1_putUntold_19 rfl ?_
  refine hv_vret dX1_putUntold_20 rfl ?_
  exact ⟨rfl, rfl, rfl, rfl⟩
theorem g_reset_45 {Sh : hSh} {r : hR} (hw : lwSh Sh r 45) : hCal G (g_X1_reset Sh (hEq none r (rstS 45 σ) τ)) [.ref (hgA G 45)] Sh r σ τ := by
  have w1 := hw.1
  refine hv_enter pn_X1 rfl ?_
  refine hv_aload_n dX1_reset_0 rfl ?_
  refine hv_iconst (v := 0) dX1_reset_1 (by decide) ?_
  refine hv_puti dX1_reset_2 fl_X1_27 (by first | rfl | assumption) rfl rfl rfl ?_
  refine hv_aload_n dX1_reset_5 rfl ?_
  refine hv_iconst (v := 0) dX1_reset_6 (by decide) ?_
  refine hv_iconst (v := 0) dX1_reset_7 (by decide) ?_
  refine hv_bipush (v := 10) dX1_reset_8 (by decide) ?_
  refine hv_cv3 (g_putUntold_45 (sz := 0) (l := 0) hw rfl (by decide) (by decide)) dX1_reset_10 ml_X1_31 mk_X1_putUntold (by first | rfl | assumption) rfl rfl rfl rfl rfl ?_
  rintro _ _ _ _ ⟨rfl, rfl, rfl, rfl⟩
  refine hv_aload_n dX1_reset_13 rfl ?_
  refine hv_iconst (v := 1) dX1_reset_14 (by decide) ?_
  refine hv_iconst (v := 0) dX1_reset_15 (by decide) ?_
  refine hv_iconst (v := 0) dX1_reset_16 (by decide) ?_
  refine hv_cv3 (g_putUntold_45 (sz := 2) (l := 1) hw rfl (by decide) (by decide)) dX1_reset_17 ml_X1_31 mk_X1_putUntold (by first | rfl | assumption) rfl rfl rfl rfl rfl ?_
  rintro _ _ _ _ ⟨rfl, rfl, rfl, rfl⟩
  refine hv_aload_n dX1_reset_20 rfl ?_
  refine hv_iconst (v := 2) dX1_reset_21 (by decide) ?_
  refine hv_iconst (v := 0) dX1_reset_22 (by decide) ?_
  refine hv_iconst (v := 5) dX1_reset_23 (by decide) ?_
  refine hv_cv3 (g_putUntold_45 (sz := 4) (l := 2) hw rfl (by decide) (by decide)) dX1_reset_24 ml_X1_31 mk_X1_putUntold (by first | rfl | assumption) rfl rfl rfl rfl rfl ?_
  rintro _ _ _ _ ⟨rfl, rfl, rfl, rfl⟩
  refine hv_aload_n dX1_reset_27 rfl ?_
  refine hv_iconst (v := 3) dX1_reset_28 (by decide) ?_
  refine hv_iconst (v := 1) dX1_reset_29 (by decide) ?_
  refine hv_iconst (v := 0) dX1_reset_30 (by decide) ?_
  refine hv_cv3 (g_putUntold_45 (sz := 6) (l := 3) hw rfl (by decide) (by decide)) dX1_reset_31 ml_X1_31 mk_X1_putUntold (by first | rfl | assumption) rfl rfl rfl rfl rfl ?_
  rintro _ _ _ _ ⟨rfl, rfl, rfl, rfl⟩
  refine hv_aload_n dX1_reset_34 rfl ?_
  refine hv_iconst (v := 4) dX1_reset_35 (by decide) ?_
  refine hv_iconst (v := 0) dX1_reset_36 (by decide) ?_
  refine hv_iconst (v := 0) dX1_reset_37 (by decide) ?_
  refine hv_cv3 (g_putUntold_45 (sz := 8) (l := 4) hw rfl (by decide) (by decide)) dX1_reset_38 ml_X1_31 mk_X1_putUntold (by first | rfl | assumption) rfl rfl rfl rfl rfl ?_
  rintro _ _ _ _ ⟨rfl, rfl, rfl, rfl⟩
  refine hv_vret dX1_reset_41 rfl ?_
  exact ⟨rfl, rfl, rfl, rfl⟩
theorem g_clear_45 {Sh : hSh} {r : hR} (ht : hkd Sh 38 = (0, 10)) (h6 : r 38 6 = some 45) (hw : lwSh Sh r 45) : hCal G (g_X10_clear Sh (hEq none r (rstS 45 (clrT 38 σ)) τ)) [.ref (hgA G 38)] Sh r σ τ := by
  have w1 := hw.1
  refine hv_enter pn_X10 rfl ?_
  refine hv_aload_n dX10_clear_0 rfl ?_
  refine hv_iconst (v := 0) dX10_clear_1 (by decide) ?_
  refine hv_puti dX10_clear_2 fl_X10_40 (by first | rfl | assumption) rfl rfl rfl ?_
  refine hv_aload_n dX10_clear_5 rfl ?_
  refine hv_iconst (v := 0) dX10_clear_6 (by decide) ?_
  refine hv_puti dX10_clear_7 fl_X10_44 (by first | rfl | assumption) rfl rfl rfl ?_
  refine hv_aload_n dX10_clear_10 rfl ?_
  refine hv_iconst (v := 0) dX10_clear_11 (by decide) ?_
  refine hv_puti dX10_clear_12 fl_X10_47 (by first | rfl | assumption) rfl rfl rfl ?_
  refine hv_aload_n dX10_clear_15 rfl ?_
  refine hv_bipush (v := 20) dX10_clear_16 (by decide) ?_
  refine hv_puti dX10_clear_18 fl_X10_50 (by first | rfl | assumption) rfl rfl rfl ?_
  refine hv_aload_n dX10_clear_21 rfl ?_
  refine hv_iconst (v := 0) dX10_clear_22 (by decide) ?_
  refine hv_puti dX10_clear_23 fl_X10_53 (by first | rfl | assumption) rfl rfl rfl ?_
  refine hv_aload_n dX10_clear_26 rfl ?_
  refine hv_iconst (v := 0) dX10_clear_27 (by decide) ?_
  refine hv_puti dX10_clear_28 fl_X10_56 (by first | rfl | assumption) rfl rfl rfl ?_
  refine hv_aload_n dX10_clear_31 rfl ?_
  refine hv_getr dX10_clear_32 fl_X10_33 (by first | rfl | assumption) rfl (by first | rfl | assumption) ?_
  refine hv_cv0 (g_reset_45 hw) dX10_clear_35 ml_X10_59 mk_X1_reset (by first | rfl | assumption) rfl rfl rfl rfl rfl ?_
  rintro _ _ _ _ ⟨rfl, rfl, rfl, rfl⟩
  refine hv_vret dX10_clear_38 rfl ?_
  refine ⟨rfl, rfl, congrArg _ ?_, rfl⟩
  unfold clrT
  simp only [hup_eq, hup_up]
theorem g_put_58 {Sh : hSh} {r : hR} {sz : Nat} {k o : Int32} (hw : lwSh Sh r 58) (h5 : σ 58 5 = nI sz) (c : sz < 410) : hCal G (g_X1_put Sh (hEq (some (.int (nI sz))) r (putS 58 sz k o σ) τ)) [.ref (hgA G 58), .int k, .int o] Sh r σ τ := by
  obtain ⟨w1, w2, w3, w4, w5, w6, w7⟩ := hw
  refine hv_enter pn_X1 rfl ?_
  refine hv_aload_n dX1_put_0 rfl ?_
  refine hv_geti dX1_put_1 fl_X1_27 (by first | rfl | assumption) rfl ?_
  refine hv_sipush (v := 410) dX1_put_4 (by decide) ?_
  refine hv_icmp_ge (tgt := 40) dX1_put_7 (by decide) (fun c_7 => absurd c_7 ((by rw [h5]; exact nI_ge (b := 410) c (by decide)))) (fun c_7 => ?_)
  refine hv_aload_n dX1_put_10 rfl ?_
  refine hv_getr dX1_put_11 fl_X1_11 (by first | rfl | assumption) rfl (by first | rfl | assumption) ?_
  refine hv_aload_n dX1_put_14 rfl ?_
  refine hv_geti dX1_put_15 fl_X1_27 (by first | rfl | assumption) rfl ?_
  refine hv_iload_n dX1_put_18 rfl ?_
  refine hv_iast dX1_put_19 (by first | rfl | assumption) (j := sz) h5 (by omega) (by first | decide | assumption) ?_
  refine hv_aload_n dX1_put_20 rfl ?_
  refine hv_getr dX1_put_21 fl_X1_15 (by first | rfl | assumption) rfl (by first | rfl | assumption) ?_
  refine hv_aload_n dX1_put_24 rfl ?_
  refine hv_geti dX1_put_25 fl_X1_27 (by first | rfl | assumption) rfl ?_
  refine hv_iload_n dX1_put_28 rfl ?_
  refine hv_iast dX1_put_29 (by first | rfl | assumption) (j := sz) h5 (by omega) (by first | decide | assumption) ?_
  refine hv_aload_n dX1_put_30 rfl ?_
  refine hv_dup dX1_put_31 rfl ?_
  refine hv_geti dX1_put_32 fl_X1_27 (by first | rfl | assumption) rfl ?_
  refine hv_iconst (v := 1) dX1_put_35 (by decide) ?_
  rw [hva_ne (show 58 ≠ 60 by decide), hva_ne (show 58 ≠ 59 by decide), h5]
  refine hv_iadd dX1_put_36 ?_
  rw [nI_1]
  refine hv_puti dX1_put_37 fl_X1_27 (by first | rfl | assumption) rfl rfl rfl ?_
  refine hv_aload_n dX1_put_40 rfl ?_
  refine hv_geti dX1_put_41 fl_X1_27 (by first | rfl | assumption) rfl ?_
  refine hv_iconst (v := 1) dX1_put_44 (by decide) ?_
  rw [hup_eq, pk_us]
  refine hv_isub dX1_put_45 ?_
  rw [nI_pred]
  refine hv_iret dX1_put_46 rfl ?_
  exact ⟨rfl, rfl, rfl, rfl⟩
theorem g_startHere_58 {Sh : hSh} {r : hR} {sz l : Nat} (hw : lwSh Sh r 58) (h5 : σ 58 5 = nI sz) (hl : l < 5) : hCal G (g_X1_startHere Sh (hEq none r (va_up σ 61 (upd (σ 61) l (nI sz))) τ)) [.ref (hgA G 58), .int (nI l)] Sh r σ τ := by
  obtain ⟨w1, w2, w3, w4, w5, w6, w7⟩ := hw
  refine hv_enter pn_X1 rfl ?_
  refine hv_iload_n dX1_startHere_0 rfl ?_
  refine hv_if_lt (tgt := 19) dX1_startHere_1 (by decide) (fun c_1 => absurd c_1 ((nI_pos (by omega)))) (fun c_1 => ?_)
  refine hv_iload_n dX1_startHere_4 rfl ?_
  refine hv_iconst (v := 5) dX1_startHere_5 (by decide) ?_
  refine hv_icmp_ge (tgt := 19) dX1_startHere_6 (by decide) (fun c_6 => absurd c_6 ((nI_ge (b := 5) hl (by decide)))) (fun c_6 => ?_)
  refine hv_aload_n dX1_startHere_9 rfl ?_
  refine hv_getr dX1_startHere_10 fl_X1_18 (by first | rfl | assumption) rfl (by first | rfl | assumption) ?_
  refine hv_iload_n dX1_startHere_13 rfl ?_
  refine hv_aload_n dX1_startHere_14 rfl ?_
  refine hv_geti dX1_startHere_15 fl_X1_27 (by first | rfl | assumption) rfl ?_
  refine hv_iast dX1_startHere_18 (by first | rfl | assumption) rfl (by first | assumption | omega) (by first | decide | assumption) ?_
  refine hv_vret dX1_startHere_19 rfl ?_
  rw [h5]; exact ⟨rfl, rfl, rfl, rfl⟩
theorem g_putUntold_58 {Sh : hSh} {r : hR} {sz l : Nat} {k o : Int32} (hw : lwSh Sh r 58) (h5 : σ 58 5 = nI sz) (hl : l < 5) (hs : sz < 400) : hCal G (g_X1_putUntold Sh (hEq none r (untS 58 sz l k o σ) τ)) [.ref (hgA G 58), .int (nI l), .int k, .int o] Sh r σ τ := by
  have w1 := hw.1
  refine hv_enter pn_X1 rfl ?_
  refine hv_aload_n dX1_putUntold_0 rfl ?_
  refine hv_iload_n dX1_putUntold_1 rfl ?_
  refine hv_cv1 (g_startHere_58 hw h5 hl) dX1_putUntold_2 ml_X1_35 mk_X1_startHere (by first | rfl | assumption) rfl rfl rfl rfl rfl ?_
  rintro _ _ _ _ ⟨rfl, rfl, rfl, rfl⟩
  refine hv_aload_n dX1_putUntold_5 rfl ?_
  refine hv_iload_n dX1_putUntold_6 rfl ?_
  refine hv_iload_n dX1_putUntold_7 rfl ?_
  refine hv_cv2 (g_put_58 (sz := sz) hw h5 (by omega)) dX1_putUntold_8 ml_X1_39 mk_X1_put (by first | rfl | assumption) rfl rfl rfl rfl rfl ?_
  rintro _ _ _ _ ⟨rfl, rfl, rfl, rfl⟩
  refine hv_pop dX1_putUntold_11 rfl ?_
  refine hv_aload_n dX1_putUntold_12 rfl ?_
  refine hv_bipush (v := 7) dX1_putUntold_13 (by decide) ?_
  refine hv_iconst (v := 0) dX1_putUntold_15 (by decide) ?_
  refine hv_cv2 (g_put_58 (sz := sz + 1) hw (by unfold putS; rw [hup_eq, pk_us]) (by omega)) dX1_putUntold_16 ml_X1_39 mk_X1_put (by first | rfl | assumption) rfl rfl rfl rfl rfl ?_
  rintro _ _ _ _ ⟨rfl, rfl, rfl, rfl⟩
  refine hv_pop dX1_putUntold_19 rfl ?_
  refine hv_vret dX1_putUntold_20 rfl ?_
  exact ⟨rfl, rfl, rfl, rfl⟩
theorem g_reset_58 {Sh : hSh} {r : hR} (hw : lwSh Sh r 58) : hCal G (g_X1_reset Sh (hEq none r (rstS 58 σ) τ)) [.ref (hgA G 58)] Sh r σ τ := by
  have w1 := hw.1
  refine hv_enter pn_X1 rfl ?_
  refine hv_aload_n dX1_reset_0 rfl ?_
  refine hv_iconst (v := 0) dX1_reset_1 (by decide) ?_
  refine hv_puti dX1_reset_2 fl_X1_27 (by first | rfl | assumption) rfl rfl rfl ?_
  refine hv_aload_n dX1_reset_5 rfl ?_
  refine hv_iconst (v := 0) dX1_reset_6 (by decide) ?_
  refine hv_iconst (v := 0) dX1_reset_7 (by decide) ?_
  refine hv_bipush (v := 10) dX1_reset_8 (by decide) ?_
  refine hv_cv3 (g_putUntold_58 (sz := 0) (l := 0) hw rfl (by decide) (by decide)) dX1_reset_10 ml_X1_31 mk_X1_putUntold (by first | rfl | assumption) rfl rfl rfl rfl rfl ?_
  rintro _ _ _ _ ⟨rfl, rfl, rfl, rfl⟩
  refine hv_aload_n dX1_reset_13 rfl ?_
  refine hv_iconst (v := 1) dX1_reset_14 (by decide) ?_
  refine hv_iconst (v := 0) dX1_reset_15 (by decide) ?_
  refine hv_iconst (v := 0) dX1_reset_16 (by decide) ?_
  refine hv_cv3 (g_putUntold_58 (sz := 2) (l := 1) hw rfl (by decide) (by decide)) dX1_reset_17 ml_X1_31 mk_X1_putUntold (by first | rfl | assumption) rfl rfl rfl rfl rfl ?_
  rintro _ _ _ _ ⟨rfl, rfl, rfl, rfl⟩
  refine hv_aload_n dX1_reset_20 rfl ?_
  refine hv_iconst (v := 2) dX1_reset_21 (by decide) ?_
  refine hv_iconst (v := 0) dX1_reset_22 (by decide) ?_
  refine hv_iconst (v := 5) dX1_reset_23 (by decide) ?_
  refine hv_cv3 (g_putUntold_58 (sz := 4) (l := 2) hw rfl (by decide) (by decide)) dX1_reset_24 ml_X1_31 mk_X1_putUntold (by first | rfl | assumption) rfl rfl rfl rfl rfl ?_
  rintro _ _ _ _ ⟨rfl, rfl, rfl, rfl⟩
  refine hv_aload_n dX1_reset_27 rfl ?_
  refine hv_iconst (v := 3) dX1_reset_28 (by decide) ?_
  refine hv_iconst (v := 1) dX1_reset_29 (by decide) ?_
  refine hv_iconst (v := 0) dX1_reset_30 (by decide) ?_
  refine hv_cv3 (g_putUntold_58 (sz := 6) (l := 3) hw rfl (by decide) (by decide)) dX1_reset_31 ml_X1_31 mk_X1_putUntold (by first | rfl | assumption) rfl rfl rfl rfl rfl ?_
  rintro _ _ _ _ ⟨rfl, rfl, rfl, rfl⟩
  refine hv_aload_n dX1_reset_34 rfl ?_
  refine hv_iconst (v := 4) dX1_reset_35 (by decide) ?_
  refine hv_iconst (v := 0) dX1_reset_36 (by decide) ?_
  refine hv_iconst (v := 0) dX1_reset_37 (by decide) ?_
  refine hv_cv3 (g_putUntold_58 (sz := 8) (l := 4) hw rfl (by decide) (by decide)) dX1_reset_38 ml_X1_31 mk_X1_putUntold (by first | rfl | assumption) rfl rfl rfl rfl rfl ?_
  rintro _ _ _ _ ⟨rfl, rfl, rfl, rfl⟩
  refine hv_vret dX1_reset_41 rfl ?_
  exact ⟨rfl, rfl, rfl, rfl⟩
theorem g_clear_58 {Sh : hSh} {r : hR} (ht : hkd Sh 51 = (0, 10)) (h6 : r 51 6 = some 58) (hw : lwSh Sh r 58) : hCal G (g_X10_clear Sh (hEq none r (rstS 58 (clrT 51 σ)) τ)) [.ref (hgA G 51)] Sh r σ τ := by
  have w1 := hw.1
  refine hv_enter pn_X10 rfl ?_
  refine hv_aload_n dX10_clear_0 rfl ?_
  refine hv_iconst (v := 0) dX10_clear_1 (by decide) ?_
  refine hv_puti dX10_clear_2 fl_X10_40 (by first | rfl | assumption) rfl rfl rfl ?_
  refine hv_aload_n dX10_clear_5 rfl ?_
  refine hv_iconst (v := 0) dX10_clear_6 (by decide) ?_
  refine hv_puti dX10_clear_7 fl_X10_44 (by first | rfl | assumption) rfl rfl rfl ?_
  refine hv_aload_n dX10_clear_10 rfl ?_
  refine hv_iconst (v := 0) dX10_clear_11 (by decide) ?_
  refine hv_puti dX10_clear_12 fl_X10_47 (by first | rfl | assumption) rfl rfl rfl ?_
  refine hv_aload_n dX10_clear_15 rfl ?_
  refine hv_bipush (v := 20) dX10_clear_16 (by decide) ?_
  refine hv_puti dX10_clear_18 fl_X10_50 (by first | rfl | assumption) rfl rfl rfl ?_
  refine hv_aload_n dX10_clear_21 rfl ?_
  refine hv_iconst (v := 0) dX10_clear_22 (by decide) ?_
  refine hv_puti dX10_clear_23 fl_X10_53 (by first | rfl | assumption) rfl rfl rfl ?_
  refine hv_aload_n dX10_clear_26 rfl ?_
  refine hv_iconst (v := 0) dX10_clear_27 (by decide) ?_
  refine hv_puti dX10_clear_28 fl_X10_56 (by first | rfl | assumption) rfl rfl rfl ?_
  refine hv_aload_n dX10_clear_31 rfl ?_
  refine hv_getr dX10_clear_32 fl_X10_33 (by first | rfl | assumption) rfl (by first | rfl | assumption) ?_
  refine hv_cv0 (g_reset_58 hw) dX10_clear_35 ml_X10_59 mk_X1_reset (by first | rfl | assumption) rfl rfl rfl rfl rfl ?_
  rintro _ _ _ _ ⟨rfl, rfl, rfl, rfl⟩
  refine hv_vret dX10_clear_38 rfl ?_
  refine ⟨rfl, rfl, congrArg _ ?_, rfl⟩
  unfold clrT
  simp only [hup_eq, hup_up]
def begS (T : Nat) (σ : hS) : hS := va_up (va_up (va_up (va_up (va_up (va_up σ 11 (upd (upd (upd (σ 11) 5 (σ T 7)) 6 0) 7 (σ T 10))) 12 (hmx (σ (T + 1)) (σ 12) 7)) 13 (hmx (σ (T + 2)) (σ 13) 7)) 14 (hmx (fun _ => 0) (σ 14) 7)) 15 (hmx (fun _ => 0) (σ 15) 7)) 16 (hmx (fun _ => -1) (σ 16) 7)
def bgS (T i : Nat) (σ : hS) : hS := va_up (va_up (va_up (va_up (va_up σ 12 (hmx (σ (T + 1)) (σ 12) i)) 13 (hmx (σ (T + 2)) (σ 13) i)) 14 (hmx (fun _ => 0) (σ 14) i)) 15 (hmx (fun _ => 0) (σ 15) i)) 16 (hmx (fun _ => -1) (σ 16) i)
def bgSh (Sh : hSh) (r : hR) (T : Nat) : Prop := hkd Sh 11 = (0, 6) ∧ (hkd Sh 12 = (1, 7) ∧ hkd Sh 13 = (1, 7) ∧ hkd Sh 14 = (1, 7) ∧ hkd Sh 15 = (1, 7) ∧ hkd Sh 16 = (1, 7)) ∧ (r 11 0 = some 12 ∧ r 11 1 = some 13 ∧ r 11 2 = some 14 ∧ r 11 3 = some 15 ∧ r 11 4 = some 16) ∧ hkd Sh T = (0, 10) ∧ hkd Sh (T + 1) = (1, 7) ∧ hkd Sh (T + 2) = (1, 7) ∧ r T 0 = some (T + 1) ∧ r T 1 = some (T + 2)
theorem bgS_0 {T : Nat} {σ : hS} : bgS T 0 σ = σ := by
  unfold bgS
  simp only [hmx_0]
  funext c
  unfold va_up
  repeat' split
  all_goals simp_all
theorem bgS_s_38 {σ : hS} {i : Nat} : va_up (va_up (va_up (va_up (va_up (bgS 38 i σ) 12 (upd (bgS 38 i σ 12) i (σ 39 i))) 13 (upd (bgS 38 i σ 13) i (σ 40 i))) 14 (upd (bgS 38 i σ 14) i 0)) 15 (upd (bgS 38 i σ 15) i 0)) 16 (upd (bgS 38 i σ 16) i (-1)) = bgS 38 (i + 1) σ := by
  have e12 : bgS 38 i σ 12 = hmx (σ 39) (σ 12) i := rfl
  have e13 : bgS 38 i σ 13 = hmx (σ 40) (σ 13) i := rfl
  have e14 : bgS 38 i σ 14 = hmx (fun _ => 0) (σ 14) i := rfl
  have e15 : bgS 38 i σ 15 = hmx (fun _ => 0) (σ 15) i := rfl
  have e16 : bgS 38 i σ 16 = hmx (fun _ => -1) (σ 16) i := rfl
  rw [e12, e13, e14, e15, e16, hmx_s (σ 39), hmx_s (σ 40), hmx_s (fun _ => (0 : Int32)), hmx_s (fun _ => (0 : Int32)), hmx_s (fun _ => (-1 : Int32))]
  funext c
  unfold bgS va_up
  repeat' split
  all_goals rfl
theorem g_begin_38 {Sh : hSh} {r : hR} (hw : bgSh Sh r 38) : hCal G (g_X6_begin Sh (hEq none r (begS 38 σ) τ)) [.ref (hgA G 11), .ref (hgA G 38)] Sh r σ τ := by
  obtain ⟨w1, ⟨w2, w3, w4, w5, w6⟩, ⟨w7, w8, w9, w10, w11⟩, w12, w13, w14, w15, w16⟩ := hw
  refine hv_enter pn_X6 rfl ?_
  have loop : ∀ k i, i + k = 7 → hV G (g_X6_begin Sh (hEq none r (begS 38 σ) τ)) 0 0 Sh 23 [some (.ref (hgA G 11)), some (.ref (hgA G 38)), some (.int (nI i))] [] r (bgS 38 i (va_up σ 11 (upd (upd (upd (σ 11) 5 (σ 38 7)) 6 0) 7 (σ 38 10)))) τ := by
    intro k
    induction k with
    | zero =>
      intro i hi
      obtain rfl : i = 7 := by omega
      refine hv_iload_n dX6_begin_23 rfl ?_
      refine hv_bipush (v := 7) dX6_begin_24 (by decide) ?_
      refine hv_icmp_ge (tgt := 80) dX6_begin_26 (by decide) (fun c_26 => ?_) (fun c_26 => absurd ((by decide)) c_26)
      refine hv_vret dX6_begin_80 rfl ?_
      exact ⟨rfl, rfl, rfl, rfl⟩
    | succ k ih =>
      intro i hi
      refine hv_iload_n dX6_begin_23 rfl ?_
      refine hv_bipush (v := 7) dX6_begin_24 (by decide) ?_
      refine hv_icmp_ge (tgt := 80) dX6_begin_26 (by decide) (fun c_26 => absurd c_26 ((nI_ge (b := 7) (by omega) (by decide)))) (fun c_26 => ?_)
      refine hv_aload_n dX6_begin_29 rfl ?_
      refine hv_getr dX6_begin_30 fl_X6_9 (by first | rfl | assumption) rfl (by first | rfl | assumption) ?_
      refine hv_iload_n dX6_begin_33 rfl ?_
      refine hv_aload_n dX6_begin_34 rfl ?_
      refine hv_getr dX6_begin_35 fl_X6_41 (by first | rfl | assumption) rfl (by first | rfl | assumption) ?_
      refine hv_iload_n dX6_begin_38 rfl ?_
      refine hv_iald dX6_begin_39 (by first | rfl | assumption) rfl (by first | assumption | omega) (by first | decide | assumption) ?_
      refine hv_iast dX6_begin_40 (by first | rfl | assumption) rfl (by first | assumption | omega) (by first | decide | assumption) ?_
      refine hv_aload_n dX6_begin_41 rfl ?_
      refine hv_getr dX6_begin_42 fl_X6_15 (by first | rfl | assumption) rfl (by first | rfl | assumption) ?_
      refine hv_iload_n dX6_begin_45 rfl ?_
      refine hv_aload_n dX6_begin_46 rfl ?_
      refine hv_getr dX6_begin_47 fl_X6_42 (by first | rfl | assumption) rfl (by first | rfl | assumption) ?_
      refine hv_iload_n dX6_begin_50 rfl ?_
      refine hv_iald dX6_begin_51 (by first | rfl | assumption) rfl (by first | assumption | omega) (by first | decide | assumption) ?_
      refine hv_iast dX6_begin_52 (by first | rfl | assumption) rfl (by first | assumption | omega) (by first | decide | assumption) ?_
      refine hv_aload_n dX6_begin_53 rfl ?_
      refine hv_getr dX6_begin_54 fl_X6_18 (by first | rfl | assumption) rfl (by first | rfl | assumption) ?_
      refine hv_iload_n dX6_begin_57 rfl ?_
      refine hv_iconst (v := 0) dX6_begin_58 (by decide) ?_
      refine hv_iast dX6_begin_59 (by first | rfl | assumption) rfl (by first | assumption | omega) (by first | decide | assumption) ?_
      refine hv_aload_n dX6_begin_60 rfl ?_
      refine hv_getr dX6_begin_61 fl_X6_21 (by first | rfl | assumption) rfl (by first | rfl | assumption) ?_
      refine hv_iload_n dX6_begin_64 rfl ?_
      refine hv_iconst (v := 0) dX6_begin_65 (by decide) ?_
      refine hv_iast dX6_begin_66 (by first | rfl | assumption) rfl (by first | assumption | omega) (by first | decide | assumption) ?_
      refine hv_aload_n dX6_begin_67 rfl ?_
      refine hv_getr dX6_begin_68 fl_X6_24 (by first | rfl | assumption) rfl (by first | rfl | assumption) ?_
      refine hv_iload_n dX6_begin_71 rfl ?_
      refine hv_iconst (v := -1) dX6_begin_72 (by decide) ?_
      refine hv_iast dX6_begin_73 (by first | rfl | assumption) rfl (by first | assumption | omega) (by first | decide | assumption) ?_
      refine hv_iinc dX6_begin_74 rfl (nI_1 i) rfl rfl ?_
      refine hv_goto (tgt := 23) dX6_begin_77 (by decide) ?_
      have q := ih (i + 1) (by omega)
      rw [← bgS_s_38] at q
      exact q
  refine hv_aload_n dX6_begin_0 rfl ?_
  refine hv_aload_n dX6_begin_1 rfl ?_
  refine hv_geti dX6_begin_2 fl_X6_27 (by first | rfl | assumption) rfl ?_
  refine hv_puti dX6_begin_5 fl_X6_33 (by first | rfl | assumption) rfl rfl rfl ?_
  refine hv_aload_n dX6_begin_8 rfl ?_
  refine hv_iconst (v := 0) dX6_begin_9 (by decide) ?_
  refine hv_puti dX6_begin_10 fl_X6_34 (by first | rfl | assumption) rfl rfl rfl ?_
  refine hv_aload_n dX6_begin_13 rfl ?_
  refine hv_aload_n dX6_begin_14 rfl ?_
  refine hv_geti dX6_begin_15 fl_X6_37 (by first | rfl | assumption) rfl ?_
  refine hv_puti dX6_begin_18 fl_X6_40 (by first | rfl | assumption) rfl rfl rfl ?_
  refine hv_iconst (v := 0) dX6_begin_21 (by decide) ?_
  refine hv_istore_n dX6_begin_22 rfl rfl ?_
  have q := loop 7 0 (by omega)
  rw [bgS_0] at q
  simp only [hup_eq, hup_up]
  exact q
theorem bgS_s_51 {σ : hS} {i : Nat} : va_up (va_up (va_up (va_up (va_up (bgS 51 i σ) 12 (upd (bgS 51 i σ 12) i (σ 52 i))) 13 (upd (bgS 51 i σ 13) i (σ 53 i))) 14 (upd (bgS 51 i σ 14) i 0)) 15 (upd (bgS 51 i σ 15) i 0)) 16 (upd (bgS 51 i σ 16) i (-1)) = bgS 51 (i + 1) σ := by
  have e12 : bgS 51 i σ 12 = hmx (σ 52) (σ 12) i := rfl
  have e13 : bgS 51 i σ 13 = hmx (σ 53) (σ 13) i := rfl
  have e14 : bgS 51 i σ 14 = hmx (fun _ => 0) (σ 14) i := rfl
  have e15 : bgS 51 i σ 15 = hmx (fun _ => 0) (σ 15) i := rfl
  have e16 : bgS 51 i σ 16 = hmx (fun _ => -1) (σ 16) i := rfl
  rw [e12, e13, e14, e15, e16, hmx_s (σ 52), hmx_s (σ 53), hmx_s (fun _ => (0 : Int32)), hmx_s (fun _ => (0 : Int32)), hmx_s (fun _ => (-1 : Int32))]
  funext c
  unfold bgS va_up
  repeat' split
  all_goals rfl
theorem g_begin_51 {Sh : hSh} {r : hR} (hw : bgSh Sh r 51) : hCal G (g_X6_begin Sh (hEq none r (begS 51 σ) τ)) [.ref (hgA G 11), .ref (hgA G 51)] Sh r σ τ := by
  obtain ⟨w1, ⟨w2, w3, w4, w5, w6⟩, ⟨w7, w8, w9, w10, w11⟩, w12, w13, w14, w15, w16⟩ := hw
  refine hv_enter pn_X6 rfl ?_
  have loop : ∀ k i, i + k = 7 → hV G (g_X6_begin Sh (hEq none r (begS 51 σ) τ)) 0 0 Sh 23 [some (.ref (hgA G 11)), some (.ref (hgA G 51)), some (.int (nI i))] [] r (bgS 51 i (va_up σ 11 (upd (upd (upd (σ 11) 5 (σ 51 7)) 6 0) 7 (σ 51 10)))) τ := by
    intro k
    induction k with
    | zero =>
      intro i hi
      obtain rfl : i = 7 := by omega
      refine hv_iload_n dX6_begin_23 rfl ?_
      refine hv_bipush (v := 7) dX6_begin_24 (by decide) ?_
      refine hv_icmp_ge (tgt := 80) dX6_begin_26 (by decide) (fun c_26 => ?_) (fun c_26 => absurd ((by decide)) c_26)
      refine hv_vret dX6_begin_80 rfl ?_
      exact ⟨rfl, rfl, rfl, rfl⟩
    | succ k ih =>
      intro i hi
      refine hv_iload_n dX6_begin_23 rfl ?_
      refine hv_bipush (v := 7) dX6_begin_24 (by decide) ?_
      refine hv_icmp_ge (tgt := 80) dX6_begin_26 (by decide) (fun c_26 => absurd c_26 ((nI_ge (b := 7) (by omega) (by decide)))) (fun c_26 => ?_)
      refine hv_aload_n dX6_begin_29 rfl ?_
      refine hv_getr dX6_begin_30 fl_X6_9 (by first | rfl | assumption) rfl (by first | rfl | assumption) ?_
      refine hv_iload_n dX6_begin_33 rfl ?_
      refine hv_aload_n dX6_begin_34 rfl ?_
      refine hv_getr dX6_begin_35 fl_X6_41 (by first | rfl | assumption) rfl (by first | rfl | assumption) ?_
      refine hv_iload_n dX6_begin_38 rfl ?_
      refine hv_iald dX6_begin_39 (by first | rfl | assumption) rfl (by first | assumption | omega) (by first | decide | assumption) ?_
      refine hv_iast dX6_begin_40 (by first | rfl | assumption) rfl (by first | assumption | omega) (by first | decide | assumption) ?_
      refine hv_aload_n dX6_begin_41 rfl ?_
      refine hv_getr dX6_begin_42 fl_X6_15 (by first | rfl | assumption) rfl (by first | rfl | assumption) ?_
      refine hv_iload_n dX6_begin_45 rfl ?_
      refine hv_aload_n dX6_begin_46 rfl ?_
      refine hv_getr dX6_begin_47 fl_X6_42 (by first | rfl | assumption) rfl (by first | rfl | assumption) ?_
      refine hv_iload_n dX6_begin_50 rfl ?_
      refine hv_iald dX6_begin_51 (by first | rfl | assumption) rfl (by first | assumption | omega) (by first | decide | assumption) ?_
      refine hv_iast dX6_begin_52 (by first | rfl | assumption) rfl (by first | assumption | omega) (by first | decide | assumption) ?_
      refine hv_aload_n dX6_begin_53 rfl ?_
      refine hv_getr dX6_begin_54 fl_X6_18 (by first | rfl | assumption) rfl (by first | rfl | assumption) ?_
      refine hv_iload_n dX6_begin_57 rfl ?_
      refine hv_iconst (v := 0) dX6_begin_58 (by decide) ?_
      refine hv_iast dX6_begin_59 (by first | rfl | assumption) rfl (by first | assumption | omega) (by first | decide | assumption) ?_
      refine hv_aload_n dX6_begin_60 rfl ?_
      refine hv_getr dX6_begin_61 fl_X6_21 (by first | rfl | assumption) rfl (by first | rfl | assumption) ?_
      refine hv_iload_n dX6_begin_64 rfl ?_
      refine hv_iconst (v := 0) dX6_begin_65 (by decide) ?_
      refine hv_iast dX6_begin_66 (by first | rfl | assumption) rfl (by first | assumption | omega) (by first | decide | assumption) ?_
      refine hv_aload_n dX6_begin_67 rfl ?_
      refine hv_getr dX6_begin_68 fl_X6_24 (by first | rfl | assumption) rfl (by first | rfl | assumption) ?_
      refine hv_iload_n dX6_begin_71 rfl ?_
      refine hv_iconst (v := -1) dX6_begin_72 (by decide) ?_
      refine hv_iast dX6_begin_73 (by first | rfl | assumption) rfl (by first | assumption | omega) (by first | decide | assumption) ?_
      refine hv_iinc dX6_begin_74 rfl (nI_1 i) rfl rfl ?_
      refine hv_goto (tgt := 23) dX6_begin_77 (by decide) ?_
      have q := ih (i + 1) (by omega)
      rw [← bgS_s_51] at q
      exact q
  refine hv_aload_n dX6_begin_0 rfl ?_
  refine hv_aload_n dX6_begin_1 rfl ?_
  refine hv_geti dX6_begin_2 fl_X6_27 (by first | rfl | assumption) rfl ?_
  refine hv_puti dX6_begin_5 fl_X6_33 (by first | rfl | assumption) rfl rfl rfl ?_
  refine hv_aload_n dX6_begin_8 rfl ?_
  refine hv_iconst (v := 0) dX6_begin_9 (by decide) ?_
  refine hv_puti dX6_begin_10 fl_X6_34 (by first | rfl | assumption) rfl rfl rfl ?_
  refine hv_aload_n dX6_begin_13 rfl ?_
  refine hv_aload_n dX6_begin_14 rfl ?_
  refine hv_geti dX6_begin_15 fl_X6_37 (by first | rfl | assumption) rfl ?_
  refine hv_puti dX6_begin_18 fl_X6_40 (by first | rfl | assumption) rfl rfl rfl ?_
  refine hv_iconst (v := 0) dX6_begin_21 (by decide) ?_
  refine hv_istore_n dX6_begin_22 rfl rfl ?_
  have q := loop 7 0 (by omega)
  rw [bgS_0] at q
  simp only [hup_eq, hup_up]
  exact q
theorem c_clearP : hCal G (m_X5_clear (hQp [17, 20] none (rr 51 38 x y) σ τ (fun σ' => σ' 17 = upd (σ 17) 4 0 ∧ ∀ j, j < 3 → σ' 20 j = 0))) [.ref (hgA G 17)] shp (rr 51 38 x y) σ τ := by
  refine hv_enter pn_X5 rfl ?_
  have loop : ∀ k i (σ1 : hS), i + k = 3 → (∀ c, c ∉ [17, 20] → σ1 c = σ c) → σ1 17 = upd (σ 17) 4 0 → (∀ j, j < i → σ1 20 j = 0) → hV G (m_X5_clear (hQp [17, 20] none (rr 51 38 x y) σ τ (fun σ' => σ' 17 = upd (σ 17) 4 0 ∧ ∀ j, j < 3 → σ' 20 j = 0))) 0 0 shp 7 [some (.ref (hgA G 17)), some (.int (nI i))] [] (rr 51 38 x y) σ1 τ := by
    intro k
    induction k with
    | zero =>
      intro i σ1 hi h1 h2 h3
      obtain rfl : i = 3 := by omega
      refine hv_iload_n dX5_clear_7 rfl ?_
      refine hv_iconst (v := 3) dX5_clear_8 (by decide) ?_
      refine hv_icmp_ge (tgt := 25) dX5_clear_9 (by decide) (fun c_9 => ?_) (fun c_9 => absurd ((by decide)) c_9)
      refine hv_vret dX5_clear_25 rfl ?_
      exact ⟨rfl, rfl, rfl, h1, h2, h3⟩
    | succ k ih =>
      intro i σ1 hi h1 h2 h3
      refine hv_iload_n dX5_clear_7 rfl ?_
      refine hv_iconst (v := 3) dX5_clear_8 (by decide) ?_
      refine hv_icmp_ge (tgt := 25) dX5_clear_9 (by decide) (fun c_9 => absurd c_9 ((nI_ge (b := 3) (by omega) (by decide)))) (fun c_9 => ?_)
      refine hv_aload_n dX5_clear_12 rfl ?_
      refine hv_getr dX5_clear_13 fl_X5_18 (by first | rfl | assumption) rfl (by first | rfl | assumption) ?_
      refine hv_iload_n dX5_clear_16 rfl ?_
      refine hv_iconst (v := 0) dX5_clear_17 (by decide) ?_
      refine hv_zast dX5_clear_18 (by first | rfl | assumption) rfl (by first | assumption | omega) (by first | decide | assumption) ?_
      refine hv_iinc dX5_clear_19 rfl (nI_1 i) rfl rfl ?_
      refine hv_goto (tgt := 7) dX5_clear_22 (by decide) ?_
      refine ih (i + 1) _ (by omega) (off_up h1 (by decide)) (by rw [hva_ne (by decide)]; exact h2) (fun j hj => ?_)
      rw [hup_eq]
      by_cases e : j = i
      · rw [e, pk_us]; decide
      · rw [pk_un e]; exact h3 j (by omega)
  refine hv_aload_n dX5_clear_0 rfl ?_
  refine hv_iconst (v := 0) dX5_clear_1 (by decide) ?_
  refine hv_puti dX5_clear_2 fl_X5_22 (by first | rfl | assumption) rfl rfl rfl ?_
  refine hv_iconst (v := 0) dX5_clear_5 (by decide) ?_
  refine hv_istore_n dX5_clear_6 rfl rfl ?_
  exact loop 3 0 _ (by omega) (off_up (fun _ _ => rfl) (by decide)) (by rw [hup_eq]) (fun j hj => absurd hj (by omega))
theorem rr_td {t d : Nat} {x y : Option Nat} : va_up (va_up (rr t d x y) 0 (va_up (rr t d x y 0) 9 (some d))) 0 (va_up (va_up (rr t d x y) 0 (va_up (rr t d x y 0) 9 (some d)) 0) 10 (some t)) = rr d t x y := by
  rw [hup_up, hup_eq]
  funext k j
  unfold va_up
  by_cases h : k = 0
  · subst h
    rw [if_pos rfl]
    match j with
    | 0 | 1 | 2 | 3 | 4 | 5 | 6 | 7 | 8 | 9 | 10 => rfl
    | j + 11 => rw [if_neg (by omega), if_neg (by omega)]; rfl
  · rw [if_neg h]
    have e : hrt d t x y = (hrt t d x y).set 0 [some 1, some 3, some 7, some 8, some 11, some 17, some 21, some 31, some 35, some d, some t] := rfl
    unfold rr
    rw [e, List.getD_eq_getElem?_getD (l := hrt t d x y), List.getD_eq_getElem?_getD (l := (hrt t d x y).set 0 _), List.getElem?_set_ne (by omega)]
abbrev xTk : List Nat := [11, 12, 13, 14, 15, 16, 17, 20, 35]
def pTkd (σ σ' : hS) : Prop := (∀ c, c ∉ [17, 20, 35] → σ' c = begS 51 σ c) ∧ σ' 17 = upd (σ 17) 4 0 ∧ (∀ j, j < 3 → σ' 20 j = 0) ∧ σ' 35 = upd (σ 35) 2 0
theorem c_takeDraft : hCal G (m_X11_takeDraft (hQp xTk none (rr 51 38 x y) σ τ (pTkd σ))) [.ref (hgA G 0)] shp (rr 38 51 x y) σ τ := by
  refine hv_enter pn_X11 rfl ?_
  refine hv_aload_n dX11_takeDraft_0 rfl ?_
  refine hv_getr dX11_takeDraft_1 fl_X11_81 (by first | rfl | assumption) rfl (by first | rfl | assumption) ?_
  refine hv_astore_n dX11_takeDraft_4 rfl rfl ?_
  refine hv_aload_n dX11_takeDraft_5 rfl ?_
  refine hv_aload_n dX11_takeDraft_6 rfl ?_
  refine hv_getr dX11_takeDraft_7 fl_X11_85 (by first | rfl | assumption) rfl (by first | rfl | assumption) ?_
  refine hv_putr dX11_takeDraft_10 fl_X11_81 (by first | rfl | assumption) rfl rfl rfl ?_
  refine hv_aload_n dX11_takeDraft_13 rfl ?_
  refine hv_aload_n dX11_takeDraft_14 rfl ?_
  refine hv_putr dX11_takeDraft_15 fl_X11_85 (by first | rfl | assumption) rfl rfl rfl ?_
  rw [rr_td]
  refine hv_aload_n dX11_takeDraft_18 rfl ?_
  refine hv_getr dX11_takeDraft_19 fl_X11_44 (by first | rfl | assumption) rfl (by first | rfl | assumption) ?_
  refine hv_aload_n dX11_takeDraft_22 rfl ?_
  refine hv_getr dX11_takeDraft_23 fl_X11_81 (by first | rfl | assumption) rfl (by first | rfl | assumption) ?_
  refine hv_cv1 (g_begin_51 ⟨rfl, ⟨rfl, rfl, rfl, rfl, rfl⟩, ⟨rfl, rfl, rfl, rfl, rfl⟩, rfl, rfl, rfl, rfl, rfl⟩) dX11_takeDraft_26 ml_X11_92 mk_X6_begin (by first | rfl | assumption) rfl rfl rfl rfl rfl ?_
  rintro _ _ _ _ ⟨rfl, rfl, rfl, rfl⟩
  refine hv_aload_n dX11_takeDraft_29 rfl ?_
  refine hv_getr dX11_takeDraft_30 fl_X11_51 (by first | rfl | assumption) rfl (by first | rfl | assumption) ?_
  refine hv_cv0 (c_clearP) dX11_takeDraft_33 ml_X11_380 mk_X5_clear (by first | rfl | assumption) rfl rfl rfl rfl rfl ?_
  rintro _ _ σ1 _ ⟨rfl, rfl, rfl, a1, a2, a3⟩
  refine hv_aload_n dX11_takeDraft_36 rfl ?_
  refine hv_getr dX11_takeDraft_37 fl_X11_74 (by first | rfl | assumption) rfl (by first | rfl | assumption) ?_
  refine hv_iconst (v := 0) dX11_takeDraft_40 (by decide) ?_
  refine hv_puti dX11_takeDraft_41 fl_X11_341 (by first | rfl | assumption) rfl rfl rfl ?_
  refine hv_vret dX11_takeDraft_44 rfl ?_
  refine ⟨rfl, rfl, rfl, ?_, ?_, ?_, ?_, ?_⟩
  · refine off_up (off_tr (X := [11, 12, 13, 14, 15, 16]) (fun c hc => ?_) a1 (by decide) (by decide)) (by decide)
    unfold begS
    simp only [List.mem_cons, List.not_mem_nil, or_false, not_or] at hc
    obtain ⟨q1, q2, q3, q4, q5, q6⟩ := hc
    rw [hva_ne q6, hva_ne q5, hva_ne q4, hva_ne q3, hva_ne q2, hva_ne q1]
  · exact off_up (off_wk a1 (by decide)) (by decide)
  · rw [hva_ne (by decide), a2]; rfl
  · intro j hj; rw [hva_ne (by decide)]; exact a3 j hj
  · rw [hup_eq, a1 35 (by decide)]; rfl
end S87

