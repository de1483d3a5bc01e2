/-! the makers -/
theorem nw_X11_9 : Cond.methodLinkNest RX11 9 yX7_init "HerringShares" ∈ hnw := List.mem_of_getElem? (i := 0) rfl
theorem nw_X11_43 : Cond.methodLinkNest RX11 43 yX6_init "HerringShares" ∈ hnw := List.mem_of_getElem? (i := 1) rfl
theorem nw_X11_50 : Cond.methodLinkNest RX11 50 yX5_init "HerringShares" ∈ hnw := List.mem_of_getElem? (i := 2) rfl
theorem nw_X11_57 : Cond.methodLinkNest RX11 57 yX2_init "HerringShares" ∈ hnw := List.mem_of_getElem? (i := 3) rfl
theorem nw_X11_73 : Cond.methodLinkNest RX11 73 yX3_init "HerringShares" ∈ hnw := List.mem_of_getElem? (i := 4) rfl
theorem nw_X2_11 : Cond.methodLinkNest RX2 11 yX6_init "HerringShares" ∈ hnw := List.mem_of_getElem? (i := 5) rfl
theorem nw_X10_32 : Cond.methodLinkNest RX10 32 yX1_init "HerringShares" ∈ hnw := List.mem_of_getElem? (i := 6) rfl
abbrev n_X7_init_2 (Q : hPo) : hMe := ({ frames := 1, cells := 1, slots := 2000, locals := 64 }, 1, 2000, yX7_init, cX7_init, 1, none, shp.take 3, some 2, Q)
abbrev n_X9_init_4 (Q : hPo) : hMe := ({ frames := 1, cells := 3, slots := 1203, locals := 64 }, 3, 1203, yX9_init, cX9_init, 2, none, shp.take 7, some 4, Q)
abbrev n_X4_init_8 (Q : hPo) : hMe := ({ frames := 1, cells := 0, slots := 0, locals := 64 }, 0, 0, yX4_init, cX4_init, 2, none, shp.take 8, some 8, Q)
abbrev n_X8_init_9 (Q : hPo) : hMe := ({ frames := 1, cells := 2, slots := 12, locals := 64 }, 2, 12, yX8_init, cX8_init, 2, none, shp.take 11, some 9, Q)
abbrev n_X6_init_12 (Q : hPo) : hMe := ({ frames := 1, cells := 5, slots := 35, locals := 64 }, 5, 35, yX6_init, cX6_init, 1, none, shp.take 17, some 12, Q)
abbrev n_X6_init_23 (Q : hPo) : hMe := ({ frames := 1, cells := 5, slots := 35, locals := 64 }, 5, 35, yX6_init, cX6_init, 1, none, shp.take 28, some 23, Q)
abbrev n_X5_init_18 (Q : hPo) : hMe := ({ frames := 1, cells := 3, slots := 1637, locals := 64 }, 3, 1637, yX5_init, cX5_init, 1, none, shp.take 21, some 18, Q)
abbrev n_X2_init_22 (Q : hPo) : hMe := ({ frames := 2, cells := 9, slots := 64, locals := 128 }, 9, 64, yX2_init, cX2_init, 1, none, shp.take 31, some 22, Q)
abbrev n_X0_init_32 (Q : hPo) : hMe := ({ frames := 1, cells := 3, slots := 142, locals := 64 }, 3, 142, yX0_init, cX0_init, 2, none, shp.take 35, some 32, Q)
abbrev n_X3_init_36 (Q : hPo) : hMe := ({ frames := 1, cells := 2, slots := 40, locals := 64 }, 2, 40, yX3_init, cX3_init, 1, none, shp.take 38, some 36, Q)
abbrev n_X1_init_46 (Q : hPo) : hMe := ({ frames := 1, cells := 5, slots := 858, locals := 64 }, 5, 858, yX1_init, cX1_init, 1, none, shp.take 51, some 46, Q)
abbrev n_X1_init_59 (Q : hPo) : hMe := ({ frames := 1, cells := 5, slots := 858, locals := 64 }, 5, 858, yX1_init, cX1_init, 1, none, shp.take 64, some 59, Q)
abbrev n_X10_init_39 (Q : hPo) : hMe := ({ frames := 4, cells := 12, slots := 904, locals := 256 }, 12, 904, yX10_init, cX10_init, 1, none, shp.take 51, some 39, Q)
abbrev n_X10_init_52 (Q : hPo) : hMe := ({ frames := 4, cells := 12, slots := 904, locals := 256 }, 12, 904, yX10_init, cX10_init, 1, none, shp.take 64, some 52, Q)
abbrev n_X11_init_1 (Q : hPo) : hMe := ({ frames := 5, cells := 63, slots := 7019, locals := 320 }, 63, 7019, yX11_init, cX11_init, 1, none, shp.take 64, some 1, Q)
def cR_X7_init_2 (r : hR) : hR := pR 1 0 2 (r)
def cS_X7_init_2 (σ : hS) : hS := nZ 2 (σ)
def cR_X9_init_4 (r : hR) : hR := pR 3 3 1 (pR 3 2 6 (pR 3 1 5 (pR 3 0 4 (r))))
def cS_X9_init_4 (σ : hS) : hS := nZ 6 (nZ 5 (nZ 4 (σ)))
def cR_X4_init_8 (r : hR) : hR := pR 7 0 3 (r)
def cS_X4_init_8 (σ : hS) : hS := σ
def cR_X8_init_9 (r : hR) : hR := pR 8 0 3 (pR 8 2 10 (pR 8 1 9 (r)))
def cS_X8_init_9 (σ : hS) : hS := nZ 10 (nZ 9 (σ))
def cR_X6_init_12 (r : hR) : hR := pR 11 4 16 (pR 11 3 15 (pR 11 2 14 (pR 11 1 13 (pR 11 0 12 (r)))))
def cS_X6_init_12 (σ : hS) : hS := nZ 16 (nZ 15 (nZ 14 (nZ 13 (nZ 12 (σ)))))
def cR_X6_init_23 (r : hR) : hR := pR 22 4 27 (pR 22 3 26 (pR 22 2 25 (pR 22 1 24 (pR 22 0 23 (r)))))
def cS_X6_init_23 (σ : hS) : hS := nZ 27 (nZ 26 (nZ 25 (nZ 24 (nZ 23 (σ)))))
def cR_X5_init_18 (r : hR) : hR := pR 17 2 20 (pR 17 1 19 (pR 17 0 18 (r)))
def cS_X5_init_18 (σ : hS) : hS := nZ 20 (nZ 19 (nZ 18 (σ)))
def cR_X2_init_22 (r : hR) : hR := pR 21 3 30 (pR 21 2 29 (pR 21 1 28 (pR 21 0 22 (cR_X6_init_23 (nO 22 (r))))))
def cS_X2_init_22 (σ : hS) : hS := nZ 30 (nZ 29 (nZ 28 (cS_X6_init_23 (nZ 22 (σ)))))
def cR_X0_init_32 (r : hR) : hR := pR 31 0 21 (pR 31 3 34 (pR 31 2 33 (pR 31 1 32 (r))))
def cS_X0_init_32 (σ : hS) : hS := nZ 34 (nZ 33 (nZ 32 (σ)))
def cR_X3_init_36 (r : hR) : hR := pR 35 1 37 (pR 35 0 36 (r))
def cS_X3_init_36 (σ : hS) : hS := nZ 37 (nZ 36 (σ))
def cR_X1_init_46 (r : hR) : hR := pR 45 4 50 (pR 45 3 49 (pR 45 2 48 (pR 45 1 47 (pR 45 0 46 (r)))))
def cS_X1_init_46 (σ : hS) : hS := nZ 50 (nZ 49 (nZ 48 (nZ 47 (nZ 46 (σ)))))
def cR_X1_init_59 (r : hR) : hR := pR 58 4 63 (pR 58 3 62 (pR 58 2 61 (pR 58 1 60 (pR 58 0 59 (r)))))
def cS_X1_init_59 (σ : hS) : hS := nZ 63 (nZ 62 (nZ 61 (nZ 60 (nZ 59 (σ)))))
def cR_X10_init_39 (r : hR) : hR := pR 38 6 45 (cR_X1_init_46 (nO 45 (pR 38 5 44 (pR 38 4 43 (pR 38 3 42 (pR 38 2 41 (pR 38 1 40 (pR 38 0 39 (r)))))))))
def cS_X10_init_39 (σ : hS) : hS := rstS 45 (clrT 38 (cS_X1_init_46 (nZ 45 (nZ 44 (nZ 43 (nZ 42 (nZ 41 (nZ 40 (nZ 39 (σ))))))))))
def cR_X10_init_52 (r : hR) : hR := pR 51 6 58 (cR_X1_init_59 (nO 58 (pR 51 5 57 (pR 51 4 56 (pR 51 3 55 (pR 51 2 54 (pR 51 1 53 (pR 51 0 52 (r)))))))))
def cS_X10_init_52 (σ : hS) : hS := rstS 58 (clrT 51 (cS_X1_init_59 (nZ 58 (nZ 57 (nZ 56 (nZ 55 (nZ 54 (nZ 53 (nZ 52 (σ))))))))))
def cR_X11_init_1 (r : hR) : hR := pR 0 10 51 (cR_X10_init_52 (nO 51 (pR 0 9 38 (cR_X10_init_39 (nO 38 (pR 0 8 35 (cR_X3_init_36 (nO 35 (pR 0 7 31 (cR_X0_init_32 (nO 31 (pR 0 6 21 (cR_X2_init_22 (nO 21 (pR 0 5 17 (cR_X5_init_18 (nO 17 (pR 0 4 11 (cR_X6_init_12 (nO 11 (pR 0 3 8 (cR_X8_init_9 (nO 8 (pR 0 2 7 (cR_X4_init_8 (nO 7 (pR 0 1 3 (cR_X9_init_4 (nO 3 (pR 0 0 1 (cR_X7_init_2 (nO 1 (r)))))))))))))))))))))))))))))))))
def cS_X11_init_1 (σ : hS) : hS := begS 38 (pI 0 11 (-1) (cS_X10_init_52 (nZ 51 (cS_X10_init_39 (nZ 38 (cS_X3_init_36 (nZ 35 (cS_X0_init_32 (nZ 31 (cS_X2_init_22 (nZ 21 (cS_X5_init_18 (nZ 17 (cS_X6_init_12 (nZ 11 (cS_X8_init_9 (nZ 8 (cS_X4_init_8 (nZ 7 (cS_X9_init_4 (nZ 3 (cS_X7_init_2 (nZ 1 (σ))))))))))))))))))))))))
section S9zc
variable {G : hGl} {r : hR} {σ : hS} {τ : hT}
set_option maxRecDepth 100000 in
theorem k_X7_init_2 (hg : hgN G) : hCal G (n_X7_init_2 (hEq none (cR_X7_init_2 r) (cS_X7_init_2 σ) τ)) [.ref (hgA G 1)] (shp.take 2) r σ τ := by
  refine hv_enter pn_X7 rfl ?_
  refine hv_aload_n dX7_init_0 rfl ?_
  refine hv_obj dX7_init_1 ol_X7 rfl rfl ?_
  refine hv_aload_n dX7_init_4 rfl ?_
  refine hv_sipush (v := 2000) dX7_init_5 (by decide) ?_
  refine hv_new_byte (n := 2) (N := 2000) (Sh' := shp.take 3) dX7_init_8 rfl rfl hg rfl rfl (by decide) (by decide) rfl rfl ?_
  refine hv_pF dX7_init_10 fl_X7_11 (by first | rfl | assumption) rfl rfl (fun _ _ _ h => by cases h; rfl) rfl rfl ?_
  refine hv_vret dX7_init_13 rfl ?_
  exact ⟨rfl, rfl, rfl, rfl⟩
set_option maxRecDepth 100000 in
theorem k_X9_init_4 (hg : hgN G) : hCal G (n_X9_init_4 (hEq none (cR_X9_init_4 r) (cS_X9_init_4 σ) τ)) [.ref (hgA G 3), .ref (hgA G 1)] (shp.take 4) r σ τ := by
  refine hv_enter pn_X9 rfl ?_
  refine hv_aload_n dX9_init_0 rfl ?_
  refine hv_obj dX9_init_1 ol_X9 rfl rfl ?_
  refine hv_aload_n dX9_init_4 rfl ?_
  refine hv_sipush (v := 401) dX9_init_5 (by decide) ?_
  refine hv_new_int (n := 4) (N := 401) (Sh' := shp.take 5) dX9_init_8 rfl rfl hg rfl rfl (by decide) (by decide) rfl rfl ?_
  refine hv_pF dX9_init_10 fl_X9_9 (by first | rfl | assumption) rfl rfl (fun _ _ _ h => by cases h; rfl) rfl rfl ?_
  refine hv_aload_n dX9_init_13 rfl ?_
  refine hv_sipush (v := 401) dX9_init_14 (by decide) ?_
  refine hv_new_int (n := 5) (N := 401) (Sh' := shp.take 6) dX9_init_17 rfl rfl hg rfl rfl (by decide) (by decide) rfl rfl ?_
  refine hv_pF dX9_init_19 fl_X9_13 (by first | rfl | assumption) rfl rfl (fun _ _ _ h => by cases h; rfl) rfl rfl ?_
  refine hv_aload_n dX9_init_22 rfl ?_
  refine hv_sipush (v := 401) dX9_init_23 (by decide) ?_
  refine hv_new_int (n := 6) (N := 401) (Sh' := shp.take 7) dX9_init_26 rfl rfl hg rfl rfl (by decide) (by decide) rfl rfl ?_
  refine hv_pF dX9_init_28 fl_X9_16 (by first | rfl | assumption) rfl rfl (fun _ _ _ h => by cases h; rfl) rfl rfl ?_
  refine hv_aload_n dX9_init_31 rfl ?_
  refine hv_aload_n dX9_init_32 rfl ?_
  refine hv_pF dX9_init_33 fl_X9_19 (by first | rfl | assumption) rfl rfl (fun _ _ _ h => by cases h; rfl) rfl rfl ?_
  refine hv_vret dX9_init_36 rfl ?_
  exact ⟨rfl, rfl, rfl, rfl⟩
set_option maxRecDepth 100000 in
theorem k_X4_init_8 (hg : hgN G) : hCal G (n_X4_init_8 (hEq none (cR_X4_init_8 r) (cS_X4_init_8 σ) τ)) [.ref (hgA G 7), .ref (hgA G 3)] (shp.take 8) r σ τ := by
  refine hv_enter pn_X4 rfl ?_
  refine hv_aload_n dX4_init_0 rfl ?_
  refine hv_obj dX4_init_1 ol_X4 rfl rfl ?_
  refine hv_aload_n dX4_init_4 rfl ?_
  refine hv_aload_n dX4_init_5 rfl ?_
  refine hv_pF dX4_init_6 fl_X4_9 (by first | rfl | assumption) rfl rfl (fun _ _ _ h => by cases h; rfl) rfl rfl ?_
  refine hv_vret dX4_init_9 rfl ?_
  exact ⟨rfl, rfl, rfl, rfl⟩
set_option maxRecDepth 100000 in
theorem k_X8_init_9 (hg : hgN G) : hCal G (n_X8_init_9 (hEq none (cR_X8_init_9 r) (cS_X8_init_9 σ) τ)) [.ref (hgA G 8), .ref (hgA G 3)] (shp.take 9) r σ τ := by
  refine hv_enter pn_X8 rfl ?_
  refine hv_aload_n dX8_init_0 rfl ?_
  refine hv_obj dX8_init_1 ol_X8 rfl rfl ?_
  refine hv_aload_n dX8_init_4 rfl ?_
  refine hv_bipush (v := 7) dX8_init_5 (by decide) ?_
  refine hv_new_int (n := 9) (N := 7) (Sh' := shp.take 10) dX8_init_7 rfl rfl hg rfl rfl (by decide) (by decide) rfl rfl ?_
  refine hv_pF dX8_init_9 fl_X8_9 (by first | rfl | assumption) rfl rfl (fun _ _ _ h => by cases h; rfl) rfl rfl ?_
  refine hv_aload_n dX8_init_12 rfl ?_
  refine hv_iconst (v := 5) dX8_init_13 (by decide) ?_
  refine hv_new_int (n := 10) (N := 5) (Sh' := shp.take 11) dX8_init_14 rfl rfl hg rfl rfl (by decide) (by decide) rfl rfl ?_
  refine hv_pF dX8_init_16 fl_X8_15 (by first | rfl | assumption) rfl rfl (fun _ _ _ h => by cases h; rfl) rfl rfl ?_
  refine hv_aload_n dX8_init_19 rfl ?_
  refine hv_aload_n dX8_init_20 rfl ?_
  refine hv_pF dX8_init_21 fl_X8_18 (by first | rfl | assumption) rfl rfl (fun _ _ _ h => by cases h; rfl) rfl rfl ?_
  refine hv_vret dX8_init_24 rfl ?_
  exact ⟨rfl, rfl, rfl, rfl⟩
set_option maxRecDepth 100000 in
theorem k_X6_init_12 (hg : hgN G) : hCal G (n_X6_init_12 (hEq none (cR_X6_init_12 r) (cS_X6_init_12 σ) τ)) [.ref (hgA G 11)] (shp.take 12) r σ τ := by
  refine hv_enter pn_X6 rfl ?_
  refine hv_aload_n dX6_init_0 rfl ?_
  refine hv_obj dX6_init_1 ol_X6 rfl rfl ?_
  refine hv_aload_n dX6_init_4 rfl ?_
  refine hv_bipush (v := 7) dX6_init_5 (by decide) ?_
  refine hv_new_int (n := 12) (N := 7) (Sh' := shp.take 13) dX6_init_7 rfl rfl hg rfl rfl (by decide) (by decide) rfl rfl ?_
  refine hv_pF dX6_init_9 fl_X6_9 (by first | rfl | assumption) rfl rfl (fun _ _ _ h => by cases h; rfl) rfl rfl ?_
  refine hv_aload_n dX6_init_12 rfl ?_
  refine hv_bipush (v := 7) dX6_init_13 (by decide) ?_
  refine hv_new_int (n := 13) (N := 7) (Sh' := shp.take 14) dX6_init_15 rfl rfl hg rfl rfl (by decide) (by decide) rfl rfl ?_
  refine hv_pF dX6_init_17 fl_X6_15 (by first | rfl | assumption) rfl rfl (fun _ _ _ h => by cases h; rfl) rfl rfl ?_
  refine hv_aload_n dX6_init_20 rfl ?_
  refine hv_bipush (v := 7) dX6_init_21 (by decide) ?_
  refine hv_new_int (n := 14) (N := 7) (Sh' := shp.take 15) dX6_init_23 rfl rfl hg rfl rfl (by decide) (by decide) rfl rfl ?_
  refine hv_pF dX6_init_25 fl_X6_18 (by first | rfl | assumption) rfl rfl (fun _ _ _ h => by cases h; rfl) rfl rfl ?_
  refine hv_aload_n dX6_init_28 rfl ?_
  refine hv_bipush (v := 7) dX6_init_29 (by decide) ?_
  refine hv_new_int (n := 15) (N := 7) (Sh' := shp.take 16) dX6_init_31 rfl rfl hg rfl rfl (by decide) (by decide) rfl rfl ?_
  refine hv_pF dX6_init_33 fl_X6_21 (by first | rfl | assumption) rfl rfl (fun _ _ _ h => by cases h; rfl) rfl rfl ?_
  refine hv_aload_n dX6_init_36 rfl ?_
  refine hv_bipush (v := 7) dX6_init_37 (by decide) ?_
  refine hv_new_int (n := 16) (N := 7) (Sh' := shp.take 17) dX6_init_39 rfl rfl hg rfl rfl (by decide) (by decide) rfl rfl ?_
  refine hv_pF dX6_init_41 fl_X6_24 (by first | rfl | assumption) rfl rfl (fun _ _ _ h => by cases h; rfl) rfl rfl ?_
  refine hv_vret dX6_init_44 rfl ?_
  exact ⟨rfl, rfl, rfl, rfl⟩
set_option maxRecDepth 100000 in
theorem k_X6_init_23 (hg : hgN G) : hCal G (n_X6_init_23 (hEq none (cR_X6_init_23 r) (cS_X6_init_23 σ) τ)) [.ref (hgA G 22)] (shp.take 23) r σ τ := by
  refine hv_enter pn_X6 rfl ?_
  refine hv_aload_n dX6_init_0 rfl ?_
  refine hv_obj dX6_init_1 ol_X6 rfl rfl ?_
  refine hv_aload_n dX6_init_4 rfl ?_
  refine hv_bipush (v := 7) dX6_init_5 (by decide) ?_
  refine hv_new_int (n := 23) (N := 7) (Sh' := shp.take 24) dX6_init_7 rfl rfl hg rfl rfl (by decide) (by decide) rfl rfl ?_
  refine hv_pF dX6_init_9 fl_X6_9 (by first | rfl | assumption) rfl rfl (fun _ _ _ h => by cases h; rfl) rfl rfl ?_
  refine hv_aload_n dX6_init_12 rfl ?_
  refine hv_bipush (v := 7) dX6_init_13 (by decide) ?_
  refine hv_new_int (n := 24) (N := 7) (Sh' := shp.take 25) dX6_init_15 rfl rfl hg rfl rfl (by decide) (by decide) rfl rfl ?_
  refine hv_pF dX6_init_17 fl_X6_15 (by first | rfl | assumption) rfl rfl (fun _ _ _ h => by cases h; rfl) rfl rfl ?_
  refine hv_aload_n dX6_init_20 rfl ?_
  refine hv_bipush (v := 7) dX6_init_21 (by decide) ?_
  refine hv_new_int (n := 25) (N := 7) (Sh' := shp.take 26) dX6_init_23 rfl rfl hg rfl rfl (by decide) (by decide) rfl rfl ?_
  refine hv_pF dX6_init_25 fl_X6_18 (by first | rfl | assumption) rfl rfl (fun _ _ _ h => by cases h; rfl) rfl rfl ?_
  refine hv_aload_n dX6_init_28 rfl ?_
  refine hv_bipush (v := 7) dX6_init_29 (by decide) ?_
  refine hv_new_int (n := 26) (N := 7) (Sh' := shp.take 27) dX6_init_31 rfl rfl hg rfl rfl (by decide) (by decide) rfl rfl ?_
  refine hv_pF dX6_init_33 fl_X6_21 (by first | rfl | assumption) rfl rfl (fun _ _ _ h => by cases h; rfl) rfl rfl ?_
  refine hv_aload_n dX6_init_36 rfl ?_
  refine hv_bipush (v := 7) dX6_init_37 (by decide) ?_
  refine hv_new_int (n := 27) (N := 7) (Sh' := shp.take 28) dX6_init_39 rfl rfl hg rfl rfl (by decide) (by decide) rfl rfl ?_
  refine hv_pF dX6_init_41 fl_X6_24 (by first | rfl | assumption) rfl rfl (fun _ _ _ h => by cases h; rfl) rfl rfl ?_
  refine hv_vret dX6_init_44 rfl ?_
  exact ⟨rfl, rfl, rfl, rfl⟩
set_option maxRecDepth 100000 in
theorem k_X5_init_18 (hg : hgN G) : hCal G (n_X5_init_18 (hEq none (cR_X5_init_18 r) (cS_X5_init_18 σ) τ)) [.ref (hgA G 17)] (shp.take 18) r σ τ := by
  refine hv_enter pn_X5 rfl ?_
  refine hv_aload_n dX5_init_0 rfl ?_
  refine hv_obj dX5_init_1 ol_X5 rfl rfl ?_
  refine hv_aload_n dX5_init_4 rfl ?_
  refine hv_sipush (v := 1520) dX5_init_5 (by decide) ?_
  refine hv_new_int (n := 18) (N := 1520) (Sh' := shp.take 19) dX5_init_8 rfl rfl hg rfl rfl (by decide) (by decide) rfl rfl ?_
  refine hv_pF dX5_init_10 fl_X5_11 (by first | rfl | assumption) rfl rfl (fun _ _ _ h => by cases h; rfl) rfl rfl ?_
  refine hv_aload_n dX5_init_13 rfl ?_
  refine hv_bipush (v := 114) dX5_init_14 (by decide) ?_
  refine hv_new_int (n := 19) (N := 114) (Sh' := shp.take 20) dX5_init_16 rfl rfl hg rfl rfl (by decide) (by decide) rfl rfl ?_
  refine hv_pF dX5_init_18 fl_X5_15 (by first | rfl | assumption) rfl rfl (fun _ _ _ h => by cases h; rfl) rfl rfl ?_
  refine hv_aload_n dX5_init_21 rfl ?_
  refine hv_iconst (v := 3) dX5_init_22 (by decide) ?_
  refine hv_new_boolean (n := 20) (N := 3) (Sh' := shp.take 21) dX5_init_23 rfl rfl hg rfl rfl (by decide) (by decide) rfl rfl ?_
  refine hv_pF dX5_init_25 fl_X5_18 (by first | rfl | assumption) rfl rfl (fun _ _ _ h => by cases h; rfl) rfl rfl ?_
  refine hv_vret dX5_init_28 rfl ?_
  exact ⟨rfl, rfl, rfl, rfl⟩
set_option maxRecDepth 100000 in
theorem k_X2_init_22 (hg : hgN G) : hCal G (n_X2_init_22 (hEq none (cR_X2_init_22 r) (cS_X2_init_22 σ) τ)) [.ref (hgA G 21)] (shp.take 22) r σ τ := by
  refine hv_enter pn_X2 rfl ?_
  refine hv_aload_n dX2_init_0 rfl ?_
  refine hv_obj dX2_init_1 ol_X2 rfl rfl ?_
  refine hv_aload_n dX2_init_4 rfl ?_
  refine hv_new (n := 22) (ci := 6) (Sh' := shp.take 23) dX2_init_5 rfl kl_X2_9 ki_X6 kn_X6 rfl rfl hg rfl rfl rfl rfl ?_
  refine hv_dup dX2_init_8 rfl ?_
  refine hv_cn0 (k_X6_init_23 hg) dX2_init_9 nw_X2_11 mk_X6_init rfl rfl rfl rfl hg rfl rfl rfl ?_
  rintro _ _ _ _ ⟨rfl, rfl, rfl, rfl⟩
  refine hv_pF dX2_init_12 fl_X2_12 (by first | rfl | assumption) rfl rfl (fun _ _ _ h => by cases h; rfl) rfl rfl ?_
  refine hv_aload_n dX2_init_15 rfl ?_
  refine hv_bipush (v := 7) dX2_init_16 (by decide) ?_
  refine hv_new_int (n := 28) (N := 7) (Sh' := shp.take 29) dX2_init_18 rfl rfl hg rfl rfl (by decide) (by decide) rfl rfl ?_
  refine hv_pF dX2_init_20 fl_X2_18 (by first | rfl | assumption) rfl rfl (fun _ _ _ h => by cases h; rfl) rfl rfl ?_
  refine hv_aload_n dX2_init_23 rfl ?_
  refine hv_bipush (v := 7) dX2_init_24 (by decide) ?_
  refine hv_new_int (n := 29) (N := 7) (Sh' := shp.take 30) dX2_init_26 rfl rfl hg rfl rfl (by decide) (by decide) rfl rfl ?_
  refine hv_pF dX2_init_28 fl_X2_22 (by first | rfl | assumption) rfl rfl (fun _ _ _ h => by cases h; rfl) rfl rfl ?_
  refine hv_aload_n dX2_init_31 rfl ?_
  refine hv_bipush (v := 7) dX2_init_32 (by decide) ?_
  refine hv_new_int (n := 30) (N := 7) (Sh' := shp.take 31) dX2_init_34 rfl rfl hg rfl rfl (by decide) (by decide) rfl rfl ?_
  refine hv_pF dX2_init_36 fl_X2_25 (by first | rfl | assumption) rfl rfl (fun _ _ _ h => by cases h; rfl) rfl rfl ?_
  refine hv_vret dX2_init_39 rfl ?_
  exact ⟨rfl, rfl, rfl, rfl⟩
set_option maxRecDepth 100000 in
theorem k_X0_init_32 (hg : hgN G) : hCal G (n_X0_init_32 (hEq none (cR_X0_init_32 r) (cS_X0_init_32 σ) τ)) [.ref (hgA G 31), .ref (hgA G 21)] (shp.take 32) r σ τ := by
  refine hv_enter pn_X0 rfl ?_
  refine hv_aload_n dX0_init_0 rfl ?_
  refine hv_obj dX0_init_1 ol_X0 rfl rfl ?_
  refine hv_aload_n dX0_init_4 rfl ?_
  refine hv_bipush (v := 7) dX0_init_5 (by decide) ?_
  refine hv_new_int (n := 32) (N := 7) (Sh' := shp.take 33) dX0_init_7 rfl rfl hg rfl rfl (by decide) (by decide) rfl rfl ?_
  refine hv_pF dX0_init_9 fl_X0_9 (by first | rfl | assumption) rfl rfl (fun _ _ _ h => by cases h; rfl) rfl rfl ?_
  refine hv_aload_n dX0_init_12 rfl ?_
  refine hv_bipush (v := 7) dX0_init_13 (by decide) ?_
  refine hv_new_int (n := 33) (N := 7) (Sh' := shp.take 34) dX0_init_15 rfl rfl hg rfl rfl (by decide) (by decide) rfl rfl ?_
  refine hv_pF dX0_init_17 fl_X0_15 (by first | rfl | assumption) rfl rfl (fun _ _ _ h => by cases h; rfl) rfl rfl ?_
  refine hv_aload_n dX0_init_20 rfl ?_
  refine hv_sipush (v := 128) dX0_init_21 (by decide) ?_
  refine hv_new_int (n := 34) (N := 128) (Sh' := shp.take 35) dX0_init_24 rfl rfl hg rfl rfl (by decide) (by decide) rfl rfl ?_
  refine hv_pF dX0_init_26 fl_X0_18 (by first | rfl | assumption) rfl rfl (fun _ _ _ h => by cases h; rfl) rfl rfl ?_
  refine hv_aload_n dX0_init_29 rfl ?_
  refine hv_aload_n dX0_init_30 rfl ?_
  refine hv_pF dX0_init_31 fl_X0_21 (by first | rfl | assumption) rfl rfl (fun _ _ _ h => by cases h; rfl) rfl rfl ?_
  refine hv_vret dX0_init_34 rfl ?_
  exact ⟨rfl, rfl, rfl, rfl⟩
set_option maxRecDepth 100000 in
theorem k_X3_init_36 (hg : hgN G) : hCal G (n_X3_init_36 (hEq none (cR_X3_init_36 r) (cS_X3_init_36 σ) τ)) [.ref (hgA G 35)] (shp.take 36) r σ τ := by
  refine hv_enter pn_X3 rfl ?_
  refine hv_aload_n dX3_init_0 rfl ?_
  refine hv_obj dX3_init_1 ol_X3 rfl rfl ?_
  refine hv_aload_n dX3_init_4 rfl ?_
  refine hv_bipush (v := 20) dX3_init_5 (by decide) ?_
  refine hv_new_int (n := 36) (N := 20) (Sh' := shp.take 37) dX3_init_7 rfl rfl hg rfl rfl (by decide) (by decide) rfl rfl ?_
  refine hv_pF dX3_init_9 fl_X3_9 (by first | rfl | assumption) rfl rfl (fun _ _ _ h => by cases h; rfl) rfl rfl ?_
  refine hv_aload_n dX3_init_12 rfl ?_
  refine hv_bipush (v := 20) dX3_init_13 (by decide) ?_
  refine hv_new_boolean (n := 37) (N := 20) (Sh' := shp.take 38) dX3_init_15 rfl rfl hg rfl rfl (by decide) (by decide) rfl rfl ?_
  refine hv_pF dX3_init_17 fl_X3_15 (by first | rfl | assumption) rfl rfl (fun _ _ _ h => by cases h; rfl) rfl rfl ?_
  refine hv_vret dX3_init_20 rfl ?_
  exact ⟨rfl, rfl, rfl, rfl⟩
set_option maxRecDepth 100000 in
theorem k_X1_init_46 (hg : hgN G) : hCal G (n_X1_init_46 (hEq none (cR_X1_init_46 r) (cS_X1_init_46 σ) τ)) [.ref (hgA G 45)] (shp.take 46) r σ τ := by
  refine hv_enter pn_X1 rfl ?_
  refine hv_aload_n dX1_init_0 rfl ?_
  refine hv_obj dX1_init_1 ol_X1 rfl rfl ?_
  refine hv_aload_n dX1_init_4 rfl ?_
  refine hv_sipush (v := 410) dX1_init_5 (by decide) ?_
  refine hv_new_int (n := 46) (N := 410) (Sh' := shp.take 47) dX1_init_8 rfl rfl hg rfl rfl (by decide) (by decide) rfl rfl ?_
  refine hv_pF dX1_init_10 fl_X1_11 (by first | rfl | assumption) rfl rfl (fun _ _ _ h => by cases h; rfl) rfl rfl ?_
  refine hv_aload_n dX1_init_13 rfl ?_
  refine hv_sipush (v := 410) dX1_init_14 (by decide) ?_
  refine hv_new_int (n := 47) (N := 410) (Sh' := shp.take 48) dX1_init_17 rfl rfl hg rfl rfl (by decide) (by decide) rfl rfl ?_
  refine hv_pF dX1_init_19 fl_X1_15 (by first | rfl | assumption) rfl rfl (fun _ _ _ h => by cases h; rfl) rfl rfl ?_
  refine hv_aload_n dX1_init_22 rfl ?_
  refine hv_iconst (v := 5) dX1_init_23 (by decide) ?_
  refine hv_new_int (n := 48) (N := 5) (Sh' := shp.take 49) dX1_init_24 rfl rfl hg rfl rfl (by decide) (by decide) rfl rfl ?_
  refine hv_pF dX1_init_26 fl_X1_18 (by first | rfl | assumption) rfl rfl (fun _ _ _ h => by cases h; rfl) rfl rfl ?_
  refine hv_aload_n dX1_init_29 rfl ?_
  refine hv_bipush (v := 24) dX1_init_30 (by decide) ?_
  refine hv_new_int (n := 49) (N := 24) (Sh' := shp.take 50) dX1_init_32 rfl rfl hg rfl rfl (by decide) (by decide) rfl rfl ?_
  refine hv_pF dX1_init_34 fl_X1_21 (by first | rfl | assumption) rfl rfl (fun _ _ _ h => by cases h; rfl) rfl rfl ?_
  refine hv_aload_n dX1_init_37 rfl ?_
  refine hv_bipush (v := 9) dX1_init_38 (by decide) ?_
  refine hv_new_int (n := 50) (N := 9) (Sh' := shp.take 51) dX1_init_40 rfl rfl hg rfl rfl (by decide) (by decide) rfl rfl ?_
  refine hv_pF dX1_init_42 fl_X1_24 (by first | rfl | assumption) rfl rfl (fun _ _ _ h => by cases h; rfl) rfl rfl ?_
  refine hv_vret dX1_init_45 rfl ?_
  exact ⟨rfl, rfl, rfl, rfl⟩
set_option maxRecDepth 100000 in
theorem k_X1_init_59 (hg : hgN G) : hCal G (n_X1_init_59 (hEq none (cR_X1_init_59 r) (cS_X1_init_59 σ) τ)) [.ref (hgA G 58)] (shp.take 59) r σ τ := by
  refine hv_enter pn_X1 rfl ?_
  refine hv_aload_n dX1_init_0 rfl ?_
  refine hv_obj dX1_init_1 ol_X1 rfl rfl ?_
  refine hv_aload_n dX1_init_4 rfl ?_
  refine hv_sipush (v := 410) dX1_init_5 (by decide) ?_
  refine hv_new_int (n := 59) (N := 410) (Sh' := shp.take 60) dX1_init_8 rfl rfl hg rfl rfl (by decide) (by decide) rfl rfl ?_
  refine hv_pF dX1_init_10 fl_X1_11 (by first | rfl | assumption) rfl rfl (fun _ _ _ h => by cases h; rfl) rfl rfl ?_
  refine hv_aload_n dX1_init_13 rfl ?_
  refine hv_sipush (v := 410) dX1_init_14 (by decide) ?_
  refine hv_new_int (n := 60) (N := 410) (Sh' := shp.take 61) dX1_init_17 rfl rfl hg rfl rfl (by decide) (by decide) rfl rfl ?_
  refine hv_pF dX1_init_19 fl_X1_15 (by first | rfl | assumption) rfl rfl (fun _ _ _ h => by cases h; rfl) rfl rfl ?_
  refine hv_aload_n dX1_init_22 rfl ?_
  refine hv_iconst (v := 5) dX1_init_23 (by decide) ?_
  refine hv_new_int (n := 61) (N := 5) (Sh' := shp.take 62) dX1_init_24 rfl rfl hg rfl rfl (by decide) (by decide) rfl rfl ?_
  refine hv_pF dX1_init_26 fl_X1_18 (by first | rfl | assumption) rfl rfl (fun _ _ _ h => by cases h; rfl) rfl rfl ?_
  refine hv_aload_n dX1_init_29 rfl ?_
  refine hv_bipush (v := 24) dX1_init_30 (by decide) ?_
  refine hv_new_int (n := 62) (N := 24) (Sh' := shp.take 63) dX1_init_32 rfl rfl hg rfl rfl (by decide) (by decide) rfl rfl ?_
  refine hv_pF dX1_init_34 fl_X1_21 (by first | rfl | assumption) rfl rfl (fun _ _ _ h => by cases h; rfl) rfl rfl ?_
  refine hv_aload_n dX1_init_37 rfl ?_
  refine hv_bipush (v := 9) dX1_init_38 (by decide) ?_
  refine hv_new_int (n := 63) (N := 9) (Sh' := shp.take 64) dX1_init_40 rfl rfl hg rfl rfl (by decide) (by decide) rfl rfl ?_
  refine hv_pF dX1_init_42 fl_X1_24 (by first | rfl | assumption) rfl rfl (fun _ _ _ h => by cases h; rfl) rfl rfl ?_
  refine hv_vret dX1_init_45 rfl ?_
  exact ⟨rfl, rfl, rfl, rfl⟩
set_option maxRecDepth 100000 in
theorem k_X10_init_39 (hg : hgN G) : hCal G (n_X10_init_39 (hEq none (cR_X10_init_39 r) (cS_X10_init_39 σ) τ)) [.ref (hgA G 38)] (shp.take 39) r σ τ := by
  refine hv_enter pn_X10 rfl ?_
  refine hv_aload_n dX10_init_0 rfl ?_
  refine hv_obj dX10_init_1 ol_X10 rfl rfl ?_
  refine hv_aload_n dX10_init_4 rfl ?_
  refine hv_bipush (v := 7) dX10_init_5 (by decide) ?_
  refine hv_new_int (n := 39) (N := 7) (Sh' := shp.take 40) dX10_init_7 rfl rfl hg rfl rfl (by decide) (by decide) rfl rfl ?_
  refine hv_pF dX10_init_9 fl_X10_9 (by first | rfl | assumption) rfl rfl (fun _ _ _ h => by cases h; rfl) rfl rfl ?_
  refine hv_aload_n dX10_init_12 rfl ?_
  refine hv_bipush (v := 7) dX10_init_13 (by decide) ?_
  refine hv_new_int (n := 40) (N := 7) (Sh' := shp.take 41) dX10_init_15 rfl rfl hg rfl rfl (by decide) (by decide) rfl rfl ?_
  refine hv_pF dX10_init_17 fl_X10_15 (by first | rfl | assumption) rfl rfl (fun _ _ _ h => by cases h; rfl) rfl rfl ?_
  refine hv_aload_n dX10_init_20 rfl ?_
  refine hv_bipush (v := 7) dX10_init_21 (by decide) ?_
  refine hv_new_int (n := 41) (N := 7) (Sh' := shp.take 42) dX10_init_23 rfl rfl hg rfl rfl (by decide) (by decide) rfl rfl ?_
  refine hv_pF dX10_init_25 fl_X10_18 (by first | rfl | assumption) rfl rfl (fun _ _ _ h => by cases h; rfl) rfl rfl ?_
  refine hv_aload_n dX10_init_28 rfl ?_
  refine hv_bipush (v := 7) dX10_init_29 (by decide) ?_
  refine hv_new_int (n := 42) (N := 7) (Sh' := shp.take 43) dX10_init_31 rfl rfl hg rfl rfl (by decide) (by decide) rfl rfl ?_
  refine hv_pF dX10_init_33 fl_X10_21 (by first | rfl | assumption) rfl rfl (fun _ _ _ h => by cases h; rfl) rfl rfl ?_
  refine hv_aload_n dX10_init_36 rfl ?_
  refine hv_bipush (v := 7) dX10_init_37 (by decide) ?_
  refine hv_new_int (n := 43) (N := 7) (Sh' := shp.take 44) dX10_init_39 rfl rfl hg rfl rfl (by decide) (by decide) rfl rfl ?_
  refine hv_pF dX10_init_41 fl_X10_24 (by first | rfl | assumption) rfl rfl (fun _ _ _ h => by cases h; rfl) rfl rfl ?_
  refine hv_aload_n dX10_init_44 rfl ?_
  refine hv_iconst (v := 5) dX10_init_45 (by decide) ?_
  refine hv_new_int (n := 44) (N := 5) (Sh' := shp.take 45) dX10_init_46 rfl rfl hg rfl rfl (by decide) (by decide) rfl rfl ?_
  refine hv_pF dX10_init_48 fl_X10_27 (by first | rfl | assumption) rfl rfl (fun _ _ _ h => by cases h; rfl) rfl rfl ?_
  refine hv_aload_n dX10_init_51 rfl ?_
  refine hv_new (n := 45) (ci := 1) (Sh' := shp.take 46) dX10_init_52 rfl kl_X10_30 ki_X1 kn_X1 rfl rfl hg rfl rfl rfl rfl ?_
  refine hv_dup dX10_init_55 rfl ?_
  refine hv_cn0 (k_X1_init_46 hg) dX10_init_56 nw_X10_32 mk_X1_init rfl rfl rfl rfl hg rfl rfl rfl ?_
  rintro _ _ _ _ ⟨rfl, rfl, rfl, rfl⟩
  refine hv_pF dX10_init_59 fl_X10_33 (by first | rfl | assumption) rfl rfl (fun _ _ _ h => by cases h; rfl) rfl rfl ?_
  refine hv_aload_n dX10_init_62 rfl ?_
  refine hv_cv0 (g_clear_45 rfl rfl ⟨rfl, rfl, rfl, rfl, rfl, rfl, rfl⟩) dX10_init_63 ml_X10_37 mk_X10_clear (by first | rfl | assumption) rfl rfl rfl rfl rfl ?_
  rintro _ _ _ _ ⟨rfl, rfl, rfl, rfl⟩
  refine hv_vret dX10_init_66 rfl ?_
  exact ⟨rfl, rfl, rfl, rfl⟩
set_option maxRecDepth 100000 in
theorem k_X10_init_52 (hg : hgN G) : hCal G (n_X10_init_52 (hEq none (cR_X10_init_52 r) (cS_X10_init_52 σ) τ)) [.ref (hgA G 51)] (shp.take 52) r σ τ := by
  refine hv_enter pn_X10 rfl ?_
  refine hv_aload_n dX10_init_0 rfl ?_
  refine hv_obj dX10_init_1 ol_X10 rfl rfl ?_
  refine hv_aload_n dX10_init_4 rfl ?_
  refine hv_bipush (v := 7) dX10_init_5 (by decide) ?_
  refine hv_new_int (n := 52) (N := 7) (Sh' := shp.take 53) dX10_init_7 rfl rfl hg rfl rfl (by decide) (by decide) rfl rfl ?_
  refine hv_pF dX10_init_9 fl_X10_9 (by first | rfl | assumption) rfl rfl (fun _ _ _ h => by cases h; rfl) rfl rfl ?_
  refine hv_aload_n dX10_init_12 rfl ?_
  refine hv_bipush (v := 7) dX10_init_13 (by decide) ?_
  refine hv_new_int (n := 53) (N := 7) (Sh' := shp.take 54) dX10_init_15 rfl rfl hg rfl rfl (by decide) (by decide) rfl rfl ?_
  refine hv_pF dX10_init_17 fl_X10_15 (by first | rfl | assumption) rfl rfl (fun _ _ _ h => by cases h; rfl) rfl rfl ?_
  refine hv_aload_n dX10_init_20 rfl ?_
  refine hv_bipush (v := 7) dX10_init_21 (by decide) ?_
  refine hv_new_int (n := 54) (N := 7) (Sh' := shp.take 55) dX10_init_23 rfl rfl hg rfl rfl (by decide) (by decide) rfl rfl ?_
  refine hv_pF dX10_init_25 fl_X10_18 (by first | rfl | assumption) rfl rfl (fun _ _ _ h => by cases h; rfl) rfl rfl ?_
  refine hv_aload_n dX10_init_28 rfl ?_
  refine hv_bipush (v := 7) dX10_init_29 (by decide) ?_
  refine hv_new_int (n := 55) (N := 7) (Sh' := shp.take 56) dX10_init_31 rfl rfl hg rfl rfl (by decide) (by decide) rfl rfl ?_
  refine hv_pF dX10_init_33 fl_X10_21 (by first | rfl | assumption) rfl rfl (fun _ _ _ h => by cases h; rfl) rfl rfl ?_
  refine hv_aload_n dX10_init_36 rfl ?_
  refine hv_bipush (v := 7) dX10_init_37 (by decide) ?_
  refine hv_new_int (n := 56) (N := 7) (Sh' := shp.take 57) dX10_init_39 rfl rfl hg rfl rfl (by decide) (by decide) rfl rfl ?_
  refine hv_pF dX10_init_41 fl_X10_24 (by first | rfl | assumption) rfl rfl (fun _ _ _ h => by cases h; rfl) rfl rfl ?_
  refine hv_aload_n dX10_init_44 rfl ?_
  refine hv_iconst (v := 5) dX10_init_45 (by decide) ?_
  refine hv_new_int (n := 57) (N := 5) (Sh' := shp.take 58) dX10_init_46 rfl rfl hg rfl rfl (by decide) (by decide) rfl rfl ?_
  refine hv_pF dX10_init_48 fl_X10_27 (by first | rfl | assumption) rfl rfl (fun _ _ _ h => by cases h; rfl) rfl rfl ?_
  refine hv_aload_n dX10_init_51 rfl ?_
  refine hv_new (n := 58) (ci := 1) (Sh' := shp.take 59) dX10_init_52 rfl kl_X10_30 ki_X1 kn_X1 rfl rfl hg rfl rfl rfl rfl ?_
  refine hv_dup dX10_init_55 rfl ?_
  refine hv_cn0 (k_X1_init_59 hg) dX10_init_56 nw_X10_32 mk_X1_init rfl rfl rfl rfl hg rfl rfl rfl ?_
  rintro _ _ _ _ ⟨rfl, rfl, rfl, rfl⟩
  refine hv_pF dX10_init_59 fl_X10_33 (by first | rfl | assumption) rfl rfl (fun _ _ _ h => by cases h; rfl) rfl rfl ?_
  refine hv_aload_n dX10_init_62 rfl ?_
  refine hv_cv0 (g_clear_58 rfl rfl ⟨rfl, rfl, rfl, rfl, rfl, rfl, rfl⟩) dX10_init_63 ml_X10_37 mk_X10_clear (by first | rfl | assumption) rfl rfl rfl rfl rfl ?_
  rintro _ _ _ _ ⟨rfl, rfl, rfl, rfl⟩
  refine hv_vret dX10_init_66 rfl ?_
  exact ⟨rfl, rfl, rfl, rfl⟩
set_option maxRecDepth 100000 in
theorem k_X11_init_1 (hg : hgN G) : hCal G (n_X11_init_1 (hEq none (cR_X11_init_1 r) (cS_X11_init_1 σ) τ)) [.ref (hgA G 0)] (shp.take 1) r σ τ := by
  refine hv_enter pn_X11 rfl ?_
  refine hv_aload_n dX11_init_0 rfl ?_
  refine hv_obj dX11_init_1 ol_X11 rfl rfl ?_
  refine hv_aload_n dX11_init_4 rfl ?_
  refine hv_new (n := 1) (ci := 7) (Sh' := shp.take 2) dX11_init_5 rfl kl_X11_7 ki_X7 kn_X7 rfl rfl hg rfl rfl rfl rfl ?_
  refine hv_dup dX11_init_8 rfl ?_
  refine hv_cn0 (k_X7_init_2 hg) dX11_init_9 nw_X11_9 mk_X7_init rfl rfl rfl rfl hg rfl rfl rfl ?_
  rintro _ _ _ _ ⟨rfl, rfl, rfl, rfl⟩
  refine hv_pF dX11_init_12 fl_X11_10 (by first | rfl | assumption) rfl rfl (fun _ _ _ h => by cases h; rfl) rfl rfl ?_
  refine hv_aload_n dX11_init_15 rfl ?_
  refine hv_new (n := 3) (ci := 9) (Sh' := shp.take 4) dX11_init_16 rfl kl_X11_16 ki_X9 kn_X9 rfl rfl hg rfl rfl rfl rfl ?_
  refine hv_dup dX11_init_19 rfl ?_
  refine hv_aload_n dX11_init_20 rfl ?_
  refine hv_getr dX11_init_21 fl_X11_10 (by first | rfl | assumption) rfl (by first | rfl | assumption) ?_
  refine hv_ci1 (k_X9_init_4 hg) dX11_init_24 ml_X11_18 mk_X9_init rfl rfl rfl rfl hg rfl rfl rfl ?_
  rintro _ _ _ _ ⟨rfl, rfl, rfl, rfl⟩
  refine hv_pF dX11_init_27 fl_X11_21 (by first | rfl | assumption) rfl rfl (fun _ _ _ h => by cases h; rfl) rfl rfl ?_
  refine hv_aload_n dX11_init_30 rfl ?_
  refine hv_new (n := 7) (ci := 4) (Sh' := shp.take 8) dX11_init_31 rfl kl_X11_25 ki_X4 kn_X4 rfl rfl hg rfl rfl rfl rfl ?_
  refine hv_dup dX11_init_34 rfl ?_
  refine hv_aload_n dX11_init_35 rfl ?_
  refine hv_getr dX11_init_36 fl_X11_21 (by first | rfl | assumption) rfl (by first | rfl | assumption) ?_
  refine hv_ci1 (k_X4_init_8 hg) dX11_init_39 ml_X11_27 mk_X4_init rfl rfl rfl rfl hg rfl rfl rfl ?_
  rintro _ _ _ _ ⟨rfl, rfl, rfl, rfl⟩
  refine hv_pF dX11_init_42 fl_X11_30 (by first | rfl | assumption) rfl rfl (fun _ _ _ h => by cases h; rfl) rfl rfl ?_
  refine hv_aload_n dX11_init_45 rfl ?_
  refine hv_new (n := 8) (ci := 8) (Sh' := shp.take 9) dX11_init_46 rfl kl_X11_34 ki_X8 kn_X8 rfl rfl hg rfl rfl rfl rfl ?_
  refine hv_dup dX11_init_49 rfl ?_
  refine hv_aload_n dX11_init_50 rfl ?_
  refine hv_getr dX11_init_51 fl_X11_21 (by first | rfl | assumption) rfl (by first | rfl | assumption) ?_
  refine hv_ci1 (k_X8_init_9 hg) dX11_init_54 ml_X11_36 mk_X8_init rfl rfl rfl rfl hg rfl rfl rfl ?_
  rintro _ _ _ _ ⟨rfl, rfl, rfl, rfl⟩
  refine hv_pF dX11_init_57 fl_X11_37 (by first | rfl | assumption) rfl rfl (fun _ _ _ h => by cases h; rfl) rfl rfl ?_
  refine hv_aload_n dX11_init_60 rfl ?_
  refine hv_new (n := 11) (ci := 6) (Sh' := shp.take 12) dX11_init_61 rfl kl_X11_41 ki_X6 kn_X6 rfl rfl hg rfl rfl rfl rfl ?_
  refine hv_dup dX11_init_64 rfl ?_
  refine hv_cn0 (k_X6_init_12 hg) dX11_init_65 nw_X11_43 mk_X6_init rfl rfl rfl rfl hg rfl rfl rfl ?_
  rintro _ _ _ _ ⟨rfl, rfl, rfl, rfl⟩
  refine hv_pF dX11_init_68 fl_X11_44 (by first | rfl | assumption) rfl rfl (fun _ _ _ h => by cases h; rfl) rfl rfl ?_
  refine hv_aload_n dX11_init_71 rfl ?_
  refine hv_new (n := 17) (ci := 5) (Sh' := shp.take 18) dX11_init_72 rfl kl_X11_48 ki_X5 kn_X5 rfl rfl hg rfl rfl rfl rfl ?_
  refine hv_dup dX11_init_75 rfl ?_
  refine hv_cn0 (k_X5_init_18 hg) dX11_init_76 nw_X11_50 mk_X5_init rfl rfl rfl rfl hg rfl rfl rfl ?_
  rintro _ _ _ _ ⟨rfl, rfl, rfl, rfl⟩
  refine hv_pF dX11_init_79 fl_X11_51 (by first | rfl | assumption) rfl rfl (fun _ _ _ h => by cases h; rfl) rfl rfl ?_
  refine hv_aload_n dX11_init_82 rfl ?_
  refine hv_new (n := 21) (ci := 2) (Sh' := shp.take 22) dX11_init_83 rfl kl_X11_55 ki_X2 kn_X2 rfl rfl hg rfl rfl rfl rfl ?_
  refine hv_dup dX11_init_86 rfl ?_
  refine hv_cn0 (k_X2_init_22 hg) dX11_init_87 nw_X11_57 mk_X2_init rfl rfl rfl rfl hg rfl rfl rfl ?_
  rintro _ _ _ _ ⟨rfl, rfl, rfl, rfl⟩
  refine hv_pF dX11_init_90 fl_X11_58 (by first | rfl | assumption) rfl rfl (fun _ _ _ h => by cases h; rfl) rfl rfl ?_
  refine hv_aload_n dX11_init_93 rfl ?_
  refine hv_new (n := 31) (ci := 0) (Sh' := shp.take 32) dX11_init_94 rfl kl_X11_62 ki_X0 kn_X0 rfl rfl hg rfl rfl rfl rfl ?_
  refine hv_dup dX11_init_97 rfl ?_
  refine hv_aload_n dX11_init_98 rfl ?_
  refine hv_getr dX11_init_99 fl_X11_58 (by first | rfl | assumption) rfl (by first | rfl | assumption) ?_
  refine hv_ci1 (k_X0_init_32 hg) dX11_init_102 ml_X11_64 mk_X0_init rfl rfl rfl rfl hg rfl rfl rfl ?_
  rintro _ _ _ _ ⟨rfl, rfl, rfl, rfl⟩
  refine hv_pF dX11_init_105 fl_X11_67 (by first | rfl | assumption) rfl rfl (fun _ _ _ h => by cases h; rfl) rfl rfl ?_
  refine hv_aload_n dX11_init_108 rfl ?_
  refine hv_new (n := 35) (ci := 3) (Sh' := shp.take 36) dX11_init_109 rfl kl_X11_71 ki_X3 kn_X3 rfl rfl hg rfl rfl rfl rfl ?_
  refine hv_dup dX11_init_112 rfl ?_
  refine hv_cn0 (k_X3_init_36 hg) dX11_init_113 nw_X11_73 mk_X3_init rfl rfl rfl rfl hg rfl rfl rfl ?_
  rintro _ _ _ _ ⟨rfl, rfl, rfl, rfl⟩
  refine hv_pF dX11_init_116 fl_X11_74 (by first | rfl | assumption) rfl rfl (fun _ _ _ h => by cases h; rfl) rfl rfl ?_
  refine hv_aload_n dX11_init_119 rfl ?_
  refine hv_new (n := 38) (ci := 10) (Sh' := shp.take 39) dX11_init_120 rfl kl_X11_78 ki_X10 kn_X10 rfl rfl hg rfl rfl rfl rfl ?_
  refine hv_dup dX11_init_123 rfl ?_
  refine hv_ci0 (k_X10_init_39 hg) dX11_init_124 ml_X11_80 mk_X10_init rfl rfl rfl rfl hg rfl rfl rfl ?_
  rintro _ _ _ _ ⟨rfl, rfl, rfl, rfl⟩
  refine hv_pR dX11_init_127 fl_X11_81 (by first | rfl | assumption) rfl rfl rfl ?_
  refine hv_aload_n dX11_init_130 rfl ?_
  refine hv_new (n := 51) (ci := 10) (Sh' := shp.take 52) dX11_init_131 rfl kl_X11_78 ki_X10 kn_X10 rfl rfl hg rfl rfl rfl rfl ?_
  refine hv_dup dX11_init_134 rfl ?_
  refine hv_ci0 (k_X10_init_52 hg) dX11_init_135 ml_X11_80 mk_X10_init rfl rfl rfl rfl hg rfl rfl rfl ?_
  rintro _ _ _ _ ⟨rfl, rfl, rfl, rfl⟩
  refine hv_pR dX11_init_138 fl_X11_85 (by first | rfl | assumption) rfl rfl rfl ?_
  refine hv_aload_n dX11_init_141 rfl ?_
  refine hv_iconst (v := -1) dX11_init_142 (by decide) ?_
  refine hv_pI dX11_init_143 fl_X11_88 (by first | rfl | assumption) rfl rfl rfl ?_
  refine hv_aload_n dX11_init_146 rfl ?_
  refine hv_getr dX11_init_147 fl_X11_44 (by first | rfl | assumption) rfl (by first | rfl | assumption) ?_
  refine hv_aload_n dX11_init_150 rfl ?_
  refine hv_getr dX11_init_151 fl_X11_81 (by first | rfl | assumption) rfl (by first | rfl | assumption) ?_
  refine hv_cv1 (g_begin_38 ⟨rfl, ⟨rfl, rfl, rfl, rfl, rfl⟩, ⟨rfl, rfl, rfl, rfl, rfl⟩, rfl, rfl, rfl, rfl, rfl⟩) dX11_init_154 ml_X11_92 mk_X6_begin (by first | rfl | assumption) rfl rfl rfl rfl rfl ?_
  rintro _ _ _ _ ⟨rfl, rfl, rfl, rfl⟩
  refine hv_vret dX11_init_157 rfl ?_
  exact ⟨rfl, rfl, rfl, rfl⟩
end S9zc

