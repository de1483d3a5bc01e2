def shI : Nat → Int32
  | 0 => 24
  | 1 => 16
  | 2 => 8
  | 3 => 0
  | _ => -8
theorem shI_s : ∀ k, k < 4 → shI k + Int32.ofInt (-8) = shI (k + 1) := by decide
theorem shI_p : ∀ k, k < 4 → ¬ shI k < 0 := by decide
def fBy (w : Int32) (k : Nat) : Int32 := (hush w (shI k)).toInt8.toInt32
/-- four bytes behind the first n -/
def fAdd (f : hF) (n : Nat) (w : Int32) : Nat → hF
  | 0 => f
  | k + 1 => upd (fAdd f n w k) (n + k) (fBy w k)
section S31
variable {G : hGl} {σ : hS} {τ : hT} {x y : Option Nat}
theorem c_add {n : Nat} {w : Int32} (hn : σ 1 1 = nI n) (hn2 : n + 4 ≤ 2000) : hCal G (m_X7_add (hQp [1, 2] none (rr 38 51 x y) σ τ (fun σ' => σ' 2 = fAdd (σ 2) n w 4 ∧ σ' 1 1 = nI (n + 4)))) [.ref (hgA G 1), .int w] shp (rr 38 51 x y) σ τ := by
  refine hv_enter pn_X7 rfl ?_
  have loop : ∀ m k (σ' : hS), k + m = 4 → (∀ c, c ∉ [1, 2] → σ' c = σ c) → σ' 2 = fAdd (σ 2) n w k → σ' 1 1 = nI (n + k) → hV G (m_X7_add (hQp [1, 2] none (rr 38 51 x y) σ τ (fun σ' => σ' 2 = fAdd (σ 2) n w 4 ∧ σ' 1 1 = nI (n + 4)))) 0 0 shp 3 [some (.ref (hgA G 1)), some (.int w), some (.int (shI k))] [] (rr 38 51 x y) σ' τ := by
    intro m
    induction m with
    | zero =>
      intro k σ' hk hσ h2 h1
      obtain rfl : k = 4 := by omega
      refine hv_iload_n dX7_add_3 rfl ?_
      refine hv_if_lt (tgt := 46) dX7_add_4 (by decide) (fun c_4 => ?_) (fun c_4 => absurd ((by decide)) c_4)
      refine hv_vret dX7_add_46 rfl ?_
      exact ⟨rfl, rfl, rfl, hσ, h2, h1⟩
    | succ m ih =>
      intro k σ' hk hσ h2 h1
      refine hv_iload_n dX7_add_3 rfl ?_
      refine hv_if_lt (tgt := 46) dX7_add_4 (by decide) (fun c_4 => absurd c_4 ((shI_p k (by omega)))) (fun c_4 => ?_)
      refine hv_aload_n dX7_add_7 rfl ?_
      refine hv_geti dX7_add_8 fl_X7_15 (by first | rfl | assumption) rfl ?_
      refine hv_sipush (v := 2000) dX7_add_11 (by decide) ?_
      refine hv_icmp_ge (tgt := 40) dX7_add_14 (by decide) (fun c_14 => absurd c_14 ((by rw [h1]; exact nI_ge (b := 2000) (by omega) (by decide)))) (fun c_14 => ?_)
      refine hv_aload_n dX7_add_17 rfl ?_
      refine hv_getr dX7_add_18 fl_X7_11 (by first | rfl | assumption) rfl (by first | rfl | assumption) ?_
      refine hv_aload_n dX7_add_21 rfl ?_
      refine hv_geti dX7_add_22 fl_X7_15 (by first | rfl | assumption) rfl ?_
      refine hv_iload_n dX7_add_25 rfl ?_
      refine hv_iload_n dX7_add_26 rfl ?_
      refine hv_iushr dX7_add_27 ?_
      refine hv_i2b dX7_add_28 ?_
      refine hv_bast dX7_add_29 (by first | rfl | assumption) (j := n + k) h1 (by omega) (by first | decide | assumption) ?_
      rw [pk_vb]
      refine hv_aload_n dX7_add_30 rfl ?_
      refine hv_dup dX7_add_31 rfl ?_
      refine hv_geti dX7_add_32 fl_X7_15 (by first | rfl | assumption) rfl ?_
      refine hv_iconst (v := 1) dX7_add_35 (by decide) ?_
      refine hv_iadd dX7_add_36 ?_
      refine hv_puti dX7_add_37 fl_X7_15 (by first | rfl | assumption) rfl rfl rfl ?_
      refine hv_iinc dX7_add_40 rfl (shI_s k (by omega)) rfl rfl ?_
      refine hv_goto (tgt := 3) dX7_add_43 (by decide) ?_
      refine ih (k + 1) _ (by omega) (off_up (off_up hσ (by decide)) (by decide)) ?_ ?_
      · rw [hva_ne (by decide), hup_eq, h2]; rfl
      · rw [hup_eq, pk_us, hva_ne (by decide), h1]; exact nI_1 (n + k)
  refine hv_bipush (v := 24) dX7_add_0 (by decide) ?_
  refine hv_istore_n dX7_add_2 rfl rfl ?_
  exact loop 4 0 σ (by omega) (fun _ _ => rfl) rfl hn
theorem c_hasRoom {n : Nat} (hn : σ 1 1 = nI n) (hn2 : n ≤ 2000) : hCal G (m_X7_hasRoom (hEq (some (.int (bI (decide (n + 20 ≤ 2000))))) (rr 38 51 x y) σ τ)) [.ref (hgA G 1), .int 20] shp (rr 38 51 x y) σ τ := by
  refine hv_enter pn_X7 rfl ?_
  refine hv_aload_n dX7_hasRoom_0 rfl ?_
  refine hv_geti dX7_hasRoom_1 fl_X7_15 (by first | rfl | assumption) rfl ?_
  refine hv_iload_n dX7_hasRoom_4 rfl ?_
  refine hv_iadd dX7_hasRoom_5 ?_
  refine hv_sipush (v := 2000) dX7_hasRoom_6 (by decide) ?_
  rw [hn, show nI n + 20 = nI (n + 20) from nI_add n 20]
  refine hv_icmp_gt (tgt := 16) dX7_hasRoom_9 (by decide) (fun c_9 => ?_) (fun c_9 => ?_)
  · refine hv_iconst (v := 0) dX7_hasRoom_16 (by decide) ?_
    refine hv_zret dX7_hasRoom_17 rfl (by first | exact Or.inl rfl | exact Or.inr rfl | assumption) ?_
    first
      | (rw [decide_eq_true (show n + 20 ≤ 2000 from Nat.not_lt.mp fun qq => c_9 (nI_lt (a := 2000) qq (by omega)))]; exact ⟨rfl, rfl, rfl, rfl⟩)
      | (rw [decide_eq_false (show ¬ n + 20 ≤ 2000 from fun qq => nI_nlt (a := 2000) qq (by decide) c_9)]; exact ⟨rfl, rfl, rfl, rfl⟩)
  · refine hv_iconst (v := 1) dX7_hasRoom_12 (by decide) ?_
    refine hv_goto (tgt := 17) dX7_hasRoom_13 (by decide) ?_
    refine hv_zret dX7_hasRoom_17 rfl (by first | exact Or.inl rfl | exact Or.inr rfl | assumption) ?_
    first
      | (rw [decide_eq_true (show n + 20 ≤ 2000 from Nat.not_lt.mp fun qq => c_9 (nI_lt (a := 2000) qq (by omega)))]; exact ⟨rfl, rfl, rfl, rfl⟩)
      | (rw [decide_eq_false (show ¬ n + 20 ≤ 2000 from fun qq => nI_nlt (a := 2000) qq (by decide) c_9)]; exact ⟨rfl, rfl, rfl, rfl⟩)
def fFed (f : hF) (n : Nat) (a b c d e : Int32) : hF := fAdd (fAdd (fAdd (fAdd (fAdd f n a 4) (n + 4) b 4) (n + 4 + 4) c 4) (n + 4 + 4 + 4) d 4) (n + 4 + 4 + 4 + 4) e 4
theorem c_feed {n : Nat} {a b c d e : Int32} (hn : σ 1 1 = nI n) (hn2 : n ≤ 2000) : hCal G (m_X11_feed (fun v r' σ' τ' => rr 38 51 x y = r' ∧ τ = τ' ∧ ((¬ n + 20 ≤ 2000 ∧ v = some (.int (-1)) ∧ σ = σ') ∨ (n + 20 ≤ 2000 ∧ v = some (.int (nI (n + 20))) ∧ (∀ k, k ∉ [1, 2] → σ' k = σ k) ∧ σ' 2 = fFed (σ 2) n a b c d e ∧ σ' 1 1 = nI (n + 20))))) [.ref (hgA G 0), .int a, .int b, .int c, .int d, .int e] shp (rr 38 51 x y) σ τ := by
  refine hv_enter pn_X11 rfl ?_
  refine hv_aload_n dX11_feed_0 rfl ?_
  refine hv_getr dX11_feed_1 fl_X11_10 (by first | rfl | assumption) rfl (by first | rfl | assumption) ?_
  refine hv_bipush (v := 20) dX11_feed_4 (by decide) ?_
  refine hv_cv1 (c_hasRoom hn hn2) dX11_feed_6 ml_X11_96 mk_X7_hasRoom (by first | rfl | assumption) rfl rfl rfl rfl rfl ?_
  rintro _ _ _ _ ⟨rfl, rfl, rfl, rfl⟩
  refine hv_if_ne (tgt := 14) dX11_feed_9 (by decide) (fun c_9 => ?_) (fun c_9 => ?_)
  · have hyes : n + 20 ≤ 2000 := of_decide_eq_true (bI_1 c_9)
    refine hv_aload_n dX11_feed_14 rfl ?_
    refine hv_getr dX11_feed_15 fl_X11_10 (by first | rfl | assumption) rfl (by first | rfl | assumption) ?_
    refine hv_iload_n dX11_feed_18 rfl ?_
    refine hv_cv1 (c_add hn (by omega)) dX11_feed_19 ml_X11_100 mk_X7_add (by first | rfl | assumption) rfl rfl rfl rfl rfl ?_
    rintro _ _ σ1 _ ⟨rfl, rfl, rfl, u1, u2, u3⟩
    refine hv_aload_n dX11_feed_22 rfl ?_
    refine hv_getr dX11_feed_23 fl_X11_10 (by first | rfl | assumption) rfl (by first | rfl | assumption) ?_
    refine hv_iload_n dX11_feed_26 rfl ?_
    refine hv_cv1 (c_add u3 (by omega)) dX11_feed_27 ml_X11_100 mk_X7_add (by first | rfl | assumption) rfl rfl rfl rfl rfl ?_
    rintro _ _ σ2 _ ⟨rfl, rfl, rfl, v1, v2, v3⟩
    refine hv_aload_n dX11_feed_30 rfl ?_
    refine hv_getr dX11_feed_31 fl_X11_10 (by first | rfl | assumption) rfl (by first | rfl | assumption) ?_
    refine hv_iload_n dX11_feed_34 rfl ?_
    refine hv_cv1 (c_add v3 (by omega)) dX11_feed_35 ml_X11_100 mk_X7_add (by first | rfl | assumption) rfl rfl rfl rfl rfl ?_
    rintro _ _ σ3 _ ⟨rfl, rfl, rfl, w1, w2, w3⟩
    refine hv_aload_n dX11_feed_38 rfl ?_
    refine hv_getr dX11_feed_39 fl_X11_10 (by first | rfl | assumption) rfl (by first | rfl | assumption) ?_
    refine hv_iload dX11_feed_42 rfl ?_
    refine hv_cv1 (c_add w3 (by omega)) dX11_feed_44 ml_X11_100 mk_X7_add (by first | rfl | assumption) rfl rfl rfl rfl rfl ?_
    rintro _ _ σ4 _ ⟨rfl, rfl, rfl, x1, x2, x3⟩
    refine hv_aload_n dX11_feed_47 rfl ?_
    refine hv_getr dX11_feed_48 fl_X11_10 (by first | rfl | assumption) rfl (by first | rfl | assumption) ?_
    refine hv_iload dX11_feed_51 rfl ?_
    refine hv_cv1 (c_add x3 (by omega)) dX11_feed_53 ml_X11_100 mk_X7_add (by first | rfl | assumption) rfl rfl rfl rfl rfl ?_
    rintro _ _ σ5 _ ⟨rfl, rfl, rfl, y1, y2, y3⟩
    refine hv_aload_n dX11_feed_56 rfl ?_
    refine hv_getr dX11_feed_57 fl_X11_10 (by first | rfl | assumption) rfl (by first | rfl | assumption) ?_
    refine hv_geti dX11_feed_60 fl_X11_104 (by first | rfl | assumption) rfl ?_
    refine hv_iret dX11_feed_63 rfl ?_
    have y4 : σ5 1 1 = nI (n + 20) := y3
    refine ⟨rfl, rfl, Or.inr ⟨hyes, by rw [y4], ?_, ?_, y4⟩⟩
    · intro k hk2
      rw [y1 k hk2, x1 k hk2, w1 k hk2, v1 k hk2, u1 k hk2]
    · rw [y2, x2, w2, v2, u2]; rfl
  · have hno : ¬ n + 20 ≤ 2000 := of_decide_eq_false (bI_0 c_9)
    refine hv_iconst (v := -1) dX11_feed_12 (by decide) ?_
    refine hv_iret dX11_feed_13 rfl ?_
    exact ⟨rfl, rfl, Or.inl ⟨hno, rfl, rfl⟩⟩
theorem c_count {h sz : Nat} {pr : Nat → Option Nat} {V : hF} {w : Int32} (ok : okC σ h sz) (hs5 : σ 11 5 = nI h) (hpr : okX σ h pr) (hvv : V = fVotes (twC σ h sz) (dyC σ 11) (hsum (σ 12) h)) : hCal G (m_X11_count (hQx xQ (some (.int (if w = 0 then σ 38 7 else if w = 1 then σ 38 8 else if w = 2 then σ 38 9 else if w = 3 then σ 11 6 else if w = 4 then hsum (σ 12) h else if w = 5 then hsum (σ 13) h else if w = 6 then hsum (σ 15) h else if w = 7 then σ 11 7 else if w = 8 then σ 1 1 else if w = 9 then σ 17 4 else if w = 10 then σ 35 2 else if w = 11 then fHld (σ 20) 3 else if w = 12 then hsum V h else if w = 13 then (if fGl (twC σ h sz) (σ 38 12) (σ 11 6) = true then 1 else 0) else if w = 14 then hsum (σ 14) h else -1))) (rr 38 51 x y) σ τ)) [.ref (hgA G 0), .int w] shp (rr 38 51 x y) σ τ := by
  have k2 := ok.2.1
  refine hv_enter pn_X11 rfl ?_
  refine hv_iload_n dX11_count_0 rfl ?_
  by_cases c_1_0 : w = 0
  · refine hv_tin (off := 75) (tgt := 76) (i := 0) dX11_count_1 c_1_0 (by decide) (by decide) (by decide) (by decide) ?_
    refine hv_aload_n dX11_count_76 rfl ?_
    refine hv_getr dX11_count_77 fl_X11_81 (by first | rfl | assumption) rfl (by first | rfl | assumption) ?_
    refine hv_geti dX11_count_80 fl_X11_241 (by first | rfl | assumption) rfl ?_
    refine hv_iret dX11_count_83 rfl ?_
    rw [if_pos c_1_0]; exact ⟨rfl, rfl, rfl, fun _ _ => rfl⟩
  by_cases c_1_1 : w = 1
  · refine hv_tin (off := 83) (tgt := 84) (i := 1) dX11_count_1 c_1_1 (by decide) (by decide) (by decide) (by decide) ?_
    refine hv_aload_n dX11_count_84 rfl ?_
    refine hv_getr dX11_count_85 fl_X11_81 (by first | rfl | assumption) rfl (by first | rfl | assumption) ?_
    refine hv_geti dX11_count_88 fl_X11_361 (by first | rfl | assumption) rfl ?_
    refine hv_iret dX11_count_91 rfl ?_
    simp only [c_1_0, c_1_1, if_false, if_true]; exact ⟨rfl, rfl, rfl, fun _ _ => rfl⟩
  by_cases c_1_2 : w = 2
  · refine hv_tin (off := 91) (tgt := 92) (i := 2) dX11_count_1 c_1_2 (by decide) (by decide) (by decide) (by decide) ?_
    refine hv_aload_n dX11_count_92 rfl ?_
    refine hv_getr dX11_count_93 fl_X11_81 (by first | rfl | assumption) rfl (by first | rfl | assumption) ?_
    refine hv_geti dX11_count_96 fl_X11_291 (by first | rfl | assumption) rfl ?_
    refine hv_iret dX11_count_99 rfl ?_
    simp only [c_1_0, c_1_1, c_1_2, if_false, if_true]; exact ⟨rfl, rfl, rfl, fun _ _ => rfl⟩
  by_cases c_1_3 : w = 3
  · refine hv_tin (off := 99) (tgt := 100) (i := 3) dX11_count_1 c_1_3 (by decide) (by decide) (by decide) (by decide) ?_
    refine hv_aload_n dX11_count_100 rfl ?_
    refine hv_getr dX11_count_101 fl_X11_44 (by first | rfl | assumption) rfl (by first | rfl | assumption) ?_
    refine hv_geti dX11_count_104 fl_X11_227 (by first | rfl | assumption) rfl ?_
    refine hv_iret dX11_count_107 rfl ?_
    simp only [c_1_0, c_1_1, c_1_2, c_1_3, if_false, if_true]; exact ⟨rfl, rfl, rfl, fun _ _ => rfl⟩
  by_cases c_1_4 : w = 4
  · refine hv_tin (off := 107) (tgt := 108) (i := 4) dX11_count_1 c_1_4 (by decide) (by decide) (by decide) (by decide) ?_
    refine hv_aload_n dX11_count_108 rfl ?_
    refine hv_getr dX11_count_109 fl_X11_44 (by first | rfl | assumption) rfl (by first | rfl | assumption) ?_
    refine hv_cv0 (c_allFish_11 hs5 k2) dX11_count_112 ml_X11_166 mk_X6_allFish (by first | rfl | assumption) rfl rfl rfl rfl rfl ?_
    rintro _ _ _ _ ⟨rfl, rfl, rfl, rfl⟩
    refine hv_iret dX11_count_115 rfl ?_
    simp only [c_1_0, c_1_1, c_1_2, c_1_3, c_1_4, if_false, if_true]; exact ⟨rfl, rfl, rfl, fun _ _ => rfl⟩
  by_cases c_1_5 : w = 5
  · refine hv_tin (off := 115) (tgt := 116) (i := 5) dX11_count_1 c_1_5 (by decide) (by decide) (by decide) (by decide) ?_
    refine hv_aload_n dX11_count_116 rfl ?_
    refine hv_getr dX11_count_117 fl_X11_44 (by first | rfl | assumption) rfl (by first | rfl | assumption) ?_
    refine hv_aload_n dX11_count_120 rfl ?_
    refine hv_getr dX11_count_121 fl_X11_44 (by first | rfl | assumption) rfl (by first | rfl | assumption) ?_
    refine hv_getr dX11_count_124 fl_X11_148 (by first | rfl | assumption) rfl (by first | rfl | assumption) ?_
    refine hv_cv1 (c_sum rfl rfl (by decide) hs5 k2) dX11_count_127 ml_X11_364 mk_X6_sum (by first | rfl | assumption) rfl rfl rfl rfl rfl ?_
    rintro _ _ _ _ ⟨rfl, rfl, rfl, rfl⟩
    refine hv_iret dX11_count_130 rfl ?_
    simp only [c_1_0, c_1_1, c_1_2, c_1_3, c_1_4, c_1_5, if_false, if_true]; exact ⟨rfl, rfl, rfl, fun _ _ => rfl⟩
  by_cases c_1_6 : w = 6
  · refine hv_tin (off := 130) (tgt := 131) (i := 6) dX11_count_1 c_1_6 (by decide) (by decide) (by decide) (by decide) ?_
    refine hv_aload_n dX11_count_131 rfl ?_
    refine hv_getr dX11_count_132 fl_X11_44 (by first | rfl | assumption) rfl (by first | rfl | assumption) ?_
    refine hv_aload_n dX11_count_135 rfl ?_
    refine hv_getr dX11_count_136 fl_X11_44 (by first | rfl | assumption) rfl (by first | rfl | assumption) ?_
    refine hv_getr dX11_count_139 fl_X11_160 (by first | rfl | assumption) rfl (by first | rfl | assumption) ?_
    refine hv_cv1 (c_sum rfl rfl (by decide) hs5 k2) dX11_count_142 ml_X11_364 mk_X6_sum (by first | rfl | assumption) rfl rfl rfl rfl rfl ?_
    rintro _ _ _ _ ⟨rfl, rfl, rfl, rfl⟩
    refine hv_iret dX11_count_145 rfl ?_
    simp only [c_1_0, c_1_1, c_1_2, c_1_3, c_1_4, c_1_5, c_1_6, if_false, if_true]; exact ⟨rfl, rfl, rfl, fun _ _ => rfl⟩
  by_cases c_1_7 : w = 7
  · refine hv_tin (off := 145) (tgt := 146) (i := 7) dX11_count_1 c_1_7 (by decide) (by decide) (by decide) (by decide) ?_
    refine hv_aload_n dX11_count_146 rfl ?_
    refine hv_getr dX11_count_147 fl_X11_44 (by first | rfl | assumption) rfl (by first | rfl | assumption) ?_
    refine hv_geti dX11_count_150 fl_X11_211 (by first | rfl | assumption) rfl ?_
    refine hv_iret dX11_count_153 rfl ?_
    simp only [c_1_0, c_1_1, c_1_2, c_1_3, c_1_4, c_1_5, c_1_6, c_1_7, if_false, if_true]; exact ⟨rfl, rfl, rfl, fun _ _ => rfl⟩
  by_cases c_1_8 : w = 8
  · refine hv_tin (off := 153) (tgt := 154) (i := 8) dX11_count_1 c_1_8 (by decide) (by decide) (by decide) (by decide) ?_
    refine hv_aload_n dX11_count_154 rfl ?_
    refine hv_getr dX11_count_155 fl_X11_10 (by first | rfl | assumption) rfl (by first | rfl | assumption) ?_
    refine hv_geti dX11_count_158 fl_X11_104 (by first | rfl | assumption) rfl ?_
    refine hv_iret dX11_count_161 rfl ?_
    simp only [c_1_0, c_1_1, c_1_2, c_1_3, c_1_4, c_1_5, c_1_6, c_1_7, c_1_8, if_false, if_true]; exact ⟨rfl, rfl, rfl, fun _ _ => rfl⟩
  by_cases c_1_9 : w = 9
  · refine hv_tin (off := 161) (tgt := 162) (i := 9) dX11_count_1 c_1_9 (by decide) (by decide) (by decide) (by decide) ?_
    refine hv_aload_n dX11_count_162 rfl ?_
    refine hv_getr dX11_count_163 fl_X11_51 (by first | rfl | assumption) rfl (by first | rfl | assumption) ?_
    refine hv_geti dX11_count_166 fl_X11_367 (by first | rfl | assumption) rfl ?_
    refine hv_iret dX11_count_169 rfl ?_
    simp only [c_1_0, c_1_1, c_1_2, c_1_3, c_1_4, c_1_5, c_1_6, c_1_7, c_1_8, c_1_9, if_false, if_true]; exact ⟨rfl, rfl, rfl, fun _ _ => rfl⟩
  by_cases c_1_10 : w = 10
  · refine hv_tin (off := 169) (tgt := 170) (i := 10) dX11_count_1 c_1_10 (by decide) (by decide) (by decide) (by decide) ?_
    refine hv_aload_n dX11_count_170 rfl ?_
    refine hv_getr dX11_count_171 fl_X11_74 (by first | rfl | assumption) rfl (by first | rfl | assumption) ?_
    refine hv_geti dX11_count_174 fl_X11_341 (by first | rfl | assumption) rfl ?_
    refine hv_iret dX11_count_177 rfl ?_
    simp only [c_1_0, c_1_1, c_1_2, c_1_3, c_1_4, c_1_5, c_1_6, c_1_7, c_1_8, c_1_9, c_1_10, if_false, if_true]; exact ⟨rfl, rfl, rfl, fun _ _ => rfl⟩
  by_cases c_1_11 : w = 11
  · refine hv_tin (off := 177) (tgt := 178) (i := 11) dX11_count_1 c_1_11 (by decide) (by decide) (by decide) (by decide) ?_
    refine hv_aload_n dX11_count_178 rfl ?_
    refine hv_getr dX11_count_179 fl_X11_51 (by first | rfl | assumption) rfl (by first | rfl | assumption) ?_
    refine hv_cv0 (c_slotsHeld) dX11_count_182 ml_X11_370 mk_X5_slotsHeld (by first | rfl | assumption) rfl rfl rfl rfl rfl ?_
    rintro _ _ _ _ ⟨rfl, rfl, rfl, rfl⟩
    refine hv_iret dX11_count_185 rfl ?_
    simp only [c_1_0, c_1_1, c_1_2, c_1_3, c_1_4, c_1_5, c_1_6, c_1_7, c_1_8, c_1_9, c_1_10, c_1_11, if_false, if_true]; exact ⟨rfl, rfl, rfl, fun _ _ => rfl⟩
  by_cases c_1_12 : w = 12
  · refine hv_tin (off := 185) (tgt := 186) (i := 12) dX11_count_1 c_1_12 (by decide) (by decide) (by decide) (by decide) ?_
    refine hv_aload_n dX11_count_186 rfl ?_
    refine hv_cv0 (c_allVotes ok hs5 hpr hvv) dX11_count_187 ml_X11_373 mk_X11_allVotes (by first | rfl | assumption) rfl rfl rfl rfl rfl ?_
    rintro _ _ σ1 _ ⟨rfl, rfl, rfl, hq1⟩
    refine hv_iret dX11_count_190 rfl ?_
    simp only [c_1_0, c_1_1, c_1_2, c_1_3, c_1_4, c_1_5, c_1_6, c_1_7, c_1_8, c_1_9, c_1_10, c_1_11, c_1_12, if_false, if_true]; exact ⟨rfl, rfl, rfl, hq1⟩
  by_cases c_1_13 : w = 13
  · refine hv_tin (off := 190) (tgt := 191) (i := 13) dX11_count_1 c_1_13 (by decide) (by decide) (by decide) (by decide) ?_
    refine hv_aload_n dX11_count_191 rfl ?_
    refine hv_getr dX11_count_192 fl_X11_58 (by first | rfl | assumption) rfl (by first | rfl | assumption) ?_
    refine hv_aload_n dX11_count_195 rfl ?_
    refine hv_getr dX11_count_196 fl_X11_81 (by first | rfl | assumption) rfl (by first | rfl | assumption) ?_
    refine hv_aload_n dX11_count_199 rfl ?_
    refine hv_getr dX11_count_200 fl_X11_44 (by first | rfl | assumption) rfl (by first | rfl | assumption) ?_
    refine hv_geti dX11_count_203 fl_X11_227 (by first | rfl | assumption) rfl ?_
    refine hv_aload_n dX11_count_206 rfl ?_
    refine hv_getr dX11_count_207 fl_X11_81 (by first | rfl | assumption) rfl (by first | rfl | assumption) ?_
    refine hv_geti dX11_count_210 fl_X11_220 (by first | rfl | assumption) rfl ?_
    refine hv_cv3 (c_isGlut (h := h) (sz := sz)) dX11_count_213 ml_X11_376 mk_X2_isGlut (by first | rfl | assumption) rfl rfl rfl rfl rfl ?_
    rintro v _ _ _ ⟨hv, rfl, rfl, rfl⟩
    obtain ⟨gl, rfl, hgl⟩ : ∃ gl : Int32, v = some (.int gl) ∧ (gl = 0 ↔ fGl (twC σ h sz) (σ 38 12) (σ 11 6) = false) := by
      rcases hv with ⟨rfl, qq⟩ | ⟨rfl, qq⟩
      · exact ⟨1, rfl, by rw [fGl_iff.mpr qq]; decide⟩
      · refine ⟨0, rfl, ?_⟩
        cases hg : fGl (twC σ h sz) (σ 38 12) (σ 11 6) with
        | false => simp
        | true => exact absurd (fGl_iff.mp hg) qq
    refine hv_if_eq (tgt := 223) dX11_count_216 (by decide) (fun c_216 => ?_) (fun c_216 => ?_)
    · refine hv_iconst (v := 0) dX11_count_223 (by decide) ?_
      refine hv_iret dX11_count_224 rfl ?_
      simp only [c_1_0, c_1_1, c_1_2, c_1_3, c_1_4, c_1_5, c_1_6, c_1_7, c_1_8, c_1_9, c_1_10, c_1_11, c_1_12, c_1_13, if_false, if_true]
      first
        | (rw [hgl.mp c_216]; exact ⟨rfl, rfl, rfl, fun _ _ => rfl⟩)
        | (rw [show fGl (twC σ h sz) (σ 38 12) (σ 11 6) = true by
              cases hg : fGl (twC σ h sz) (σ 38 12) (σ 11 6) with
              | true => rfl
              | false => exact absurd (hgl.mpr hg) c_216]; exact ⟨rfl, rfl, rfl, fun _ _ => rfl⟩)
    · refine hv_iconst (v := 1) dX11_count_219 (by decide) ?_
      refine hv_goto (tgt := 224) dX11_count_220 (by decide) ?_
      refine hv_iret dX11_count_224 rfl ?_
      simp only [c_1_0, c_1_1, c_1_2, c_1_3, c_1_4, c_1_5, c_1_6, c_1_7, c_1_8, c_1_9, c_1_10, c_1_11, c_1_12, c_1_13, if_false, if_true]
      first
        | (rw [hgl.mp c_216]; exact ⟨rfl, rfl, rfl, fun _ _ => rfl⟩)
        | (rw [show fGl (twC σ h sz) (σ 38 12) (σ 11 6) = true by
              cases hg : fGl (twC σ h sz) (σ 38 12) (σ 11 6) with
              | true => rfl
              | false => exact absurd (hgl.mpr hg) c_216]; exact ⟨rfl, rfl, rfl, fun _ _ => rfl⟩)
  by_cases c_1_14 : w = 14
  · refine hv_tin (off := 224) (tgt := 225) (i := 14) dX11_count_1 c_1_14 (by decide) (by decide) (by decide) (by decide) ?_
    refine hv_aload_n dX11_count_225 rfl ?_
    refine hv_getr dX11_count_226 fl_X11_44 (by first | rfl | assumption) rfl (by first | rfl | assumption) ?_
    refine hv_aload_n dX11_count_229 rfl ?_
    refine hv_getr dX11_count_230 fl_X11_44 (by first | rfl | assumption) rfl (by first | rfl | assumption) ?_
    refine hv_getr dX11_count_233 fl_X11_157 (by first | rfl | assumption) rfl (by first | rfl | assumption) ?_
    refine hv_cv1 (c_sum rfl rfl (by decide) hs5 k2) dX11_count_236 ml_X11_364 mk_X6_sum (by first | rfl | assumption) rfl rfl rfl rfl rfl ?_
    rintro _ _ _ _ ⟨rfl, rfl, rfl, rfl⟩
    refine hv_iret dX11_count_239 rfl ?_
    simp only [c_1_0, c_1_1, c_1_2, c_1_3, c_1_4, c_1_5, c_1_6, c_1_7, c_1_8, c_1_9, c_1_10, c_1_11, c_1_12, c_1_13, c_1_14, if_false, if_true]; exact ⟨rfl, rfl, rfl, fun _ _ => rfl⟩
  refine hv_tout (tgt := 240) dX11_count_1 (by have q0 := lv_neT (a := 0) c_1_0 (by decide); have q1 := lv_neT (a := 1) c_1_1 (by decide); have q2 := lv_neT (a := 2) c_1_2 (by decide); have q3 := lv_neT (a := 3) c_1_3 (by decide); have q4 := lv_neT (a := 4) c_1_4 (by decide); have q5 := lv_neT (a := 5) c_1_5 (by decide); have q6 := lv_neT (a := 6) c_1_6 (by decide); have q7 := lv_neT (a := 7) c_1_7 (by decide); have q8 := lv_neT (a := 8) c_1_8 (by decide); have q9 := lv_neT (a := 9) c_1_9 (by decide); have q10 := lv_neT (a := 10) c_1_10 (by decide); have q11 := lv_neT (a := 11) c_1_11 (by decide); have q12 := lv_neT (a := 12) c_1_12 (by decide); have q13 := lv_neT (a := 13) c_1_13 (by decide); have q14 := lv_neT (a := 14) c_1_14 (by decide); omega) (by decide) ?_
  refine hv_iconst (v := -1) dX11_count_240 (by decide) ?_
  refine hv_iret dX11_count_241 rfl ?_
  simp only [c_1_0, c_1_1, c_1_2, c_1_3, c_1_4, c_1_5, c_1_6, c_1_7, c_1_8, c_1_9, c_1_10, c_1_11, c_1_12, c_1_13, c_1_14, if_false]; exact ⟨rfl, rfl, rfl, fun _ _ => rfl⟩
end S31

