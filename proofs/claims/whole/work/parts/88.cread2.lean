section S88
variable {G : hGl} {σ : hS} {τ : hT} {x y : Option Nat}
theorem supX_tok {D : Nat → Nat} {S : hSm} : ∀ k j m q t, supX D S k j m = .inl (q, t) → j ≤ t ∧ t < j + k ∧ (q = 3 ∨ q = 4 ∨ q = 5)
  | 0, j, m, q, t, h => by cases h
  | k + 1, j, m, q, t, h => by
    unfold supX at h
    split at h
    · cases h; omega
    · split at h
      · cases h; omega
      · have := supX_tok k _ _ q t h; omega
theorem smTell_tok {K V D : Nat → Nat} {S : hSm} {s e q t : Nat} {l : Option (Nat × hLw)} (hp : tlP K s e l) (h : smTell K V D S s e = .inl (q, t)) : s ≤ t ∧ t < e ∧ (q = 3 ∨ q = 4 ∨ q = 5) := by
  obtain ⟨t1, t2, t3, t4, t5, t6, t7, t8, t9⟩ := hp
  unfold smTell at h
  split at h
  · rename_i c
    have := t3 c
    unfold smHouse at h
    repeat' split at h
    all_goals cases h
    all_goals omega
  split at h
  · rename_i c
    have := t4 c
    unfold smHears at h
    repeat' split at h
    all_goals cases h
    all_goals omega
  split at h
  · rename_i c
    have := t5 c
    unfold smMotion at h
    split at h
    · cases h; omega
    · split at h
      · rename_i e2
        cases h
        have := supX_tok _ _ _ _ _ e2
        omega
      · cases h
  split at h
  · have := t6 (by omega)
    split at h <;> cases h
    omega
  split at h
  · have := t6 (by omega)
    split at h <;> cases h
    omega
  split at h
  · have := t6 (by omega)
    split at h <;> cases h
    omega
  cases h
theorem semX_tok {f : hF} {n a9 h9 r9 m9 : Nat} {L9 : hLs} : ∀ k s h r m (L : hLs) S q t, rel f n s → textX (kd f n) (vl f n) k s h r m L = .inr (a9, (h9, r9, m9, L9)) → semX (kd f n) (vl f n) (dg f n) k s h r m S = .inl (q, t) → rel f n t ∧ (q = 3 ∨ q = 4 ∨ q = 5)
  | 0, s, h, r, m, L, S, q, t, hr, hT, hs => by cases hs
  | k + 1, s, h, r, m, L, S, q, t, hr, hT, hs => by
    rw [semX_s] at hs
    rw [textX_s] at hT
    by_cases c25 : kd f n s = 25
    · rw [if_pos c25] at hs; cases hs
    · rw [if_neg c25] at hs hT
      obtain ⟨e, l, hX, hT2⟩ := bd_iff.mp hT
      rw [hX] at hs
      dsimp only at hs
      have hok := tellX_ok (kd f n) (vl f n) h r m s hr.1
      rw [hX] at hok
      obtain ⟨o1, o2, o3, o4⟩ := hok
      rcases hsm : smTell (kd f n) (vl f n) (dg f n) S s e with ⟨q', t'⟩ | S'
      · rw [hsm] at hs
        cases hs
        have g := smTell_tok o4 hsm
        exact ⟨rel_up hr o2 o4.2.1 (by omega) (by omega), g.2.2⟩
      · rw [hsm] at hs
        exact semX_tok k e _ _ _ _ S' q t (rel_up hr o2 o4.2.1 (Nat.le_refl _) o1) hT2 hs
/-- what a text is read as -/
def rdX (f : hF) (n : Nat) : Sum (Nat × Nat) (hLs × hSm) := match textX (kd f n) (vl f n) 401 0 0 0 0 (fun _ => none) with
  | .inl e => .inl e
  | .inr (_, (_, _, _, L)) => match semX (kd f n) (vl f n) (dg f n) 401 0 0 0 0 sm0 with
    | .inl e => .inl e
    | .inr S => .inr (L, S)
abbrev xRs : List Nat := [3, 4, 5, 6, 7, 8, 9, 10, 51, 52, 53, 54, 55, 56, 57, 58, 59, 60, 61]
abbrev xRd : List Nat := [0, 1, 3, 4, 5, 6, 7, 8, 9, 10, 11, 12, 13, 14, 15, 16, 17, 20, 35, 51, 52, 53, 54, 55, 56, 57, 58, 59, 60, 61]
def pRd (f : hF) (n : Nat) (σ σ' : hS) : Prop := σ' 1 = upd (σ 1) 1 0 ∧ match rdX f n with
  | .inl (_, t) => (∀ c, c ∈ [11, 12, 13, 14, 15, 16, 17, 20, 35] → σ' c = σ c) ∧ σ' 0 = upd (σ 0) 11 (nI (tq f n t))
  | .inr (L, S) => σ' 0 = upd (σ 0) 11 (-1) ∧ clsS f n S σ' ∧ okS S ∧ (∃ sz, lawsC L sz σ' ∧ sz ≤ 410) ∧ σ' 17 = upd (σ 17) 4 0 ∧ (∀ j, j < 3 → σ' 20 j = 0) ∧ σ' 35 = upd (σ 35) 2 0 ∧ σ' 11 5 = nI (sH S) ∧ σ' 11 6 = 0 ∧ σ' 11 7 = nI (sSa S) ∧ (∀ i, i < sH S → σ' 12 i = nI (sFi S i) ∧ σ' 13 i = nI (sCo S i)) ∧ ∀ i, i < 7 → σ' 14 i = 0 ∧ σ' 15 i = 0 ∧ σ' 16 i = -1
theorem lawsC_0 {σ : hS} : lawsC (fun _ => none) 10 (rstS 58 σ) := by
  refine ⟨rfl, fun k hk => ?_⟩
  rcases (show k = 0 ∨ k = 1 ∨ k = 2 ∨ k = 3 ∨ k = 4 by omega) with rfl | rfl | rfl | rfl | rfl
  · exact ⟨0, rfl, by decide, rfl, rfl, rfl, rfl, trivial⟩
  · exact ⟨2, rfl, by decide, rfl, rfl, rfl, rfl, trivial⟩
  · exact ⟨4, rfl, by decide, rfl, rfl, rfl, rfl, trivial⟩
  · exact ⟨6, rfl, by decide, rfl, rfl, rfl, rfl, trivial⟩
  · exact ⟨8, rfl, by decide, rfl, rfl, rfl, rfl, trivial⟩
theorem rstS_off {σ : hS} : ∀ c, c ∉ [51, 58, 59, 60, 61] → rstS 58 (clrT 51 σ) c = σ c := by
  intro c hc
  simp only [List.mem_cons, List.not_mem_nil, or_false, not_or] at hc
  obtain ⟨q1, q2, q3, q4, q5⟩ := hc
  unfold rstS untS putS clrT
  repeat rw [hva_ne (by omega)]
theorem clsS_0 {f : hF} {n : Nat} {σ : hS} : clsS f n sm0 (rstS 58 (clrT 51 σ)) := by
  refine ⟨⟨rfl, by decide, rfl, by decide, fun i hi => absurd hi (Nat.not_lt_zero _), fun i hi => absurd hi (Nat.not_lt_zero _)⟩, rfl, by decide, fun i hi => absurd hi (Nat.not_lt_zero _), fun i hi => absurd hi (Nat.not_lt_zero _), rfl, rfl, rfl⟩
theorem clsS_off {X : List Nat} {f : hF} {n : Nat} {S : hSm} {σ σ' : hS} (h : clsS f n S σ) (hσ : ∀ k, k ∉ X → σ' k = σ k) (hX : hdj X [9, 10, 51, 52, 53, 54, 55, 56, 57] = true) : clsS f n S σ' := by
  have e := hdj_at hσ hX
  unfold clsS nmC
  rw [e 9 (by simp), e 10 (by simp), e 51 (by simp), e 52 (by simp), e 53 (by simp), e 54 (by simp), e 55 (by simp), e 56 (by simp), e 57 (by simp)]
  exact h
theorem rd_l {f : hF} {n : Nat} {e : Nat × Nat} (h : textX (kd f n) (vl f n) 401 0 0 0 0 (fun _ => none) = .inl e) : rdX f n = .inl e := by unfold rdX; rw [h]
theorem rd_m {f : hF} {n a h r m : Nat} {L : hLs} {e : Nat × Nat} (h1 : textX (kd f n) (vl f n) 401 0 0 0 0 (fun _ => none) = .inr (a, (h, r, m, L))) (h2 : semX (kd f n) (vl f n) (dg f n) 401 0 0 0 0 sm0 = .inl e) : rdX f n = .inl e := by unfold rdX; rw [h1, h2]
theorem rd_r {f : hF} {n a h r m : Nat} {L : hLs} {S : hSm} (h1 : textX (kd f n) (vl f n) 401 0 0 0 0 (fun _ => none) = .inr (a, (h, r, m, L))) (h2 : semX (kd f n) (vl f n) (dg f n) 401 0 0 0 0 sm0 = .inr S) : rdX f n = .inr (L, S) := by unfold rdX; rw [h1, h2]
def qRd (f : hF) (n : Nat) (σ : hS) (τ : hT) : hPo := fun v' r' σ' τ' => v' = some (.int (match rdX f n with | .inl (k, _) => nI k | .inr _ => 0)) ∧ τ' = τ ∧ (∀ c, c ∉ xRd → σ' c = σ c) ∧ (∃ x' y', r' = match rdX f n with | .inl _ => rr 38 51 x' y' | .inr _ => rr 51 38 x' y') ∧ pRd f n σ σ'
set_option maxRecDepth 100000 in
theorem c_read {f : hF} {n : Nat} (hf : σ 2 = f) (hn : σ 1 1 = nI n) (hn2 : n ≤ 2000) : hCal G (m_X11_read (qRd f n σ τ)) [.ref (hgA G 0)] shp (rr 38 51 x y) σ τ := by
  have o1 := rstS_off (σ := σ)
  rcases hT : textX (kd f n) (vl f n) 401 0 0 0 0 (fun _ => none) with ⟨k, t⟩ | ⟨a9, h9, r9, m9, L9⟩
  · have hR := rd_l hT
    refine hv_enter pn_X11 rfl ?_
    refine hv_aload_n dX11_read_0 rfl ?_
    refine hv_getr dX11_read_1 fl_X11_85 (by first | rfl | assumption) rfl (by first | rfl | assumption) ?_
    refine hv_cv0 (g_clear_58 rfl rfl ⟨rfl, rfl, rfl, rfl, rfl, rfl, rfl⟩) dX11_read_4 ml_X11_107 mk_X10_clear (by first | rfl | assumption) rfl rfl rfl rfl rfl ?_
    rintro _ _ _ _ ⟨rfl, rfl, rfl, rfl⟩
    refine hv_aload_n dX11_read_7 rfl ?_
    refine hv_getr dX11_read_8 fl_X11_21 (by first | rfl | assumption) rfl (by first | rfl | assumption) ?_
    refine hv_cv0 (c_scan (f := f) (n := n) (by rw [o1 2 (by decide)]; exact hf) (by rw [o1 1 (by decide)]; exact hn) hn2) dX11_read_11 ml_X11_110 mk_X9_scan (by first | rfl | assumption) rfl rfl rfl rfl rfl ?_
    rintro _ _ σ1 _ ⟨rfl, rfl, rfl, a1, a2⟩
    have o2 := off_tr o1 a1 (Z := xRs) (by decide) (by decide)
    refine hv_aload_n dX11_read_14 rfl ?_
    refine hv_getr dX11_read_15 fl_X11_30 (by first | rfl | assumption) rfl (by first | rfl | assumption) ?_
    refine hv_aload_n dX11_read_18 rfl ?_
    refine hv_getr dX11_read_19 fl_X11_85 (by first | rfl | assumption) rfl (by first | rfl | assumption) ?_
    refine hv_getr dX11_read_22 fl_X11_113 (by first | rfl | assumption) rfl (by first | rfl | assumption) ?_
    refine hv_cv1 (c_parse (f := f) (n := n) (sz := 10) (L := fun _ => none) a2 (lawsC_of lawsC_0 (a1 58 (by decide)) (a1 59 (by decide)) (a1 60 (by decide)) (a1 61 (by decide))) (by decide)) dX11_read_25 ml_X11_117 mk_X4_parse (by first | rfl | assumption) rfl rfl rfl rfl rfl ?_
    rintro _ _ σ2 _ ⟨rfl, rfl, rfl, b1, b2⟩
    rw [hT] at b2
    obtain ⟨⟨p1, p2, p3, p4⟩, -⟩ := b2
    have o4 := off_tr o2 b1 (Z := xRs) (by decide) (by decide)
    have o3 := off_wk (Z := xRd) o4 (by decide)
    refine hv_aload_n dX11_read_28 rfl ?_
    refine hv_getr dX11_read_29 fl_X11_30 (by first | rfl | assumption) rfl (by first | rfl | assumption) ?_
    refine hv_geti dX11_read_32 fl_X11_121 (by first | rfl | assumption) rfl ?_
    refine hv_istore_n dX11_read_35 rfl rfl ?_
    refine hv_aload_n dX11_read_36 rfl ?_
    refine hv_getr dX11_read_37 fl_X11_30 (by first | rfl | assumption) rfl (by first | rfl | assumption) ?_
    refine hv_geti dX11_read_40 fl_X11_124 (by first | rfl | assumption) rfl ?_
    refine hv_istore_n dX11_read_43 rfl rfl ?_
    refine hv_iload_n dX11_read_44 rfl ?_
    refine hv_if_ne (tgt := 75) dX11_read_45 (by decide) (fun c_45 => ?_) (fun c_45 => absurd c_45 ((by rw [p1]; exact nI_ne0 (by omega) (by omega))))
    refine hv_aload_n dX11_read_75 rfl ?_
    refine hv_iload_n dX11_read_76 rfl ?_
    refine hv_if_ne (tgt := 84) dX11_read_77 (by decide) (fun c_77 => ?_) (fun c_77 => absurd c_77 ((by rw [p1]; exact nI_ne0 (by omega) (by omega))))
    refine hv_aload_n dX11_read_84 rfl ?_
    refine hv_getr dX11_read_85 fl_X11_21 (by first | rfl | assumption) rfl (by first | rfl | assumption) ?_
    refine hv_iload_n dX11_read_88 rfl ?_
    rw [p3]
    refine hv_cv1 (c_placeOf (tokC_of a2 b1 rfl) p4) dX11_read_89 ml_X11_134 mk_X9_placeOf (by first | rfl | assumption) rfl rfl rfl rfl rfl ?_
    rintro _ _ _ _ ⟨rfl, rfl, rfl, rfl⟩
    refine hv_puti dX11_read_92 fl_X11_88 (by first | rfl | assumption) rfl rfl rfl ?_
    refine hv_aload_n dX11_read_95 rfl ?_
    refine hv_getr dX11_read_96 fl_X11_10 (by first | rfl | assumption) rfl (by first | rfl | assumption) ?_
    refine hv_iconst (v := 0) dX11_read_99 (by decide) ?_
    refine hv_puti dX11_read_100 fl_X11_104 (by first | rfl | assumption) rfl rfl rfl ?_
    refine hv_iload_n dX11_read_103 rfl ?_
    refine hv_if_ne (tgt := 111) dX11_read_104 (by decide) (fun c_104 => ?_) (fun c_104 => absurd c_104 ((by rw [p1]; exact nI_ne0 (by omega) (by omega))))
    refine hv_iload_n dX11_read_111 rfl ?_
    refine hv_iret dX11_read_112 rfl ?_
    refine ⟨by rw [hR, p1], rfl, off_up (off_up o3 (by decide)) (by decide), ⟨_, _, by rw [hR]⟩, ?_, ?_⟩
    · rw [hup_eq, hva_ne (by decide), o4 1 (by decide)]
    · rw [hR]
      exact ⟨fun c hc => by rw [hva_ne (by revert c; decide), hva_ne (by revert c; decide)]; exact o4 c (by revert c; decide), by rw [hva_ne (by decide), hup_eq, o4 0 (by decide)]⟩
  · have fin : ∀ (σ2 : hS) (y' : Option Nat), (∀ c, c ∉ xRs → σ2 c = σ c) → tlC f n σ2 → pTx f n (.inr (a9, (h9, r9, m9, L9))) σ2 → clsS f n sm0 σ2 → hV G (m_X11_read (qRd f n σ τ)) 0 0 shp 28 [some (.ref (hgA G 0)), none, none] [] (rr 38 51 (some 58) y) σ2 τ := by
      intro σ2 y' hσ ht ⟨⟨p1, p2, p3, p4⟩, p5⟩ hc
      obtain ⟨sz, l1, l2⟩ := p5 a9 h9 r9 m9 L9 rfl
      rcases hS : semX (kd f n) (vl f n) (dg f n) 401 0 0 0 0 sm0 with ⟨k, t⟩ | S
      · have hR := rd_m hT hS
        have hr := (semX_tok 401 0 0 0 0 _ sm0 k t ⟨by decide, fun j hj => absurd hj (Nat.not_lt_zero _)⟩ hT hS).1
        refine hv_aload_n dX11_read_28 rfl ?_
        refine hv_getr dX11_read_29 fl_X11_30 (by first | rfl | assumption) rfl (by first | rfl | assumption) ?_
        refine hv_geti dX11_read_32 fl_X11_121 (by first | rfl | assumption) rfl ?_
        refine hv_istore_n dX11_read_35 rfl rfl ?_
        refine hv_aload_n dX11_read_36 rfl ?_
        refine hv_getr dX11_read_37 fl_X11_30 (by first | rfl | assumption) rfl (by first | rfl | assumption) ?_
        refine hv_geti dX11_read_40 fl_X11_124 (by first | rfl | assumption) rfl ?_
        refine hv_istore_n dX11_read_43 rfl rfl ?_
        refine hv_iload_n dX11_read_44 rfl ?_
        refine hv_if_ne (tgt := 75) dX11_read_45 (by decide) (fun c_45 => absurd (p1) c_45) (fun c_45 => ?_)
        refine hv_aload_n dX11_read_48 rfl ?_
        refine hv_getr dX11_read_49 fl_X11_37 (by first | rfl | assumption) rfl (by first | rfl | assumption) ?_
        refine hv_aload_n dX11_read_52 rfl ?_
        refine hv_getr dX11_read_53 fl_X11_85 (by first | rfl | assumption) rfl (by first | rfl | assumption) ?_
        refine hv_cv1 (c_fill ht hc hT) dX11_read_56 ml_X11_127 mk_X8_fill (by first | rfl | assumption) rfl rfl rfl rfl rfl ?_
        rintro _ _ σ3 _ ⟨rfl, rfl, rfl, b1, b2⟩
        rw [hS] at b2
        obtain ⟨v1, v2, v3⟩ := b2
        have o3 := off_tr hσ b1 (Z := xRs) (by decide) (by decide)
        refine hv_aload_n dX11_read_59 rfl ?_
        refine hv_getr dX11_read_60 fl_X11_37 (by first | rfl | assumption) rfl (by first | rfl | assumption) ?_
        refine hv_geti dX11_read_63 fl_X11_130 (by first | rfl | assumption) rfl ?_
        refine hv_istore_n dX11_read_66 rfl rfl ?_
        refine hv_aload_n dX11_read_67 rfl ?_
        refine hv_getr dX11_read_68 fl_X11_37 (by first | rfl | assumption) rfl (by first | rfl | assumption) ?_
        refine hv_geti dX11_read_71 fl_X11_131 (by first | rfl | assumption) rfl ?_
        refine hv_istore_n dX11_read_74 rfl rfl ?_
        refine hv_aload_n dX11_read_75 rfl ?_
        refine hv_iload_n dX11_read_76 rfl ?_
        refine hv_if_ne (tgt := 84) dX11_read_77 (by decide) (fun c_77 => ?_) (fun c_77 => absurd c_77 ((by rw [v1]; exact nI_ne0 (by omega) (by omega))))
        refine hv_aload_n dX11_read_84 rfl ?_
        refine hv_getr dX11_read_85 fl_X11_21 (by first | rfl | assumption) rfl (by first | rfl | assumption) ?_
        refine hv_iload_n dX11_read_88 rfl ?_
        rw [v3]
        refine hv_cv1 (c_placeOf (tokC_of ht.2.2.2 b1 rfl) hr) dX11_read_89 ml_X11_134 mk_X9_placeOf (by first | rfl | assumption) rfl rfl rfl rfl rfl ?_
        rintro _ _ _ _ ⟨rfl, rfl, rfl, rfl⟩
        refine hv_puti dX11_read_92 fl_X11_88 (by first | rfl | assumption) rfl rfl rfl ?_
        refine hv_aload_n dX11_read_95 rfl ?_
        refine hv_getr dX11_read_96 fl_X11_10 (by first | rfl | assumption) rfl (by first | rfl | assumption) ?_
        refine hv_iconst (v := 0) dX11_read_99 (by decide) ?_
        refine hv_puti dX11_read_100 fl_X11_104 (by first | rfl | assumption) rfl rfl rfl ?_
        refine hv_iload_n dX11_read_103 rfl ?_
        refine hv_if_ne (tgt := 111) dX11_read_104 (by decide) (fun c_104 => ?_) (fun c_104 => absurd c_104 ((by rw [v1]; exact nI_ne0 (by omega) (by omega))))
        refine hv_iload_n dX11_read_111 rfl ?_
        refine hv_iret dX11_read_112 rfl ?_
        refine ⟨by rw [hR, v1], rfl, off_up (off_up (off_wk o3 (by decide)) (by decide)) (by decide), ⟨_, _, by rw [hR]⟩, ?_, ?_⟩
        · rw [hup_eq, hva_ne (by decide), o3 1 (by decide)]
        · rw [hR]
          exact ⟨fun c hc => by rw [hva_ne (by revert c; decide), hva_ne (by revert c; decide)]; exact o3 c (by revert c; decide), by rw [hva_ne (by decide), hup_eq, o3 0 (by decide)]⟩
      · have hR := rd_r hT hS
        refine hv_aload_n dX11_read_28 rfl ?_
        refine hv_getr dX11_read_29 fl_X11_30 (by first | rfl | assumption) rfl (by first | rfl | assumption) ?_
        refine hv_geti dX11_read_32 fl_X11_121 (by first | rfl | assumption) rfl ?_
        refine hv_istore_n dX11_read_35 rfl rfl ?_
        refine hv_aload_n dX11_read_36 rfl ?_
        refine hv_getr dX11_read_37 fl_X11_30 (by first | rfl | assumption) rfl (by first | rfl | assumption) ?_
        refine hv_geti dX11_read_40 fl_X11_124 (by first | rfl | assumption) rfl ?_
        refine hv_istore_n dX11_read_43 rfl rfl ?_
        refine hv_iload_n dX11_read_44 rfl ?_
        refine hv_if_ne (tgt := 75) dX11_read_45 (by decide) (fun c_45 => absurd (p1) c_45) (fun c_45 => ?_)
        refine hv_aload_n dX11_read_48 rfl ?_
        refine hv_getr dX11_read_49 fl_X11_37 (by first | rfl | assumption) rfl (by first | rfl | assumption) ?_
        refine hv_aload_n dX11_read_52 rfl ?_
        refine hv_getr dX11_read_53 fl_X11_85 (by first | rfl | assumption) rfl (by first | rfl | assumption) ?_
        refine hv_cv1 (c_fill ht hc hT) dX11_read_56 ml_X11_127 mk_X8_fill (by first | rfl | assumption) rfl rfl rfl rfl rfl ?_
        rintro _ _ σ3 _ ⟨rfl, rfl, rfl, b1, b2⟩
        rw [hS] at b2
        obtain ⟨v1, v2, v3⟩ := b2
        have o3 := off_tr hσ b1 (Z := xRs) (by decide) (by decide)
        have v1' : σ3 8 5 = 0 := v1
        refine hv_aload_n dX11_read_59 rfl ?_
        refine hv_getr dX11_read_60 fl_X11_37 (by first | rfl | assumption) rfl (by first | rfl | assumption) ?_
        refine hv_geti dX11_read_63 fl_X11_130 (by first | rfl | assumption) rfl ?_
        refine hv_istore_n dX11_read_66 rfl rfl ?_
        refine hv_aload_n dX11_read_67 rfl ?_
        refine hv_getr dX11_read_68 fl_X11_37 (by first | rfl | assumption) rfl (by first | rfl | assumption) ?_
        refine hv_geti dX11_read_71 fl_X11_131 (by first | rfl | assumption) rfl ?_
        refine hv_istore_n dX11_read_74 rfl rfl ?_
        refine hv_aload_n dX11_read_75 rfl ?_
        refine hv_iload_n dX11_read_76 rfl ?_
        refine hv_if_ne (tgt := 84) dX11_read_77 (by decide) (fun c_77 => absurd (v1') c_77) (fun c_77 => ?_)
        refine hv_iconst (v := -1) dX11_read_80 (by decide) ?_
        refine hv_goto (tgt := 92) dX11_read_81 (by decide) ?_
        refine hv_puti dX11_read_92 fl_X11_88 (by first | rfl | assumption) rfl rfl rfl ?_
        refine hv_aload_n dX11_read_95 rfl ?_
        refine hv_getr dX11_read_96 fl_X11_10 (by first | rfl | assumption) rfl (by first | rfl | assumption) ?_
        refine hv_iconst (v := 0) dX11_read_99 (by decide) ?_
        refine hv_puti dX11_read_100 fl_X11_104 (by first | rfl | assumption) rfl rfl rfl ?_
        refine hv_iload_n dX11_read_103 rfl ?_
        refine hv_if_ne (tgt := 111) dX11_read_104 (by decide) (fun c_104 => absurd (v1') c_104) (fun c_104 => ?_)
        refine hv_aload_n dX11_read_107 rfl ?_
        refine hv_cv0 (c_takeDraft) dX11_read_108 ml_X11_138 mk_X11_takeDraft (by first | rfl | assumption) rfl rfl rfl rfl rfl ?_
        rintro _ _ σ4 _ ⟨rfl, rfl, rfl, d1, d2, d3, d4, d5⟩
        refine hv_iload_n dX11_read_111 rfl ?_
        refine hv_iret dX11_read_112 rfl ?_
        have e1 : ∀ c, c ∉ [0, 1] → va_up (va_up σ3 0 (upd (σ3 0) 11 (-1))) 1 (upd (va_up σ3 0 (upd (σ3 0) 11 (-1)) 1) 1 0) c = σ3 c := off_up (off_up (fun _ _ => rfl) (by decide)) (by decide)
        have e2 := off_tr e1 d1 (Z := 0 :: 1 :: xTk) (by decide) (by decide)
        have v2' := clsS_off v2 e2 rfl
        obtain ⟨⟨n1, n2, n3, n4, n5, n6⟩, c2, c3, c4, c5, c6, c7, c8⟩ := v2
        refine ⟨by rw [hR, v1'], rfl, off_tr (off_wk (Z := xRd) o3 (by decide)) e2 (by decide) (by decide), ⟨some 58, some 51, by rw [hR]⟩, ?_, ?_⟩
        · rw [d1 1 (by decide), hup_eq, hva_ne (by decide), o3 1 (by decide)]
        · rw [hR]
          refine ⟨?_, v2', v3, ⟨sz, ?_, l2⟩, ?_, d4, ?_, ?_, ?_, ?_, ?_, ?_⟩
          · rw [d1 0 (by decide), hva_ne (by decide), hup_eq, o3 0 (by decide)]
          · have g : ∀ c, c ∈ [58, 59, 60, 61] → σ4 c = σ2 c := fun c hc => (e2 c (by revert c; decide)).trans (b1 c (by revert c; decide))
            exact lawsC_of l1 (g 58 (by decide)) (g 59 (by decide)) (g 60 (by decide)) (g 61 (by decide))
          · rw [d3, e1 17 (by decide), o3 17 (by decide)]
          · rw [d5, e1 35 (by decide), o3 35 (by decide)]
          · rw [d2 11 (by decide)]; exact n1
          · rw [d2 11 (by decide)]; rfl
          · rw [d2 11 (by decide)]; exact c6
          · intro i hi
            have h7 : i < 7 := by omega
            rw [d2 12 (by decide), d2 13 (by decide)]
            exact ⟨(if_pos h7).trans (c4 i hi).1, (if_pos h7).trans (c4 i hi).2.1⟩
          · intro i hi
            rw [d2 14 (by decide), d2 15 (by decide), d2 16 (by decide)]
            exact ⟨if_pos hi, if_pos hi, if_pos hi⟩
    refine hv_enter pn_X11 rfl ?_
    refine hv_aload_n dX11_read_0 rfl ?_
    refine hv_getr dX11_read_1 fl_X11_85 (by first | rfl | assumption) rfl (by first | rfl | assumption) ?_
    refine hv_cv0 (g_clear_58 rfl rfl ⟨rfl, rfl, rfl, rfl, rfl, rfl, rfl⟩) dX11_read_4 ml_X11_107 mk_X10_clear (by first | rfl | assumption) rfl rfl rfl rfl rfl ?_
    rintro _ _ _ _ ⟨rfl, rfl, rfl, rfl⟩
    refine hv_aload_n dX11_read_7 rfl ?_
    refine hv_getr dX11_read_8 fl_X11_21 (by first | rfl | assumption) rfl (by first | rfl | assumption) ?_
    refine hv_cv0 (c_scan (f := f) (n := n) (by rw [o1 2 (by decide)]; exact hf) (by rw [o1 1 (by decide)]; exact hn) hn2) dX11_read_11 ml_X11_110 mk_X9_scan (by first | rfl | assumption) rfl rfl rfl rfl rfl ?_
    rintro _ _ σ1 _ ⟨rfl, rfl, rfl, a1, a2⟩
    have o2 := off_tr o1 a1 (Z := xRs) (by decide) (by decide)
    refine hv_aload_n dX11_read_14 rfl ?_
    refine hv_getr dX11_read_15 fl_X11_30 (by first | rfl | assumption) rfl (by first | rfl | assumption) ?_
    refine hv_aload_n dX11_read_18 rfl ?_
    refine hv_getr dX11_read_19 fl_X11_85 (by first | rfl | assumption) rfl (by first | rfl | assumption) ?_
    refine hv_getr dX11_read_22 fl_X11_113 (by first | rfl | assumption) rfl (by first | rfl | assumption) ?_
    refine hv_cv1 (c_parse (f := f) (n := n) (sz := 10) (L := fun _ => none) a2 (lawsC_of lawsC_0 (a1 58 (by decide)) (a1 59 (by decide)) (a1 60 (by decide)) (a1 61 (by decide))) (by decide)) dX11_read_25 ml_X11_117 mk_X4_parse (by first | rfl | assumption) rfl rfl rfl rfl rfl ?_
    rintro _ _ σ2 _ ⟨rfl, rfl, rfl, b1, b2⟩
    rw [hT] at b2
    have o3 := off_tr o2 b1 (Z := xRs) (by decide) (by decide)
    refine fin σ2 y o3 ⟨by rw [o3 2 (by decide)]; exact hf, by rw [o3 1 (by decide)]; exact hn, hn2, tokC_of a2 b1 rfl⟩ b2 ?_
    exact clsS_off (clsS_off (clsS_0 (f := f) (n := n) (σ := σ)) a1 rfl) b1 rfl
end S88

