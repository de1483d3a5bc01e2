abbrev m_X12_tellHouse (Q : hPo) : hMe := (hrm 4, 0, 0, yX12_tellHouse, cX12_tellHouse, 3, (none : Option FieldType), shp, none, Q)
abbrev m_X12_tellHears (Q : hPo) : hMe := (hrm 4, 0, 0, yX12_tellHears, cX12_tellHears, 5, (none : Option FieldType), shp, none, Q)
abbrev m_X12_tellMotion (Q : hPo) : hMe := (hrm 4, 0, 0, yX12_tellMotion, cX12_tellMotion, 5, (none : Option FieldType), shp, none, Q)
theorem bef_l {e : Nat × Nat} {g : Option (Nat × Nat)} : bef (.inl e) g := fun _ _ _ _ _ q => (nomatch q)
theorem tk_inr {K : Nat → Nat} {k a b : Nat} {w : Unit} (h : tk K k a = .inr (b, w)) : K a = k ∧ a < 400 ∧ b = a + 1 := by
  unfold tk pass at h
  split at h
  · split at h
    · cases h; exact ⟨by assumption, by assumption, rfl⟩
    · cases h
  · cases h
theorem orE_some {g : Option (Nat × Nat)} {e : Nat × Nat} {k t : Nat} (h : orE g e = some (k, t)) : g = some (k, t) ∨ e = (k, t) := by
  rcases g with _ | g
  · cases h; exact Or.inr rfl
  · exact Or.inl h
theorem bG_bef {K V : Nat → Nat} {M : Nat} {s : hPR Unit} {g : Option (Nat × Nat)} (h : bef s g) : bef (bd s (fun a _ => tk K 24 a)) (bG K V M s g) := by
  rcases s with e | ⟨a, u⟩
  · exact bef_l
  · intro k t q b w hb
    have hb' : tk K 24 a = .inr (b, w) := hb
    obtain ⟨-, -, rfl⟩ := tk_inr hb'
    have q' : (if K a = 24 ∧ M < V a then orE g (5, a) else g) = some (k, t) := q
    have h0 : ∀ k t, g = some (k, t) → t < a := fun k t q => h k t q a u rfl
    split at q'
    · rcases orE_some q' with z | z
      · have := h0 k t z; omega
      · cases z; omega
    · have := h0 k t q'; omega
theorem nm_bef {K D : Nat → Nat} {B : Nat → Bool} {s : hPR Unit} {g g' : Option (Nat × Nat)} {x : Nat} (h : bef s g) (h2 : ∀ a u b w, s = .inr (a, u) → tk K 23 a = .inr (b, w) → g' = if B a = true then orE g (x, a) else g) : bef (bd s (fun a _ => tk K 23 a)) g' := by
  rcases s with e | ⟨a, u⟩
  · exact bef_l
  · intro k t q b w hb
    have hb' : tk K 23 a = .inr (b, w) := hb
    have e := h2 a u b w rfl hb'
    obtain ⟨-, -, rfl⟩ := tk_inr hb'
    rw [e] at q
    have h0 : ∀ k t, g = some (k, t) → t < a := fun k t q => h k t q a u rfl
    split at q
    · rcases orE_some q with z | z
      · have := h0 k t z; omega
      · cases z; omega
    · have := h0 k t q; omega
theorem hsX_c {K : Nat → Nat} {a : Nat} {u : Unit} : bd (bd (bd (bd (bd (bd (.inr (a, u) : hPR Unit) (fun a _ => tk K 23 a)) (fun a _ => tk K 24 a)) (fun a _ => tk K 24 a)) (fun a _ => tk K 24 a)) (fun a _ => tk K 24 a)) (fun a _ => tk K 27 a) = hsX K a := by
  unfold hsX
  show bd (bd (bd (bd (bd (tk K 23 a) _) _) _) _) _ = _
  rcases tk K 23 a with e | ⟨a1, u1⟩
  · rfl
  show bd (bd (bd (bd (tk K 24 a1) _) _) _) _ = bd (bd (tk K 24 a1) _) _
  rcases tk K 24 a1 with e | ⟨a2, u2⟩
  · rfl
  show bd (bd (bd (tk K 24 a2) _) _) _ = bd (bd (tk K 24 a2) _) _
  rcases tk K 24 a2 with e | ⟨a3, u3⟩
  · rfl
  show bd (bd (tk K 24 a3) _) _ = bd (bd (tk K 24 a3) _) _
  rcases tk K 24 a3 with e | ⟨a4, u4⟩
  · rfl
  show bd (tk K 24 a4) _ = bd (bd (tk K 24 a4) _) _
  rcases tk K 24 a4 with e | ⟨a5, u5⟩
  · rfl
  rfl
theorem hsX_o {K : Nat → Nat} {a b : Nat} {w : Unit} (h : hsX K a = .inr (b, w)) : b = a + 6 ∧ b ≤ 400 ∧ tk K 23 a = .inr (a + 1, ()) ∧ tk K 24 (a + 1) = .inr (a + 2, ()) ∧ tk K 24 (a + 2) = .inr (a + 3, ()) ∧ tk K 24 (a + 3) = .inr (a + 4, ()) ∧ tk K 24 (a + 4) = .inr (a + 5, ()) ∧ tk K 27 (a + 5) = .inr (a + 6, ()) := by
  unfold hsX at h
  obtain ⟨a1, u1, h1, h⟩ := bd_iff.mp h
  obtain ⟨-, q1, rfl⟩ := tk_inr h1
  obtain ⟨a2, u2, h2, h⟩ := bd_iff.mp h
  unfold intsX at h2
  obtain ⟨a3, u3, h3, h2⟩ := bd_iff.mp h2
  obtain ⟨-, q3, rfl⟩ := tk_inr h3
  unfold intsX at h2
  obtain ⟨a4, u4, h4, h2⟩ := bd_iff.mp h2
  obtain ⟨-, q4, rfl⟩ := tk_inr h4
  unfold intsX at h2
  obtain ⟨a5, u5, h5, h2⟩ := bd_iff.mp h2
  obtain ⟨-, q5, rfl⟩ := tk_inr h5
  unfold intsX at h2
  obtain ⟨a6, u6, h6, h2⟩ := bd_iff.mp h2
  obtain ⟨-, q6, rfl⟩ := tk_inr h6
  unfold intsX at h2
  cases h2
  obtain ⟨-, q7, rfl⟩ := tk_inr h
  exact ⟨rfl, by omega, h1, h3, h4, h5, h6, h⟩
section S97
variable {G : hGl} {σ : hS} {τ : hT} {x y : Option Nat}
/-- what may be wrong in a house -/
def hoG (f : hF) (n N a : Nat) (dT : Nat → Nat) (g : Option (Nat × Nat)) : Option (Nat × Nat) := bG (kd f n) (vl f n) 9 (.inr (a + 4, ())) (bG (kd f n) (vl f n) 9 (.inr (a + 3, ())) (bG (kd f n) (vl f n) 999 (.inr (a + 2, ())) (bG (kd f n) (vl f n) 99 (.inr (a + 1, ())) (if hasN dT (dg f n a) N = true then orE g (3, a) else g))))
def pTh (f : hF) (n L h m a : Nat) (dT : Nat → Nat) (g : Option (Nat × Nat)) (r : hR) (σ : hS) (τ : hT) : hPo := fun v' r' σ' τ' => v' = none ∧ r' = r ∧ (∀ c, c ∉ [64, 73, 74, 75, 76, 77, 78] → σ' c = σ c) ∧ (∀ c, c ∉ [72] → τ' c = τ c) ∧ kM [11, 13, 14, 15, 16, 20] σ σ' ∧ (atF 74 L σ σ' ∧ atF 75 (7 * L + h) σ σ' ∧ atF 76 (7 * L + h) σ σ' ∧ atF 77 (7 * L + h) σ σ' ∧ atF 78 (7 * L + h) σ σ') ∧ mSt f n (hsX (kd f n) a) σ' ∧ ∀ b w, hsX (kd f n) a = .inr (b, w) → (σ' 74 L = nI (h + 1) ∧ σ' 64 20 = nI (h + m + 1) ∧ τ' 72 = vp_updL (τ 72) (h + m) (lN (dg f n a)) ∧ σ' 73 = upd (σ 73) (h + m) (nI h)) ∧ (σ' 75 (7 * L + h) = nI (vl f n (a + 1)) ∧ σ' 76 (7 * L + h) = nI (vl f n (a + 2)) ∧ σ' 77 (7 * L + h) = nI (vl f n (a + 3)) ∧ σ' 78 (7 * L + h) = nI (vl f n (a + 4))) ∧ wSt f n (hoG f n (h + m) a dT g) σ'
theorem d_tellHouse {f : hF} {n L h m a : Nat} {u : Unit} {dT : Nat → Nat} {ix : Nat → Option Nat} {g : Option (Nat × Nat)} (ht : tokM f n σ τ) (hn : n ≤ 2000) (hs : mSt f n (.inr (a, u)) σ) (hg : wSt f n g σ) (hb : bef (.inr (a, u)) g) (hN : nmM h m dT ix σ τ) (hL : σ 64 19 = nI L) (hL2 : L < 2) (h74 : σ 74 L = nI h) (hh : h < 7) : hCal G (m_X12_tellHouse (pTh f n L h m a dT g (rr 38 51 x y) σ τ)) [.ref (hgA G 64)] shp (rr 38 51 x y) σ τ := by
  have hm5 := hN.2.2.1
  have iT : ∀ {w : Int32}, w = nI L → 7 * w + nI h = nI (7 * L + h) := fun q => by rw [q]; exact ix7
  refine hv_enter pn_X12 rfl ?_
  refine hv_bipush (v := 7) dX12_tellHouse_0 (by decide) ?_
  refine hv_aload_n dX12_tellHouse_2 rfl ?_
  refine hv_geti dX12_tellHouse_3 fl_X12_236 (by first | rfl | assumption) rfl ?_
  refine hv_imul dX12_tellHouse_6 ?_
  refine hv_aload_n dX12_tellHouse_7 rfl ?_
  refine hv_getr dX12_tellHouse_8 fl_X12_46 (by first | rfl | assumption) rfl (by first | rfl | assumption) ?_
  refine hv_aload_n dX12_tellHouse_11 rfl ?_
  refine hv_geti dX12_tellHouse_12 fl_X12_236 (by first | rfl | assumption) rfl ?_
  refine hv_iald dX12_tellHouse_15 (by first | rfl | assumption) (j := L) hL (by omega) (by first | decide | assumption) ?_
  refine hv_iadd dX12_tellHouse_16 ?_
  rw [h74, iT hL]
  refine hv_istore_n dX12_tellHouse_17 rfl rfl ?_
  refine hv_aload_n dX12_tellHouse_18 rfl ?_
  refine hv_cv0 (d_named ht hn hs hg hb hN) dX12_tellHouse_19 ml_X12_286 mk_X12_named (by first | rfl | assumption) rfl rfl rfl rfl rfl ?_
  rintro _ _ σ1 _ ⟨tv, rfl, tv1, rfl, rfl, a1, a2, a3, g1, a4, a5⟩
  have b1 := nm_bef (K := kd f n) (D := fun _ => 0) (B := fun a => hasN dT (dg f n a) (h + m)) hb a5
  refine hv_istore_n dX12_tellHouse_22 rfl rfl ?_
  refine hv_aload_n dX12_tellHouse_23 rfl ?_
  refine hv_getr dX12_tellHouse_24 fl_X12_49 (by first | rfl | assumption) rfl (by first | rfl | assumption) ?_
  refine hv_iload_n dX12_tellHouse_27 rfl ?_
  refine hv_aload_n dX12_tellHouse_28 rfl ?_
  refine hv_iconst (v := 0) dX12_tellHouse_29 (by decide) ?_
  refine hv_bipush (v := 99) dX12_tellHouse_30 (by decide) ?_
  refine hv_cv2 (d_bounded (M := 99) (g := g1) rfl (by decide) (tokM_of ht a1 rfl) hn a3 a4 b1) dX12_tellHouse_32 ml_X12_257 mk_X12_bounded (by first | rfl | assumption) rfl rfl rfl rfl rfl ?_
  rintro _ _ σ2 _ ⟨v1, rfl, rfl, rfl, c1, c2, c3, c4, c5⟩
  have o2 := off_tr a1 c1 (Z := [64]) (by decide) (by decide)
  have k2 := kM_tr a2 c2 (Z := [11, 13, 14, 15, 16]) (by decide) (by decide)
  have b2 := bG_bef (K := kd f n) (V := vl f n) (M := 99) b1
  refine hv_iast dX12_tellHouse_35 (by first | rfl | assumption) (j := 7 * L + h) rfl (by omega) (by first | decide | assumption) ?_
  refine hv_aload_n dX12_tellHouse_36 rfl ?_
  refine hv_getr dX12_tellHouse_37 fl_X12_52 (by first | rfl | assumption) rfl (by first | rfl | assumption) ?_
  refine hv_iload_n dX12_tellHouse_40 rfl ?_
  refine hv_aload_n dX12_tellHouse_41 rfl ?_
  refine hv_iconst (v := 0) dX12_tellHouse_42 (by decide) ?_
  refine hv_sipush (v := 999) dX12_tellHouse_43 (by decide) ?_
  have o2' : ∀ c, c ∉ [64, 75] → va_up σ2 75 (upd (σ2 75) (7 * L + h) v1) c = σ c := off_up (off_wk o2 (by decide)) (by decide)
  refine hv_cv2 (d_bounded (M := 999) rfl (by decide) (tokM_of ht o2' rfl) hn (mSt_of c3 rfl rfl rfl) (wSt_of c4 rfl rfl) b2) dX12_tellHouse_46 ml_X12_257 mk_X12_bounded (by first | rfl | assumption) rfl rfl rfl rfl rfl ?_
  rintro _ _ σ3 _ ⟨v2, rfl, rfl, rfl, d1, d2, d3, d4, d5⟩
  have o3 := off_tr o2' d1 (Z := [64, 75]) (by decide) (by decide)
  have k3 := kM_tr (kM_c k2 (show 64 ≠ 75 by decide)) d2 (Z := [11, 13, 14, 15, 16]) (by decide) (by decide)
  have b3 := bG_bef (K := kd f n) (V := vl f n) (M := 999) b2
  refine hv_iast dX12_tellHouse_49 (by first | rfl | assumption) (j := 7 * L + h) rfl (by omega) (by first | decide | assumption) ?_
  refine hv_aload_n dX12_tellHouse_50 rfl ?_
  refine hv_getr dX12_tellHouse_51 fl_X12_55 (by first | rfl | assumption) rfl (by first | rfl | assumption) ?_
  refine hv_iload_n dX12_tellHouse_54 rfl ?_
  refine hv_aload_n dX12_tellHouse_55 rfl ?_
  refine hv_iconst (v := 0) dX12_tellHouse_56 (by decide) ?_
  refine hv_bipush (v := 9) dX12_tellHouse_57 (by decide) ?_
  have o3' : ∀ c, c ∉ [64, 75, 76] → va_up σ3 76 (upd (σ3 76) (7 * L + h) v2) c = σ c := off_up (off_wk o3 (by decide)) (by decide)
  refine hv_cv2 (d_bounded (M := 9) rfl (by decide) (tokM_of ht o3' rfl) hn (mSt_of d3 rfl rfl rfl) (wSt_of d4 rfl rfl) b3) dX12_tellHouse_59 ml_X12_257 mk_X12_bounded (by first | rfl | assumption) rfl rfl rfl rfl rfl ?_
  rintro _ _ σ4 _ ⟨v3, rfl, rfl, rfl, e1, e2, e3, e4, e5⟩
  have o4 := off_tr o3' e1 (Z := [64, 75, 76]) (by decide) (by decide)
  have k4 := kM_tr (kM_c k3 (show 64 ≠ 76 by decide)) e2 (Z := [11, 13, 14, 15, 16]) (by decide) (by decide)
  have b4 := bG_bef (K := kd f n) (V := vl f n) (M := 9) b3
  refine hv_iast dX12_tellHouse_62 (by first | rfl | assumption) (j := 7 * L + h) rfl (by omega) (by first | decide | assumption) ?_
  refine hv_aload_n dX12_tellHouse_63 rfl ?_
  refine hv_getr dX12_tellHouse_64 fl_X12_58 (by first | rfl | assumption) rfl (by first | rfl | assumption) ?_
  refine hv_iload_n dX12_tellHouse_67 rfl ?_
  refine hv_aload_n dX12_tellHouse_68 rfl ?_
  refine hv_iconst (v := 0) dX12_tellHouse_69 (by decide) ?_
  refine hv_bipush (v := 9) dX12_tellHouse_70 (by decide) ?_
  have o4' : ∀ c, c ∉ [64, 75, 76, 77] → va_up σ4 77 (upd (σ4 77) (7 * L + h) v3) c = σ c := off_up (off_wk o4 (by decide)) (by decide)
  refine hv_cv2 (d_bounded (M := 9) rfl (by decide) (tokM_of ht o4' rfl) hn (mSt_of e3 rfl rfl rfl) (wSt_of e4 rfl rfl) b4) dX12_tellHouse_72 ml_X12_257 mk_X12_bounded (by first | rfl | assumption) rfl rfl rfl rfl rfl ?_
  rintro _ _ σ5 _ ⟨v4, rfl, rfl, rfl, f1, f2, f3, f4, f5⟩
  have o5 := off_tr o4' f1 (Z := [64, 75, 76, 77]) (by decide) (by decide)
  have k5 := kM_tr (kM_c k4 (show 64 ≠ 77 by decide)) f2 (Z := [11, 13, 14, 15, 16]) (by decide) (by decide)
  refine hv_iast dX12_tellHouse_75 (by first | rfl | assumption) (j := 7 * L + h) rfl (by omega) (by first | decide | assumption) ?_
  refine hv_aload_n dX12_tellHouse_76 rfl ?_
  refine hv_iload_n dX12_tellHouse_77 rfl ?_
  refine hv_aload_n dX12_tellHouse_78 rfl ?_
  refine hv_getr dX12_tellHouse_79 fl_X12_46 (by first | rfl | assumption) rfl (by first | rfl | assumption) ?_
  refine hv_aload_n dX12_tellHouse_82 rfl ?_
  refine hv_geti dX12_tellHouse_83 fl_X12_236 (by first | rfl | assumption) rfl ?_
  have o5' : ∀ c, c ∉ [64, 75, 76, 77, 78] → va_up σ5 78 (upd (σ5 78) (7 * L + h) v4) c = σ c := off_up (off_wk o5 (by decide)) (by decide)
  have k5' : kM [11, 13, 14, 15, 16] σ (va_up σ5 78 (upd (σ5 78) (7 * L + h) v4)) := kM_c k5 (by decide)
  refine hv_iald dX12_tellHouse_86 (by first | rfl | assumption) (j := L) (by rw [k5' 19 (by decide)]; exact hL) (by omega) (by first | decide | assumption) ?_
  rw [show va_up σ5 78 (upd (σ5 78) (7 * L + h) v4) 74 L = nI h by rw [o5' 74 (by decide)]; exact h74]
  refine hv_cv2 (d_ends (t := a) (N := h + m) (tokM_of ht o5' rfl) (mSt_of f3 rfl rfl rfl) (by rw [k5' 20 (by decide)]; exact hN.1) (by omega) (fun a' u' q => ⟨tv1 a u rfl, by obtain ⟨_, _, q, _⟩ := bd_iff.mp q; obtain ⟨_, _, q, _⟩ := bd_iff.mp q; obtain ⟨_, _, q, _⟩ := bd_iff.mp q; obtain ⟨_, _, q, _⟩ := bd_iff.mp q; exact (tk_inr q).1, hs.2.2⟩)) dX12_tellHouse_87 ml_X12_290 mk_X12_ends (by first | rfl | assumption) rfl rfl rfl rfl rfl ?_
  rintro _ _ σ6 τ6 ⟨rfl, rfl, g1', g2, g3, g4, g5⟩
  rw [hsX_c] at g4 g5
  have o6 := off_tr o5' g1' (Z := [64, 73, 75, 76, 77, 78]) (by decide) (by decide)
  have k6 := kM_tr k5' g3 (Z := [11, 13, 14, 15, 16, 20]) (by decide) (by decide)
  have p75 : σ6 75 = upd (σ 75) (7 * L + h) v1 := by rw [g1' 75 (by decide), hva_ne (by decide), f1 75 (by decide), hva_ne (by decide), e1 75 (by decide), hva_ne (by decide), d1 75 (by decide), hup_eq, o2 75 (by decide)]
  have p76 : σ6 76 = upd (σ 76) (7 * L + h) v2 := by rw [g1' 76 (by decide), hva_ne (by decide), f1 76 (by decide), hva_ne (by decide), e1 76 (by decide), hup_eq, o3 76 (by decide)]
  have p77 : σ6 77 = upd (σ 77) (7 * L + h) v3 := by rw [g1' 77 (by decide), hva_ne (by decide), f1 77 (by decide), hup_eq, o4 77 (by decide)]
  have p78 : σ6 78 = upd (σ 78) (7 * L + h) v4 := by rw [g1' 78 (by decide), hup_eq, o5 78 (by decide)]
  have at4 : atF 75 (7 * L + h) σ σ6 ∧ atF 76 (7 * L + h) σ σ6 ∧ atF 77 (7 * L + h) σ σ6 ∧ atF 78 (7 * L + h) σ σ6 := ⟨fun j hj => by rw [p75, pk_un hj], fun j hj => by rw [p76, pk_un hj], fun j hj => by rw [p77, pk_un hj], fun j hj => by rw [p78, pk_un hj]⟩
  rcases hX : hsX (kd f n) a with e | ⟨b, w⟩
  · rw [hX] at g4
    refine hv_aload_n dX12_tellHouse_90 rfl ?_
    refine hv_geti dX12_tellHouse_91 fl_X12_203 (by first | rfl | assumption) rfl ?_
    refine hv_if_ne (tgt := 110) dX12_tellHouse_94 (by decide) (fun c_94 => ?_) (fun c_94 => absurd c_94 ((by obtain ⟨z, t⟩ := e; rw [g4.1]; exact nI_ne0 (by have := g4.2.1; omega) (by have := g4.2.1; omega))))
    refine hv_vret dX12_tellHouse_110 rfl ?_
    exact ⟨rfl, rfl, off_wk o6 (by decide), g2, k6, ⟨fun j _ => by rw [o6 74 (by decide)], at4⟩, by rw [hX]; exact g4, fun b w q => by rw [hX] at q; cases q⟩
  · rw [hX] at g4
    obtain ⟨z1, z2, z3⟩ := g5 b w hX
    obtain ⟨rfl, q0, q1, q2, q3, q4, q5, q6⟩ := hsX_o hX
    have e74 : σ6 74 L = nI h := by rw [o6 74 (by decide)]; exact h74
    refine hv_aload_n dX12_tellHouse_90 rfl ?_
    refine hv_geti dX12_tellHouse_91 fl_X12_203 (by first | rfl | assumption) rfl ?_
    refine hv_if_ne (tgt := 110) dX12_tellHouse_94 (by decide) (fun c_94 => absurd (g4.1) c_94) (fun c_94 => ?_)
    refine hv_aload_n dX12_tellHouse_97 rfl ?_
    refine hv_getr dX12_tellHouse_98 fl_X12_46 (by first | rfl | assumption) rfl (by first | rfl | assumption) ?_
    refine hv_aload_n dX12_tellHouse_101 rfl ?_
    refine hv_geti dX12_tellHouse_102 fl_X12_236 (by first | rfl | assumption) rfl ?_
    refine hv_dup2 dX12_tellHouse_105 rfl rfl ?_
    refine hv_iald dX12_tellHouse_106 (by first | rfl | assumption) (j := L) (by rw [k6 19 (by decide)]; exact hL) (by omega) (by first | decide | assumption) ?_
    refine hv_iconst (v := 1) dX12_tellHouse_107 (by decide) ?_
    refine hv_iadd dX12_tellHouse_108 ?_
    refine hv_iast dX12_tellHouse_109 (by first | rfl | assumption) (j := L) (by rw [k6 19 (by decide)]; exact hL) (by omega) (by first | decide | assumption) ?_
    refine hv_vret dX12_tellHouse_110 rfl ?_
    have s1 : bd (.inr (a, u) : hPR Unit) (fun a _ => tk (kd f n) 23 a) = .inr (a + 1, ()) := q1
    have s2 : bd (bd (.inr (a, u) : hPR Unit) (fun a _ => tk (kd f n) 23 a)) (fun a _ => tk (kd f n) 24 a) = .inr (a + 2, ()) := by rw [s1]; exact q2
    have s3 : bd (bd (bd (.inr (a, u) : hPR Unit) (fun a _ => tk (kd f n) 23 a)) (fun a _ => tk (kd f n) 24 a)) (fun a _ => tk (kd f n) 24 a) = .inr (a + 3, ()) := by rw [s2]; exact q3
    have s4 : bd (bd (bd (bd (.inr (a, u) : hPR Unit) (fun a _ => tk (kd f n) 23 a)) (fun a _ => tk (kd f n) 24 a)) (fun a _ => tk (kd f n) 24 a)) (fun a _ => tk (kd f n) 24 a) = .inr (a + 4, ()) := by rw [s3]; exact q4
    rw [s1] at c5
    rw [s2] at d5
    rw [s3] at e5
    rw [s4] at f5
    rw [s4, s3, s2, s1, a5 a u (a + 1) () rfl q1] at f4
    refine ⟨rfl, rfl, off_up (off_wk o6 (by decide)) (by decide), g2, kM_c k6 (by decide), ⟨fun j hj => by rw [hup_eq, pk_un hj, o6 74 (by decide)], at4⟩, by rw [hX]; exact mSt_of g4 rfl rfl rfl, fun b w q => ⟨⟨?_, ?_, z1, ?_⟩, ⟨?_, ?_, ?_, ?_⟩, ?_⟩⟩
    · rw [hup_eq, pk_us, e74, nI_1]
    · rw [hva_ne (by decide)]; exact z3
    · rw [hva_ne (by decide), z2, hva_ne (by decide), f1 73 (by decide), hva_ne (by decide), o4 73 (by decide)]
    · rw [hva_ne (by decide), p75, pk_us]; exact c5 (a + 1) () rfl (tk_inr q2).1
    · rw [hva_ne (by decide), p76, pk_us]; exact d5 (a + 2) () rfl (tk_inr q3).1
    · rw [hva_ne (by decide), p77, pk_us]; exact e5 (a + 3) () rfl (tk_inr q4).1
    · rw [hva_ne (by decide), p78, pk_us]; exact f5 (a + 4) () rfl (tk_inr q5).1
    · exact wSt_of f4 (by rw [hva_ne (by decide), g3 15 (by decide), hva_ne (by decide)]) (by rw [hva_ne (by decide), g3 16 (by decide), hva_ne (by decide)])
end S97

