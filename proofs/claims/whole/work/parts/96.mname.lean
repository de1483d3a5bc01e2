theorem dg_lt {f : hF} {n i : Nat} (h : kd f n i = 23) : dg f n i < 2 ^ 60 := by
  obtain ⟨i1, i2, i3, i4⟩ := kd_name h
  have hl : ∀ a, a < vl f n i → isLt (bN f (tq f n i + a)) = true := fun a ha => (rn_all isLt f 2000 _ a (by rw [← i3]; exact ha)).2
  unfold dg
  exact Nat.lt_of_lt_of_le (dgs_lt f _ _ hl) (Nat.le_trans (Nat.pow_le_pow_right (by decide) i4) (by decide))
/-- the names told, and the houses that they are of -/
def nmM (h m : Nat) (dT : Nat → Nat) (ix : Nat → Option Nat) (σ : hS) (τ : hT) : Prop := σ 64 20 = nI (h + m) ∧ h ≤ 7 ∧ m ≤ 5 ∧ ∀ k, k < h + m → τ 72 k = lN (dT k) ∧ dT k < 2 ^ 60 ∧ σ 73 k = oN (ix k) ∧ ∀ i, ix k = some i → i < h
theorem nmM_of {h m : Nat} {dT : Nat → Nat} {ix : Nat → Option Nat} {σ σ' : hS} {τ : hT} (hm : nmM h m dT ix σ τ) (h1 : σ' 64 20 = σ 64 20) (h2 : σ' 73 = σ 73) : nmM h m dT ix σ' τ := by
  unfold nmM
  rw [h1, h2]; exact hm
def hasN (dT : Nat → Nat) (d : Nat) : Nat → Bool
  | 0 => false
  | k + 1 => hasN dT d k || decide (dT k = d)
/-- the house of that name, the first among the names -/
def hsN (dT : Nat → Nat) (ix : Nat → Option Nat) (d : Nat) : Nat → Nat → Option Nat
  | 0, _ => none
  | n + 1, k => if dT k = d ∧ (ix k).isSome then ix k else hsN dT ix d n (k + 1)
theorem orE_i {b : Bool} {g : Option (Nat × Nat)} {e : Nat × Nat} : orE (if b = true then orE g e else g) e = orE g e := by
  cases b <;> cases g <;> rfl
theorem orE_b {b : Bool} {g : Option (Nat × Nat)} {k a k0 t0 : Nat} (hb : ∀ k t, g = some (k, t) → t < a) (h : (if b = true then orE g (k, a) else g) = some (k0, t0)) : t0 < a ∨ (t0 = a ∧ k0 = k) := by
  rcases g with _ | ⟨k1, t1⟩
  · cases b
    · cases h
    · cases h; exact Or.inr ⟨rfl, rfl⟩
  · have := hb k1 t1 rfl
    cases b
    · cases h; exact Or.inl this
    · cases h; exact Or.inl this
section S96
variable {G : hGl} {σ : hS} {τ : hT} {x y : Option Nat}
def pTi (f : hF) (n M a : Nat) (g : Option (Nat × Nat)) (r : hR) (σ : hS) (τ : hT) : hPo := fun v' r' σ' τ' => ∃ v, v' = some (.int v) ∧ r' = r ∧ τ' = τ ∧ (∀ k, k ∉ [64] → σ' k = σ k) ∧ kM [11, 13, 14, 15, 16] σ σ' ∧ mSt f n (bd (bd (pass a) (fun a _ => tk (kd f n) 24 a)) (fun a _ => tk (kd f n) 27 a)) σ' ∧ wSt f n (bG (kd f n) (vl f n) M (pass a) g) σ' ∧ ∀ b u, pass a = .inr (b, u) → kd f n b = 24 → v = nI (vl f n b)
theorem d_toldInt {f : hF} {n M a : Nat} {u : Unit} {g : Option (Nat × Nat)} {v : Int32} (hv : v = nI M) (hM : M ≤ 9999) (ht : tokM f n σ τ) (hn : n ≤ 2000) (hs : mSt f n (.inr (a, u)) σ) (hk : kd f n a ≠ 25 ∧ kd f n a ≠ 26) (hg : wSt f n g σ) (hb : bef (.inr (a, u)) g) : hCal G (m_X12_toldInt (pTi f n M a g (rr 38 51 x y) σ τ)) [.ref (hgA G 64), .int 0, .int v] shp (rr 38 51 x y) σ τ := by
  have hb2 : bef (pass a) g := by
    intro k t q b w hp
    have := hb k t q a u rfl
    rcases pass_cases a with ⟨p1, p2⟩ | ⟨p1, p2⟩
    · rw [p2] at hp; cases hp; omega
    · rw [p2] at hp; cases hp
  refine hv_enter pn_X12 rfl ?_
  refine hv_aload_n dX12_toldInt_0 rfl ?_
  refine hv_cv0 (d_goesOn ht hs (fun b w q => by cases q; exact hk)) dX12_toldInt_1 ml_X12_224 mk_X12_goesOn (by first | rfl | assumption) rfl rfl rfl rfl rfl ?_
  rintro _ _ σ1 _ ⟨rfl, rfl, rfl, a1, a2, a3⟩
  have a3' : mSt f n (pass a) σ1 := a3
  refine hv_aload_n dX12_toldInt_4 rfl ?_
  refine hv_iload_n dX12_toldInt_5 rfl ?_
  refine hv_iload_n dX12_toldInt_6 rfl ?_
  refine hv_cv2 (d_bounded (g := g) hv hM (tokM_of ht a1 rfl) hn a3' (wSt_of hg (a2 15 (by decide)) (a2 16 (by decide))) hb2) dX12_toldInt_7 ml_X12_257 mk_X12_bounded (by first | rfl | assumption) rfl rfl rfl rfl rfl ?_
  rintro _ _ σ2 _ ⟨w, rfl, rfl, rfl, b1, b2, b3, b4, b5⟩
  refine hv_istore_n dX12_toldInt_10 rfl rfl ?_
  refine hv_aload_n dX12_toldInt_11 rfl ?_
  refine hv_iconst (v := 4) dX12_toldInt_12 (by decide) ?_
  refine hv_cv1 (d_must (k := 27) (by decide) (by decide) (by decide) (tokM_of ht (off_tr a1 b1 (Z := [64]) (by decide) (by decide)) rfl) b3) dX12_toldInt_13 ml_X12_261 mk_X12_must (by first | rfl | assumption) rfl rfl rfl rfl rfl ?_
  rintro _ _ σ3 _ ⟨rfl, rfl, rfl, c1, c2, c3⟩
  refine hv_iload_n dX12_toldInt_16 rfl ?_
  refine hv_iret dX12_toldInt_17 rfl ?_
  exact ⟨w, rfl, rfl, rfl, off_tr (off_tr a1 b1 (Z := [64]) (by decide) (by decide)) c1 (by decide) (by decide), kM_tr (kM_tr a2 b2 (Z := [11, 13, 14, 15, 16]) (by decide) (by decide)) c2 (by decide) (by decide), c3, wSt_of b4 (c2 15 (by decide)) (c2 16 (by decide)), b5⟩
/-- behind a name that should be new -/
def pNm (f : hF) (n N : Nat) (dT : Nat → Nat) (s : hPR Unit) (g : Option (Nat × Nat)) (r : hR) (σ : hS) (τ : hT) : hPo := fun v' r' σ' τ' => ∃ v, v' = some (.int v) ∧ (∀ a u, s = .inr (a, u) → v = nI a) ∧ r' = r ∧ τ' = τ ∧ (∀ k, k ∉ [64] → σ' k = σ k) ∧ kM [11, 13, 14, 15, 16] σ σ' ∧ mSt f n (bd s (fun a _ => tk (kd f n) 23 a)) σ' ∧ ∃ g', wSt f n g' σ' ∧ ∀ a u b w, s = .inr (a, u) → tk (kd f n) 23 a = .inr (b, w) → g' = if hasN dT (dg f n a) N = true then orE g (3, a) else g
theorem d_named {f : hF} {n h m : Nat} {dT : Nat → Nat} {ix : Nat → Option Nat} {s : hPR Unit} {g : Option (Nat × Nat)} (ht : tokM f n σ τ) (hn : n ≤ 2000) (hs : mSt f n s σ) (hg : wSt f n g σ) (hb : bef s g) (hN : nmM h m dT ix σ τ) : hCal G (m_X12_named (pNm f n (h + m) dT s g (rr 38 51 x y) σ τ)) [.ref (hgA G 64)] shp (rr 38 51 x y) σ τ := by
  obtain ⟨n1, n2, n3, n4⟩ := hN
  refine hv_enter pn_X12 rfl ?_
  generalize hQ : pNm f n (h + m) dT s g (rr 38 51 x y) σ τ = Q
  rcases hs1 : bd s (fun a _ => tk (kd f n) 23 a) with e | ⟨b, w⟩
  · skip
    refine hv_aload_n dX12_named_0 rfl ?_
    refine hv_geti dX12_named_1 fl_X12_206 (by first | rfl | assumption) rfl ?_
    refine hv_istore_n dX12_named_4 rfl rfl ?_
    refine hv_aload_n dX12_named_5 rfl ?_
    refine hv_iconst (v := 1) dX12_named_6 (by decide) ?_
    refine hv_cv1 (d_must (k := 23) (by decide) (by decide) (by decide) ht hs) dX12_named_7 ml_X12_261 mk_X12_must (by first | rfl | assumption) rfl rfl rfl rfl rfl ?_
    rintro _ _ σ1 _ ⟨rfl, rfl, rfl, a1, a2, a3⟩
    rw [hs1] at a3
    have fin : Q (some (.int (σ 64 11))) (rr 38 51 x y) σ1 τ := by
      rw [← hQ]
      refine ⟨_, rfl, fun a u q => by subst q; exact hs.2.1, rfl, rfl, a1, kM_tr a2 kM_rf (Y := []) (by decide) (by decide), by rw [hs1]; exact a3, g, wSt_of hg (a2 15 (by decide)) (a2 16 (by decide)), fun a u b w q1 q2 => ?_⟩
      subst q1
      have : tk (kd f n) 23 a = .inl e := hs1
      rw [this] at q2; cases q2
    have hne : ¬ σ1 64 13 = 0 := by obtain ⟨z, t⟩ := e; rw [a3.1]; exact nI_ne0 (by have := a3.2.1; omega) (by have := a3.2.1; omega)
    refine hv_iconst (v := 0) dX12_named_10 (by decide) ?_
    refine hv_istore_n dX12_named_11 rfl rfl ?_
    refine hv_iload_n dX12_named_12 rfl ?_
    refine hv_aload_n dX12_named_13 rfl ?_
    refine hv_geti dX12_named_14 fl_X12_239 (by first | rfl | assumption) rfl ?_
    refine hv_icmp_ge (tgt := 55) dX12_named_17 (by decide) (fun c_17 => ?_) (fun c_17 => ?_)
    · skip
      refine hv_iload_n dX12_named_55 rfl ?_
      refine hv_iret dX12_named_56 rfl ?_
      exact fin
    · refine hv_aload_n dX12_named_20 rfl ?_
      refine hv_geti dX12_named_21 fl_X12_203 (by first | rfl | assumption) rfl ?_
      refine hv_if_ne (tgt := 55) dX12_named_24 (by decide) (fun c_24 => ?_) (fun c_24 => absurd c_24 (hne))
      refine hv_iload_n dX12_named_55 rfl ?_
      refine hv_iret dX12_named_56 rfl ?_
      exact fin
  · obtain ⟨a, u, rfl, htk⟩ : ∃ a u, s = .inr (a, u) ∧ tk (kd f n) 23 a = .inr (b, w) := by
      rcases s with e | ⟨a, u⟩
      · cases hs1
      · exact ⟨a, u, rfl, hs1⟩
    have k23 : kd f n a = 23 := by
      unfold tk at htk
      split at htk
      · assumption
      · cases htk
    have hdl := dg_lt k23
    have h70 := (ht a hs.2.2).2.2.2 k23
    have ha := hs.2.2.1
    have loop : ∀ k i (σ1 : hS), i + k = h + m → (∀ c, c ∉ [64] → σ1 c = σ c) → kM [11, 13, 14, 15, 16] σ σ1 → mSt f n (.inr (b, w)) σ1 → wSt f n (if hasN dT (dg f n a) i = true then orE g (3, a) else g) σ1 → hV G (m_X12_named Q) 0 0 shp 12 [some (.ref (hgA G 64)), some (.int (nI a)), some (.int (nI i))] [] (rr 38 51 x y) σ1 τ := by
      intro k
      induction k with
      | zero =>
        intro i σ1 hi h1 h2 h3 h4
        obtain rfl : i = h + m := by omega
        have e20 : σ1 64 20 = nI (h + m) := by rw [h2 20 (by decide)]; exact n1
        refine hv_iload_n dX12_named_12 rfl ?_
        refine hv_aload_n dX12_named_13 rfl ?_
        refine hv_geti dX12_named_14 fl_X12_239 (by first | rfl | assumption) rfl ?_
        refine hv_icmp_ge (tgt := 55) dX12_named_17 (by decide) (fun c_17 => ?_) (fun c_17 => absurd ((by rw [e20]; exact nI_le (Nat.le_refl _) (by omega))) c_17)
        refine hv_iload_n dX12_named_55 rfl ?_
        refine hv_iret dX12_named_56 rfl ?_
        rw [← hQ]
        refine ⟨_, rfl, fun a' u' q => by cases q; rfl, rfl, rfl, h1, h2, by rw [hs1]; exact h3, _, h4, fun a' u' b' w' q1 q2 => by cases q1; rfl⟩
      | succ k ih =>
        intro i σ1 hi h1 h2 h3 h4
        have e20 : σ1 64 20 = nI (h + m) := by rw [h2 20 (by decide)]; exact n1
        obtain ⟨m1, m2, m3, m4⟩ := n4 i (by omega)
        have hh : hasN dT (dg f n a) (i + 1) = (hasN dT (dg f n a) i || decide (dT i = dg f n a)) := rfl
        by_cases c : dT i = dg f n a
        · skip
          refine hv_iload_n dX12_named_12 rfl ?_
          refine hv_aload_n dX12_named_13 rfl ?_
          refine hv_geti dX12_named_14 fl_X12_239 (by first | rfl | assumption) rfl ?_
          refine hv_icmp_ge (tgt := 55) dX12_named_17 (by decide) (fun c_17 => absurd c_17 ((by rw [e20]; exact nI_ge (by omega) (by omega)))) (fun c_17 => ?_)
          refine hv_aload_n dX12_named_20 rfl ?_
          refine hv_geti dX12_named_21 fl_X12_203 (by first | rfl | assumption) rfl ?_
          refine hv_if_ne (tgt := 55) dX12_named_24 (by decide) (fun c_24 => absurd (h3.1) c_24) (fun c_24 => ?_)
          refine hv_aload_n dX12_named_27 rfl ?_
          refine hv_getr dX12_named_28 fl_X12_40 (by first | rfl | assumption) rfl (by first | rfl | assumption) ?_
          refine hv_iload_n dX12_named_31 rfl ?_
          refine hv_lald dX12_named_32 (by first | rfl | assumption) (j := i) rfl (by omega) (by first | decide | assumption) ?_
          refine hv_aload_n dX12_named_33 rfl ?_
          refine hv_getr dX12_named_34 fl_X12_30 (by first | rfl | assumption) rfl (by first | rfl | assumption) ?_
          refine hv_iload_n dX12_named_37 rfl ?_
          refine hv_lald dX12_named_38 (by first | rfl | assumption) (j := a) rfl (by omega) (by first | decide | assumption) ?_
          rw [m1, h70, c]
          refine hv_lcmp dX12_named_39 ?_
          refine hv_if_ne (tgt := 49) dX12_named_40 (by decide) (fun c_40 => absurd (((lg_cmp_eq _ _).mpr rfl)) c_40) (fun c_40 => ?_)
          refine hv_aload_n dX12_named_43 rfl ?_
          refine hv_iconst (v := 3) dX12_named_44 (by decide) ?_
          refine hv_iload_n dX12_named_45 rfl ?_
          refine hv_cv2 (d_wrong (k := 3) (t := a) (g := if hasN dT (dg f n a) i = true then orE g (3, a) else g) rfl (Or.inl rfl) (tokM_of ht h1 rfl) hn h3.1 h4 hs.2.2 (fun k0 t0 q => orE_b (fun k0 t0 q => hb k0 t0 q a u rfl) q)) dX12_named_46 ml_X12_283 mk_X12_wrong (by first | rfl | assumption) rfl rfl rfl rfl rfl ?_
          rintro _ _ σ2 _ ⟨rfl, rfl, rfl, a1, a2, a3⟩
          refine hv_iinc dX12_named_49 rfl (nI_1 i) rfl rfl ?_
          refine hv_goto (tgt := 12) dX12_named_52 (by decide) ?_
          refine ih (i + 1) σ2 (by omega) (off_tr h1 a1 (by decide) (by decide)) (kM_tr h2 a2 (by decide) (by decide)) (mSt_of h3 (a2 11 (by decide)) (a2 13 (by decide)) (a2 14 (by decide))) ?_
          rw [hh, decide_eq_true c, Bool.or_true, if_pos rfl, ← orE_i (b := hasN dT (dg f n a) i)]
          exact a3
        · skip
          refine hv_iload_n dX12_named_12 rfl ?_
          refine hv_aload_n dX12_named_13 rfl ?_
          refine hv_geti dX12_named_14 fl_X12_239 (by first | rfl | assumption) rfl ?_
          refine hv_icmp_ge (tgt := 55) dX12_named_17 (by decide) (fun c_17 => absurd c_17 ((by rw [e20]; exact nI_ge (by omega) (by omega)))) (fun c_17 => ?_)
          refine hv_aload_n dX12_named_20 rfl ?_
          refine hv_geti dX12_named_21 fl_X12_203 (by first | rfl | assumption) rfl ?_
          refine hv_if_ne (tgt := 55) dX12_named_24 (by decide) (fun c_24 => absurd (h3.1) c_24) (fun c_24 => ?_)
          refine hv_aload_n dX12_named_27 rfl ?_
          refine hv_getr dX12_named_28 fl_X12_40 (by first | rfl | assumption) rfl (by first | rfl | assumption) ?_
          refine hv_iload_n dX12_named_31 rfl ?_
          refine hv_lald dX12_named_32 (by first | rfl | assumption) (j := i) rfl (by omega) (by first | decide | assumption) ?_
          refine hv_aload_n dX12_named_33 rfl ?_
          refine hv_getr dX12_named_34 fl_X12_30 (by first | rfl | assumption) rfl (by first | rfl | assumption) ?_
          refine hv_iload_n dX12_named_37 rfl ?_
          refine hv_lald dX12_named_38 (by first | rfl | assumption) (j := a) rfl (by omega) (by first | decide | assumption) ?_
          rw [m1, h70]
          refine hv_lcmp dX12_named_39 ?_
          refine hv_if_ne (tgt := 49) dX12_named_40 (by decide) (fun c_40 => ?_) (fun c_40 => absurd c_40 ((fun q => c ((pk_lEQ (by omega) (by omega)).mp ((lg_cmp_eq _ _).mp q)))))
          refine hv_iinc dX12_named_49 rfl (nI_1 i) rfl rfl ?_
          refine hv_goto (tgt := 12) dX12_named_52 (by decide) ?_
          refine ih (i + 1) σ1 (by omega) h1 h2 h3 ?_
          rw [hh, decide_eq_false c, Bool.or_false]; exact h4
    refine hv_aload_n dX12_named_0 rfl ?_
    refine hv_geti dX12_named_1 fl_X12_206 (by first | rfl | assumption) rfl ?_
    rw [hs.2.1]
    refine hv_istore_n dX12_named_4 rfl rfl ?_
    refine hv_aload_n dX12_named_5 rfl ?_
    refine hv_iconst (v := 1) dX12_named_6 (by decide) ?_
    refine hv_cv1 (d_must (k := 23) (by decide) (by decide) (by decide) ht hs) dX12_named_7 ml_X12_261 mk_X12_must (by first | rfl | assumption) rfl rfl rfl rfl rfl ?_
    rintro _ _ σ1 _ ⟨rfl, rfl, rfl, a1, a2, a3⟩
    rw [hs1] at a3
    refine hv_iconst (v := 0) dX12_named_10 (by decide) ?_
    refine hv_istore_n dX12_named_11 rfl rfl ?_
    exact loop (h + m) 0 σ1 (by omega) a1 (kM_tr a2 kM_rf (Y := []) (by decide) (by decide)) a3 (wSt_of hg (a2 15 (by decide)) (a2 16 (by decide)))
def pEd (f : hF) (n t N : Nat) (v : Int32) (s : hPR Unit) (r : hR) (σ : hS) (τ : hT) : hPo := fun v' r' σ' τ' => v' = none ∧ r' = r ∧ (∀ k, k ∉ [64, 73] → σ' k = σ k) ∧ (∀ k, k ∉ [72] → τ' k = τ k) ∧ kM [11, 13, 14, 20] σ σ' ∧ mSt f n (bd s (fun a _ => tk (kd f n) 27 a)) σ' ∧ ∀ b w, bd s (fun a _ => tk (kd f n) 27 a) = .inr (b, w) → τ' 72 = vp_updL (τ 72) N (lN (dg f n t)) ∧ σ' 73 = upd (σ 73) N v ∧ σ' 64 20 = nI (N + 1)
theorem d_ends {f : hF} {n t N : Nat} {s : hPR Unit} {tv v : Int32} (ht : tokM f n σ τ) (hs : mSt f n s σ) (hN : σ 64 20 = nI N) (hN2 : N < 12) (htv : ∀ a u, s = .inr (a, u) → tv = nI t ∧ kd f n t = 23 ∧ rel f n t) : hCal G (m_X12_ends (pEd f n t N v s (rr 38 51 x y) σ τ)) [.ref (hgA G 64), .int tv, .int v] shp (rr 38 51 x y) σ τ := by
  refine hv_enter pn_X12 rfl ?_
  rcases hs1 : bd s (fun a _ => tk (kd f n) 27 a) with e | ⟨b, w⟩
  · skip
    refine hv_aload_n dX12_ends_0 rfl ?_
    refine hv_iconst (v := 4) dX12_ends_1 (by decide) ?_
    refine hv_cv1 (d_must (k := 27) (by decide) (by decide) (by decide) ht hs) dX12_ends_2 ml_X12_261 mk_X12_must (by first | rfl | assumption) rfl rfl rfl rfl rfl ?_
    rintro _ _ σ1 _ ⟨rfl, rfl, rfl, a1, a2, a3⟩
    rw [hs1] at a3
    refine hv_aload_n dX12_ends_5 rfl ?_
    refine hv_geti dX12_ends_6 fl_X12_203 (by first | rfl | assumption) rfl ?_
    refine hv_if_le (tgt := 13) dX12_ends_9 (by decide) (fun c_9 => absurd c_9 ((by obtain ⟨z, t⟩ := e; rw [a3.1]; rcases a3.2.1 with q | q <;> rw [q] <;> decide))) (fun c_9 => ?_)
    refine hv_vret dX12_ends_12 rfl ?_
    exact ⟨rfl, rfl, off_wk a1 (by decide), fun _ _ => rfl, kM_tr a2 kM_rf (Y := []) (by decide) (by decide), by rw [hs1]; exact a3, fun b w q => by rw [hs1] at q; cases q⟩
  · obtain ⟨a, u, rfl⟩ : ∃ a u, s = .inr (a, u) := by
      rcases s with e | ⟨a, u⟩
      · cases hs1
      · exact ⟨a, u, rfl⟩
    obtain ⟨rfl, k23, hr⟩ := htv a u rfl
    have h70 := (ht t hr).2.2.2 k23
    have hr1 := hr.1
    refine hv_aload_n dX12_ends_0 rfl ?_
    refine hv_iconst (v := 4) dX12_ends_1 (by decide) ?_
    refine hv_cv1 (d_must (k := 27) (by decide) (by decide) (by decide) ht hs) dX12_ends_2 ml_X12_261 mk_X12_must (by first | rfl | assumption) rfl rfl rfl rfl rfl ?_
    rintro _ _ σ1 _ ⟨rfl, rfl, rfl, a1, a2, a3⟩
    rw [hs1] at a3
    have e20 : σ1 64 20 = nI N := by rw [a2 20 (by decide)]; exact hN
    refine hv_aload_n dX12_ends_5 rfl ?_
    refine hv_geti dX12_ends_6 fl_X12_203 (by first | rfl | assumption) rfl ?_
    refine hv_if_le (tgt := 13) dX12_ends_9 (by decide) (fun c_9 => ?_) (fun c_9 => absurd ((by rw [a3.1]; decide)) c_9)
    refine hv_aload_n dX12_ends_13 rfl ?_
    refine hv_getr dX12_ends_14 fl_X12_40 (by first | rfl | assumption) rfl (by first | rfl | assumption) ?_
    refine hv_aload_n dX12_ends_17 rfl ?_
    refine hv_geti dX12_ends_18 fl_X12_239 (by first | rfl | assumption) rfl ?_
    refine hv_aload_n dX12_ends_21 rfl ?_
    refine hv_getr dX12_ends_22 fl_X12_30 (by first | rfl | assumption) rfl (by first | rfl | assumption) ?_
    refine hv_iload_n dX12_ends_25 rfl ?_
    refine hv_lald dX12_ends_26 (by first | rfl | assumption) (j := t) rfl (by omega) (by first | decide | assumption) ?_
    rw [h70]
    refine hv_last dX12_ends_27 (by first | rfl | assumption) (j := N) e20 hN2 (by first | decide | assumption) ?_
    refine hv_aload_n dX12_ends_28 rfl ?_
    refine hv_getr dX12_ends_29 fl_X12_43 (by first | rfl | assumption) rfl (by first | rfl | assumption) ?_
    refine hv_aload_n dX12_ends_32 rfl ?_
    refine hv_geti dX12_ends_33 fl_X12_239 (by first | rfl | assumption) rfl ?_
    refine hv_iload_n dX12_ends_36 rfl ?_
    refine hv_iast dX12_ends_37 (by first | rfl | assumption) (j := N) e20 hN2 (by first | decide | assumption) ?_
    refine hv_aload_n dX12_ends_38 rfl ?_
    refine hv_dup dX12_ends_39 rfl ?_
    refine hv_geti dX12_ends_40 fl_X12_239 (by first | rfl | assumption) rfl ?_
    refine hv_iconst (v := 1) dX12_ends_43 (by decide) ?_
    refine hv_iadd dX12_ends_44 ?_
    refine hv_puti dX12_ends_45 fl_X12_239 (by first | rfl | assumption) rfl rfl rfl ?_
    refine hv_vret dX12_ends_48 rfl ?_
    refine ⟨rfl, rfl, off_up (off_up (off_wk a1 (by decide)) (by decide)) (by decide), fun c hc => by rw [hva_ne (by simpa using hc)], kM_tr (kM_tr a2 (kM_c kM_rf (X := []) (by decide)) (Z := [11, 13, 14, 20]) (by decide) (by decide)) (kM_up (X := [20]) (by decide)) (by decide) (by decide), ?_, fun b w q => ⟨by rw [hup_eq], ?_, ?_⟩⟩
    · rw [hs1]; exact mSt_of a3 (by rw [hup_eq, pk_un (by decide), hva_ne (by decide)]) (by rw [hup_eq, pk_un (by decide), hva_ne (by decide)]) (by rw [hup_eq, pk_un (by decide), hva_ne (by decide)])
    · rw [hva_ne (by decide), hup_eq, a1 73 (by decide)]
    · rw [hup_eq, pk_us, hva_ne (by decide), e20, nI_1]
/-- behind the name of a house -/
def pKn (f : hF) (n N : Nat) (dT : Nat → Nat) (ix : Nat → Option Nat) (s : hPR Unit) (g : Option (Nat × Nat)) (r : hR) (σ : hS) (τ : hT) : hPo := fun v' r' σ' τ' => ∃ o : Option Nat, v' = some (.int (oN o)) ∧ r' = r ∧ τ' = τ ∧ (∀ k, k ∉ [64] → σ' k = σ k) ∧ kM [11, 13, 14, 15, 16] σ σ' ∧ mSt f n (bd s (fun a _ => tk (kd f n) 23 a)) σ' ∧ (∀ e, bd s (fun a _ => tk (kd f n) 23 a) = .inl e → o = none) ∧ ∃ g', wSt f n g' σ' ∧ ∀ a u b w, s = .inr (a, u) → tk (kd f n) 23 a = .inr (b, w) → o = hsN dT ix (dg f n a) N 0 ∧ g' = if hsN dT ix (dg f n a) N 0 = none then orE g (4, a) else g
theorem d_knownHouse {f : hF} {n h m : Nat} {dT : Nat → Nat} {ix : Nat → Option Nat} {s : hPR Unit} {g : Option (Nat × Nat)} (ht : tokM f n σ τ) (hn : n ≤ 2000) (hs : mSt f n s σ) (hg : wSt f n g σ) (hb : bef s g) (hN : nmM h m dT ix σ τ) : hCal G (m_X12_knownHouse (pKn f n (h + m) dT ix s g (rr 38 51 x y) σ τ)) [.ref (hgA G 64)] shp (rr 38 51 x y) σ τ := by
  obtain ⟨n1, n2, n3, n4⟩ := hN
  refine hv_enter pn_X12 rfl ?_
  generalize hQ : pKn f n (h + m) dT ix s g (rr 38 51 x y) σ τ = Q
  rcases hs1 : bd s (fun a _ => tk (kd f n) 23 a) with e | ⟨b, w⟩
  · skip
    refine hv_aload_n dX12_knownHouse_0 rfl ?_
    refine hv_geti dX12_knownHouse_1 fl_X12_206 (by first | rfl | assumption) rfl ?_
    refine hv_istore_n dX12_knownHouse_4 rfl rfl ?_
    refine hv_aload_n dX12_knownHouse_5 rfl ?_
    refine hv_iconst (v := 1) dX12_knownHouse_6 (by decide) ?_
    refine hv_cv1 (d_must (k := 23) (by decide) (by decide) (by decide) ht hs) dX12_knownHouse_7 ml_X12_261 mk_X12_must (by first | rfl | assumption) rfl rfl rfl rfl rfl ?_
    rintro _ _ σ1 _ ⟨rfl, rfl, rfl, a1, a2, a3⟩
    rw [hs1] at a3
    refine hv_aload_n dX12_knownHouse_10 rfl ?_
    refine hv_geti dX12_knownHouse_11 fl_X12_203 (by first | rfl | assumption) rfl ?_
    refine hv_if_le (tgt := 19) dX12_knownHouse_14 (by decide) (fun c_14 => absurd c_14 ((by obtain ⟨z, t⟩ := e; rw [a3.1]; rcases a3.2.1 with q | q <;> rw [q] <;> decide))) (fun c_14 => ?_)
    refine hv_iconst (v := -1) dX12_knownHouse_17 (by decide) ?_
    refine hv_iret dX12_knownHouse_18 rfl ?_
    rw [← hQ]
    refine ⟨none, rfl, rfl, rfl, a1, kM_tr a2 kM_rf (Y := []) (by decide) (by decide), by rw [hs1]; exact a3, fun _ _ => rfl, g, wSt_of hg (a2 15 (by decide)) (a2 16 (by decide)), fun a u b w q1 q2 => ?_⟩
    subst q1
    have : tk (kd f n) 23 a = .inl e := hs1
    rw [this] at q2; cases q2
  · obtain ⟨a, u, rfl, htk⟩ : ∃ a u, s = .inr (a, u) ∧ tk (kd f n) 23 a = .inr (b, w) := by
      rcases s with e | ⟨a, u⟩
      · cases hs1
      · exact ⟨a, u, rfl, hs1⟩
    have k23 : kd f n a = 23 := by
      unfold tk at htk
      split at htk
      · assumption
      · cases htk
    have hdl := dg_lt k23
    have h70 := (ht a hs.2.2).2.2.2 k23
    have ha := hs.2.2.1
    refine hv_aload_n dX12_knownHouse_0 rfl ?_
    refine hv_geti dX12_knownHouse_1 fl_X12_206 (by first | rfl | assumption) rfl ?_
    rw [hs.2.1]
    refine hv_istore_n dX12_knownHouse_4 rfl rfl ?_
    refine hv_aload_n dX12_knownHouse_5 rfl ?_
    refine hv_iconst (v := 1) dX12_knownHouse_6 (by decide) ?_
    refine hv_cv1 (d_must (k := 23) (by decide) (by decide) (by decide) ht hs) dX12_knownHouse_7 ml_X12_261 mk_X12_must (by first | rfl | assumption) rfl rfl rfl rfl rfl ?_
    rintro _ _ σ1 _ ⟨rfl, rfl, rfl, a1, a2, a3⟩
    rw [hs1] at a3
    have e20 : σ1 64 20 = nI (h + m) := by rw [a2 20 (by decide)]; exact n1
    have ret : ∀ o g' (σ2 : hS), (∀ k, k ∉ [64] → σ2 k = σ k) → kM [11, 13, 14, 15, 16] σ σ2 → mSt f n (.inr (b, w)) σ2 → wSt f n g' σ2 → o = hsN dT ix (dg f n a) (h + m) 0 → g' = (if hsN dT ix (dg f n a) (h + m) 0 = none then orE g (4, a) else g) → Q (some (.int (oN o))) (rr 38 51 x y) σ2 τ := by
      intro o g' σ2 x1 x2 x3 x4 x5 x6
      rw [← hQ]
      exact ⟨o, rfl, rfl, rfl, x1, x2, by rw [hs1]; exact x3, fun e q => (by rw [hs1] at q; cases q), g', x4, fun a' u' b' w' q1 q2 => by cases q1; exact ⟨x5, x6⟩⟩
    have g1 : wSt f n g σ1 := wSt_of hg (a2 15 (by decide)) (a2 16 (by decide))
    have loop : ∀ k i, i + k = h + m → hsN dT ix (dg f n a) (h + m) 0 = hsN dT ix (dg f n a) k i → hV G (m_X12_knownHouse Q) 0 0 shp 21 [some (.ref (hgA G 64)), some (.int (nI a)), some (.int (nI i))] [] (rr 38 51 x y) σ1 τ := by
      intro k
      induction k with
      | zero =>
        intro i hi hh
        obtain rfl : i = h + m := by omega
        refine hv_iload_n dX12_knownHouse_21 rfl ?_
        refine hv_aload_n dX12_knownHouse_22 rfl ?_
        refine hv_geti dX12_knownHouse_23 fl_X12_239 (by first | rfl | assumption) rfl ?_
        refine hv_icmp_ge (tgt := 67) dX12_knownHouse_26 (by decide) (fun c_26 => ?_) (fun c_26 => absurd ((by rw [e20]; exact nI_le (Nat.le_refl _) (by omega))) c_26)
        refine hv_aload_n dX12_knownHouse_67 rfl ?_
        refine hv_iconst (v := 4) dX12_knownHouse_68 (by decide) ?_
        refine hv_iload_n dX12_knownHouse_69 rfl ?_
        refine hv_cv2 (d_wrong (k := 4) (t := a) (g := g) rfl (Or.inr (Or.inl rfl)) (tokM_of ht a1 rfl) hn a3.1 g1 hs.2.2 (fun k0 t0 q => Or.inl (hb k0 t0 q a u rfl))) dX12_knownHouse_70 ml_X12_283 mk_X12_wrong (by first | rfl | assumption) rfl rfl rfl rfl rfl ?_
        rintro _ _ σ2 _ ⟨rfl, rfl, rfl, b1, b2, b3⟩
        refine hv_iconst (v := -1) dX12_knownHouse_73 (by decide) ?_
        refine hv_iret dX12_knownHouse_74 rfl ?_
        exact ret none _ σ2 (off_tr a1 b1 (by decide) (by decide)) (kM_tr a2 b2 (by decide) (by decide)) (mSt_of a3 (b2 11 (by decide)) (b2 13 (by decide)) (b2 14 (by decide))) b3 (by rw [hh]; rfl) (by rw [hh]; rfl)
      | succ k ih =>
        intro i hi hh
        obtain ⟨m1, m2, m3, m4⟩ := n4 i (by omega)
        have e73 : σ1 73 i = oN (ix i) := by rw [a1 73 (by decide)]; exact m3
        have hst : hsN dT ix (dg f n a) (k + 1) i = if dT i = dg f n a ∧ (ix i).isSome then ix i else hsN dT ix (dg f n a) k (i + 1) := rfl
        by_cases c : dT i = dg f n a
        · rcases hix : ix i with _ | j
          · rw [hix] at e73 hst
            rw [if_neg (fun q => by cases q.2)] at hst
            refine hv_iload_n dX12_knownHouse_21 rfl ?_
            refine hv_aload_n dX12_knownHouse_22 rfl ?_
            refine hv_geti dX12_knownHouse_23 fl_X12_239 (by first | rfl | assumption) rfl ?_
            refine hv_icmp_ge (tgt := 67) dX12_knownHouse_26 (by decide) (fun c_26 => absurd c_26 ((by rw [e20]; exact nI_ge (by omega) (by omega)))) (fun c_26 => ?_)
            refine hv_aload_n dX12_knownHouse_29 rfl ?_
            refine hv_getr dX12_knownHouse_30 fl_X12_40 (by first | rfl | assumption) rfl (by first | rfl | assumption) ?_
            refine hv_iload_n dX12_knownHouse_33 rfl ?_
            refine hv_lald dX12_knownHouse_34 (by first | rfl | assumption) (j := i) rfl (by omega) (by first | decide | assumption) ?_
            refine hv_aload_n dX12_knownHouse_35 rfl ?_
            refine hv_getr dX12_knownHouse_36 fl_X12_30 (by first | rfl | assumption) rfl (by first | rfl | assumption) ?_
            refine hv_iload_n dX12_knownHouse_39 rfl ?_
            refine hv_lald dX12_knownHouse_40 (by first | rfl | assumption) (j := a) rfl (by omega) (by first | decide | assumption) ?_
            rw [m1, h70, c]
            refine hv_lcmp dX12_knownHouse_41 ?_
            refine hv_if_ne (tgt := 61) dX12_knownHouse_42 (by decide) (fun c_42 => absurd (((lg_cmp_eq _ _).mpr rfl)) c_42) (fun c_42 => ?_)
            refine hv_aload_n dX12_knownHouse_45 rfl ?_
            refine hv_getr dX12_knownHouse_46 fl_X12_43 (by first | rfl | assumption) rfl (by first | rfl | assumption) ?_
            refine hv_iload_n dX12_knownHouse_49 rfl ?_
            refine hv_iald dX12_knownHouse_50 (by first | rfl | assumption) (j := i) rfl (by omega) (by first | decide | assumption) ?_
            refine hv_if_lt (tgt := 61) dX12_knownHouse_51 (by decide) (fun c_51 => ?_) (fun c_51 => absurd ((by rw [e73]; decide)) c_51)
            refine hv_iinc dX12_knownHouse_61 rfl (nI_1 i) rfl rfl ?_
            refine hv_goto (tgt := 21) dX12_knownHouse_64 (by decide) ?_
            exact ih (i + 1) (by omega) (hh.trans hst)
          · rw [hix] at e73 hst
            rw [if_pos ⟨c, rfl⟩] at hst
            have hj := m4 j hix
            have e73' : σ1 73 i = nI j := e73
            refine hv_iload_n dX12_knownHouse_21 rfl ?_
            refine hv_aload_n dX12_knownHouse_22 rfl ?_
            refine hv_geti dX12_knownHouse_23 fl_X12_239 (by first | rfl | assumption) rfl ?_
            refine hv_icmp_ge (tgt := 67) dX12_knownHouse_26 (by decide) (fun c_26 => absurd c_26 ((by rw [e20]; exact nI_ge (by omega) (by omega)))) (fun c_26 => ?_)
            refine hv_aload_n dX12_knownHouse_29 rfl ?_
            refine hv_getr dX12_knownHouse_30 fl_X12_40 (by first | rfl | assumption) rfl (by first | rfl | assumption) ?_
            refine hv_iload_n dX12_knownHouse_33 rfl ?_
            refine hv_lald dX12_knownHouse_34 (by first | rfl | assumption) (j := i) rfl (by omega) (by first | decide | assumption) ?_
            refine hv_aload_n dX12_knownHouse_35 rfl ?_
            refine hv_getr dX12_knownHouse_36 fl_X12_30 (by first | rfl | assumption) rfl (by first | rfl | assumption) ?_
            refine hv_iload_n dX12_knownHouse_39 rfl ?_
            refine hv_lald dX12_knownHouse_40 (by first | rfl | assumption) (j := a) rfl (by omega) (by first | decide | assumption) ?_
            rw [m1, h70, c]
            refine hv_lcmp dX12_knownHouse_41 ?_
            refine hv_if_ne (tgt := 61) dX12_knownHouse_42 (by decide) (fun c_42 => absurd (((lg_cmp_eq _ _).mpr rfl)) c_42) (fun c_42 => ?_)
            refine hv_aload_n dX12_knownHouse_45 rfl ?_
            refine hv_getr dX12_knownHouse_46 fl_X12_43 (by first | rfl | assumption) rfl (by first | rfl | assumption) ?_
            refine hv_iload_n dX12_knownHouse_49 rfl ?_
            refine hv_iald dX12_knownHouse_50 (by first | rfl | assumption) (j := i) rfl (by omega) (by first | decide | assumption) ?_
            refine hv_if_lt (tgt := 61) dX12_knownHouse_51 (by decide) (fun c_51 => absurd c_51 ((by rw [e73']; exact nI_pos (by omega)))) (fun c_51 => ?_)
            refine hv_aload_n dX12_knownHouse_54 rfl ?_
            refine hv_getr dX12_knownHouse_55 fl_X12_43 (by first | rfl | assumption) rfl (by first | rfl | assumption) ?_
            refine hv_iload_n dX12_knownHouse_58 rfl ?_
            refine hv_iald dX12_knownHouse_59 (by first | rfl | assumption) (j := i) rfl (by omega) (by first | decide | assumption) ?_
            rw [e73']
            refine hv_iret dX12_knownHouse_60 rfl ?_
            exact ret (some j) g σ1 a1 (kM_tr a2 kM_rf (Y := []) (by decide) (by decide)) a3 g1 (hh.trans hst).symm (by rw [hh.trans hst]; rfl)
        · rw [if_neg (fun q => c q.1)] at hst
          refine hv_iload_n dX12_knownHouse_21 rfl ?_
          refine hv_aload_n dX12_knownHouse_22 rfl ?_
          refine hv_geti dX12_knownHouse_23 fl_X12_239 (by first | rfl | assumption) rfl ?_
          refine hv_icmp_ge (tgt := 67) dX12_knownHouse_26 (by decide) (fun c_26 => absurd c_26 ((by rw [e20]; exact nI_ge (by omega) (by omega)))) (fun c_26 => ?_)
          refine hv_aload_n dX12_knownHouse_29 rfl ?_
          refine hv_getr dX12_knownHouse_30 fl_X12_40 (by first | rfl | assumption) rfl (by first | rfl | assumption) ?_
          refine hv_iload_n dX12_knownHouse_33 rfl ?_
          refine hv_lald dX12_knownHouse_34 (by first | rfl | assumption) (j := i) rfl (by omega) (by first | decide | assumption) ?_
          refine hv_aload_n dX12_knownHouse_35 rfl ?_
          refine hv_getr dX12_knownHouse_36 fl_X12_30 (by first | rfl | assumption) rfl (by first | rfl | assumption) ?_
          refine hv_iload_n dX12_knownHouse_39 rfl ?_
          refine hv_lald dX12_knownHouse_40 (by first | rfl | assumption) (j := a) rfl (by omega) (by first | decide | assumption) ?_
          rw [m1, h70]
          refine hv_lcmp dX12_knownHouse_41 ?_
          refine hv_if_ne (tgt := 61) dX12_knownHouse_42 (by decide) (fun c_42 => ?_) (fun c_42 => absurd c_42 ((fun q => c ((pk_lEQ (by omega) (by omega)).mp ((lg_cmp_eq _ _).mp q)))))
          refine hv_iinc dX12_knownHouse_61 rfl (nI_1 i) rfl rfl ?_
          refine hv_goto (tgt := 21) dX12_knownHouse_64 (by decide) ?_
          exact ih (i + 1) (by omega) (hh.trans hst)
    refine hv_aload_n dX12_knownHouse_10 rfl ?_
    refine hv_geti dX12_knownHouse_11 fl_X12_203 (by first | rfl | assumption) rfl ?_
    refine hv_if_le (tgt := 19) dX12_knownHouse_14 (by decide) (fun c_14 => ?_) (fun c_14 => absurd ((by rw [a3.1]; decide)) c_14)
    refine hv_iconst (v := 0) dX12_knownHouse_19 (by decide) ?_
    refine hv_istore_n dX12_knownHouse_20 rfl rfl ?_
    exact loop (h + m) 0 (by omega) rfl
end S96

