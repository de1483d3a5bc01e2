abbrev m_X12_bounded (Q : hPo) : hMe := (hrm 2, 0, 0, yX12_bounded, cX12_bounded, 4, (some FieldType.int), shp, none, Q)
abbrev m_X12_roomFor (Q : hPo) : hMe := (hrm 2, 0, 0, yX12_roomFor, cX12_roomFor, 3, (none : Option FieldType), shp, none, Q)
abbrev m_X12_toldInt (Q : hPo) : hMe := (hrm 3, 0, 0, yX12_toldInt, cX12_toldInt, 4, (some FieldType.int), shp, none, Q)
abbrev m_X12_named (Q : hPo) : hMe := (hrm 3, 0, 0, yX12_named, cX12_named, 3, (some FieldType.int), shp, none, Q)
abbrev m_X12_ends (Q : hPo) : hMe := (hrm 3, 0, 0, yX12_ends, cX12_ends, 3, (none : Option FieldType), shp, none, Q)
abbrev m_X12_knownHouse (Q : hPo) : hMe := (hrm 3, 0, 0, yX12_knownHouse, cX12_knownHouse, 3, (some FieldType.int), shp, none, Q)
theorem tq_mono {f : hF} {n i j : Nat} (h : i < j) (hr : rel f n j) : tq f n i < tq f n j := by
  induction j with
  | zero => omega
  | succ j ih =>
    have hk := hr.2 j (by omega)
    have hn : tq f n j < n := by
      refine Classical.byContradiction (fun q => hk.1 ?_)
      unfold kd; rw [if_neg q]
    have h1 := tq_lt hn
    by_cases e : i = j
    · rw [e]; exact h1
    · have h2 := ih (by omega) ⟨by have := hr.1; omega, fun q hq => hr.2 q (by omega)⟩
      omega
/-- the first thing that is wrong in the text, if any -/
def wSt (f : hF) (n : Nat) : Option (Nat × Nat) → hS → Prop
  | none, σ => σ 64 15 = 0
  | some (k, t), σ => σ 64 15 = nI k ∧ (k = 3 ∨ k = 4 ∨ k = 5) ∧ σ 64 16 = nI (tq f n t)
theorem wSt_of {f : hF} {n : Nat} {g : Option (Nat × Nat)} {σ σ' : hS} (h : wSt f n g σ) (h1 : σ' 64 15 = σ 64 15) (h2 : σ' 64 16 = σ 64 16) : wSt f n g σ' := by
  rcases g with _ | ⟨k, t⟩
  · exact h1.trans h
  · exact ⟨h1.trans h.1, h.2.1, h2.trans h.2.2⟩
section S95
variable {G : hGl} {σ : hS} {τ : hT} {x y : Option Nat}
theorem d_wrong {f : hF} {n k t : Nat} {g : Option (Nat × Nat)} {v : Int32} (hv : v = nI k) (hk : k = 3 ∨ k = 4 ∨ k = 5) (ht : tokM f n σ τ) (hn : n ≤ 2000) (h0 : σ 64 13 = 0) (hg : wSt f n g σ) (hr : rel f n t) (ho : ∀ k0 t0, g = some (k0, t0) → t0 < t ∨ (t0 = t ∧ k0 = k)) : hCal G (m_X12_wrong (hQp [64] none (rr 38 51 x y) σ τ (fun σ' => kM [15, 16] σ σ' ∧ wSt f n (orE g (k, t)) σ'))) [.ref (hgA G 64), .int v, .int (nI t)] shp (rr 38 51 x y) σ τ := by
  subst hv
  have h68 := (ht t hr).2.1
  have htl := tq_le (f := f) (n := n) t
  have hr1 := hr.1
  refine hv_enter pn_X12 rfl ?_
  rcases g with _ | ⟨k0, t0⟩
  · have hg' : σ 64 15 = 0 := hg
    refine hv_aload_n dX12_wrong_0 rfl ?_
    refine hv_getr dX12_wrong_1 fl_X12_24 (by first | rfl | assumption) rfl (by first | rfl | assumption) ?_
    refine hv_iload_n dX12_wrong_4 rfl ?_
    refine hv_iald dX12_wrong_5 (by first | rfl | assumption) (j := t) rfl (by omega) (by first | decide | assumption) ?_
    rw [h68]
    refine hv_istore_n dX12_wrong_6 rfl rfl ?_
    refine hv_aload_n dX12_wrong_7 rfl ?_
    refine hv_geti dX12_wrong_8 fl_X12_203 (by first | rfl | assumption) rfl ?_
    refine hv_if_gt (tgt := 45) dX12_wrong_11 (by decide) (fun c_11 => absurd c_11 ((by rw [h0]; decide))) (fun c_11 => ?_)
    refine hv_aload_n dX12_wrong_14 rfl ?_
    refine hv_geti dX12_wrong_15 fl_X12_212 (by first | rfl | assumption) rfl ?_
    refine hv_if_eq (tgt := 46) dX12_wrong_18 (by decide) (fun c_18 => ?_) (fun c_18 => absurd (hg') c_18)
    refine hv_aload_n dX12_wrong_46 rfl ?_
    refine hv_iload_n dX12_wrong_47 rfl ?_
    refine hv_puti dX12_wrong_48 fl_X12_212 (by first | rfl | assumption) rfl rfl rfl ?_
    refine hv_aload_n dX12_wrong_51 rfl ?_
    refine hv_iload_n dX12_wrong_52 rfl ?_
    refine hv_puti dX12_wrong_53 fl_X12_215 (by first | rfl | assumption) rfl rfl rfl ?_
    refine hv_vret dX12_wrong_56 rfl ?_
    refine ⟨rfl, rfl, rfl, off_up (off_up (fun _ _ => rfl) (by decide)) (by decide), kM_tr (kM_up (X := [15, 16]) (by decide)) (kM_up (X := [15, 16]) (by decide)) (by decide) (by decide), ?_, hk, ?_⟩
    · rw [hup_eq, pk_un (by decide), hup_eq, pk_us]
    · rw [hup_eq, pk_us]
  · obtain ⟨g1, g2, g3⟩ := hg
    have hne : ¬ σ 64 15 = 0 := by rw [g1]; exact nI_ne0 (by omega) (by omega)
    rcases ho k0 t0 rfl with q | ⟨q1, q2⟩
    · have hm := tq_mono q hr
      refine hv_aload_n dX12_wrong_0 rfl ?_
      refine hv_getr dX12_wrong_1 fl_X12_24 (by first | rfl | assumption) rfl (by first | rfl | assumption) ?_
      refine hv_iload_n dX12_wrong_4 rfl ?_
      refine hv_iald dX12_wrong_5 (by first | rfl | assumption) (j := t) rfl (by omega) (by first | decide | assumption) ?_
      rw [h68]
      refine hv_istore_n dX12_wrong_6 rfl rfl ?_
      refine hv_aload_n dX12_wrong_7 rfl ?_
      refine hv_geti dX12_wrong_8 fl_X12_203 (by first | rfl | assumption) rfl ?_
      refine hv_if_gt (tgt := 45) dX12_wrong_11 (by decide) (fun c_11 => absurd c_11 ((by rw [h0]; decide))) (fun c_11 => ?_)
      refine hv_aload_n dX12_wrong_14 rfl ?_
      refine hv_geti dX12_wrong_15 fl_X12_212 (by first | rfl | assumption) rfl ?_
      refine hv_if_eq (tgt := 46) dX12_wrong_18 (by decide) (fun c_18 => absurd c_18 (hne)) (fun c_18 => ?_)
      refine hv_iload_n dX12_wrong_21 rfl ?_
      refine hv_aload_n dX12_wrong_22 rfl ?_
      refine hv_geti dX12_wrong_23 fl_X12_215 (by first | rfl | assumption) rfl ?_
      refine hv_icmp_gt (tgt := 45) dX12_wrong_26 (by decide) (fun c_26 => ?_) (fun c_26 => absurd ((by rw [g3]; exact nI_lt hm (by omega))) c_26)
      refine hv_vret dX12_wrong_45 rfl ?_
      exact ⟨rfl, rfl, rfl, fun _ _ => rfl, kM_rf, g1, g2, g3⟩
    · subst q1; subst q2
      refine hv_aload_n dX12_wrong_0 rfl ?_
      refine hv_getr dX12_wrong_1 fl_X12_24 (by first | rfl | assumption) rfl (by first | rfl | assumption) ?_
      refine hv_iload_n dX12_wrong_4 rfl ?_
      refine hv_iald dX12_wrong_5 (by first | rfl | assumption) (j := t0) rfl (by omega) (by first | decide | assumption) ?_
      rw [h68]
      refine hv_istore_n dX12_wrong_6 rfl rfl ?_
      refine hv_aload_n dX12_wrong_7 rfl ?_
      refine hv_geti dX12_wrong_8 fl_X12_203 (by first | rfl | assumption) rfl ?_
      refine hv_if_gt (tgt := 45) dX12_wrong_11 (by decide) (fun c_11 => absurd c_11 ((by rw [h0]; decide))) (fun c_11 => ?_)
      refine hv_aload_n dX12_wrong_14 rfl ?_
      refine hv_geti dX12_wrong_15 fl_X12_212 (by first | rfl | assumption) rfl ?_
      refine hv_if_eq (tgt := 46) dX12_wrong_18 (by decide) (fun c_18 => absurd c_18 (hne)) (fun c_18 => ?_)
      refine hv_iload_n dX12_wrong_21 rfl ?_
      refine hv_aload_n dX12_wrong_22 rfl ?_
      refine hv_geti dX12_wrong_23 fl_X12_215 (by first | rfl | assumption) rfl ?_
      refine hv_icmp_gt (tgt := 45) dX12_wrong_26 (by decide) (fun c_26 => absurd c_26 ((by rw [g3]; exact Int32.lt_irrefl))) (fun c_26 => ?_)
      refine hv_iload_n dX12_wrong_29 rfl ?_
      refine hv_aload_n dX12_wrong_30 rfl ?_
      refine hv_geti dX12_wrong_31 fl_X12_215 (by first | rfl | assumption) rfl ?_
      refine hv_icmp_ne (tgt := 46) dX12_wrong_34 (by decide) (fun c_34 => absurd ((by rw [g3])) c_34) (fun c_34 => ?_)
      refine hv_iload_n dX12_wrong_37 rfl ?_
      refine hv_aload_n dX12_wrong_38 rfl ?_
      refine hv_geti dX12_wrong_39 fl_X12_212 (by first | rfl | assumption) rfl ?_
      refine hv_icmp_lt (tgt := 46) dX12_wrong_42 (by decide) (fun c_42 => absurd c_42 ((by rw [g1]; exact Int32.lt_irrefl))) (fun c_42 => ?_)
      refine hv_vret dX12_wrong_45 rfl ?_
      exact ⟨rfl, rfl, rfl, fun _ _ => rfl, kM_rf, g1, g2, g3⟩
/-- a number of the text that may be too big -/
def bG (K V : Nat → Nat) (M : Nat) (s : hPR Unit) (g : Option (Nat × Nat)) : Option (Nat × Nat) := match s with
  | .inl _ => g
  | .inr (a, _) => if K a = 24 ∧ M < V a then orE g (5, a) else g
/-- what was wrong stands before what comes next -/
def bef (s : hPR Unit) (g : Option (Nat × Nat)) : Prop := ∀ k t, g = some (k, t) → ∀ a u, s = .inr (a, u) → t < a
def pBd (f : hF) (n M : Nat) (s : hPR Unit) (g : Option (Nat × Nat)) (r : hR) (σ : hS) (τ : hT) : hPo := fun v' r' σ' τ' => ∃ v, v' = some (.int v) ∧ r' = r ∧ τ' = τ ∧ (∀ k, k ∉ [64] → σ' k = σ k) ∧ kM [11, 13, 14, 15, 16] σ σ' ∧ mSt f n (bd s (fun a _ => tk (kd f n) 24 a)) σ' ∧ wSt f n (bG (kd f n) (vl f n) M s g) σ' ∧ ∀ a u, s = .inr (a, u) → kd f n a = 24 → v = nI (vl f n a)
theorem d_bounded {f : hF} {n M : Nat} {s : hPR Unit} {g : Option (Nat × Nat)} {v : Int32} (hv : v = nI M) (hM : M ≤ 9999) (ht : tokM f n σ τ) (hn : n ≤ 2000) (hs : mSt f n s σ) (hg : wSt f n g σ) (hb : bef s g) : hCal G (m_X12_bounded (pBd f n M s g (rr 38 51 x y) σ τ)) [.ref (hgA G 64), .int 0, .int v] shp (rr 38 51 x y) σ τ := by
  subst hv
  refine hv_enter pn_X12 rfl ?_
  rcases s with e | ⟨a, u⟩
  · have hs' := hs
    obtain ⟨z, t⟩ := e
    obtain ⟨h1, h2, h3⟩ := hs
    refine hv_aload_n dX12_bounded_0 rfl ?_
    refine hv_geti dX12_bounded_1 fl_X12_203 (by first | rfl | assumption) rfl ?_
    refine hv_if_gt (tgt := 15) dX12_bounded_4 (by decide) (fun c_4 => ?_) (fun c_4 => absurd ((by rw [h1]; rcases h2 with q | q <;> rw [q] <;> decide)) c_4)
    refine hv_aload_n dX12_bounded_15 rfl ?_
    refine hv_iconst (v := 1) dX12_bounded_16 (by decide) ?_
    refine hv_cv1 (d_fail (k := 1) rfl (Or.inl rfl) ht hs') dX12_bounded_17 ml_X12_218 mk_X12_fail (by first | rfl | assumption) rfl rfl rfl rfl rfl ?_
    rintro _ _ σ1 _ ⟨rfl, rfl, rfl, a1, a2, a3⟩
    refine hv_iload_n dX12_bounded_20 rfl ?_
    refine hv_iret dX12_bounded_21 rfl ?_
    exact ⟨0, rfl, rfl, rfl, a1, kM_tr a2 kM_rf (Y := []) (by decide) (by decide), a3, wSt_of hg (a2 15 (by decide)) (a2 16 (by decide)), fun a u q => (nomatch q)⟩
  · have hs' := hs
    obtain ⟨h1, h2, h3⟩ := hs
    have ha := h3.1
    by_cases k24 : kd f n a = 24
    · have hvl := (kd_int k24).2
      have h69 := (ht a h3).2.2.1 k24
      have etk : tk (kd f n) 24 a = pass a := if_pos k24
      by_cases c : M < vl f n a
      · have eg : bG (kd f n) (vl f n) M (.inr (a, u)) g = orE g (5, a) := if_pos ⟨k24, c⟩
        refine hv_aload_n dX12_bounded_0 rfl ?_
        refine hv_geti dX12_bounded_1 fl_X12_203 (by first | rfl | assumption) rfl ?_
        refine hv_if_gt (tgt := 15) dX12_bounded_4 (by decide) (fun c_4 => absurd c_4 ((by rw [h1]; decide))) (fun c_4 => ?_)
        refine hv_aload_n dX12_bounded_7 rfl ?_
        refine hv_iconst (v := 2) dX12_bounded_8 (by decide) ?_
        refine hv_cv1 (d_is (k := 24) (by decide) (by decide) ht hs') dX12_bounded_9 ml_X12_221 mk_X12_is (by first | rfl | assumption) rfl rfl rfl rfl rfl ?_
        rintro _ _ _ _ ⟨rfl, rfl, rfl, rfl⟩
        rw [isM_t k24]
        refine hv_if_ne (tgt := 22) dX12_bounded_12 (by decide) (fun c_12 => ?_) (fun c_12 => absurd c_12 ((show ¬ bI true = 0 by decide)))
        refine hv_aload_n dX12_bounded_22 rfl ?_
        refine hv_getr dX12_bounded_23 fl_X12_27 (by first | rfl | assumption) rfl (by first | rfl | assumption) ?_
        refine hv_aload_n dX12_bounded_26 rfl ?_
        refine hv_geti dX12_bounded_27 fl_X12_206 (by first | rfl | assumption) rfl ?_
        refine hv_iald dX12_bounded_30 (by first | rfl | assumption) (j := a) h2 (by omega) (by first | decide | assumption) ?_
        rw [h69]
        refine hv_istore_n dX12_bounded_31 rfl rfl ?_
        refine hv_iload_n dX12_bounded_32 rfl ?_
        refine hv_iload_n dX12_bounded_33 rfl ?_
        refine hv_icmp_lt (tgt := 42) dX12_bounded_34 (by decide) (fun c_34 => absurd c_34 ((nI_pos (by omega)))) (fun c_34 => ?_)
        refine hv_iload_n dX12_bounded_37 rfl ?_
        refine hv_iload_n dX12_bounded_38 rfl ?_
        refine hv_icmp_le (tgt := 51) dX12_bounded_39 (by decide) (fun c_39 => absurd c_39 ((nI_ge c (by omega)))) (fun c_39 => ?_)
        refine hv_aload_n dX12_bounded_42 rfl ?_
        refine hv_iconst (v := 5) dX12_bounded_43 (by decide) ?_
        refine hv_aload_n dX12_bounded_44 rfl ?_
        refine hv_geti dX12_bounded_45 fl_X12_206 (by first | rfl | assumption) rfl ?_
        rw [h2]
        refine hv_cv2 (d_wrong (k := 5) (g := g) rfl (Or.inr (Or.inr rfl)) ht hn h1 hg h3 (fun k0 t0 q => Or.inl (hb k0 t0 q a u rfl))) dX12_bounded_48 ml_X12_283 mk_X12_wrong (by first | rfl | assumption) rfl rfl rfl rfl rfl ?_
        rintro _ _ σ1 _ ⟨rfl, rfl, rfl, a1, a2, a3⟩
        refine hv_aload_n dX12_bounded_51 rfl ?_
        refine hv_cv0 (d_goesOn (s := .inr (a, u)) (tokM_of ht a1 rfl) (mSt_of hs' (a2 11 (by decide)) (a2 13 (by decide)) (a2 14 (by decide))) (fun b w q => by cases q; omega)) dX12_bounded_52 ml_X12_224 mk_X12_goesOn (by first | rfl | assumption) rfl rfl rfl rfl rfl ?_
        rintro _ _ σ2 _ ⟨rfl, rfl, rfl, b1, b2, b3⟩
        refine hv_iload_n dX12_bounded_55 rfl ?_
        refine hv_iret dX12_bounded_56 rfl ?_
        refine ⟨_, rfl, rfl, rfl, off_tr a1 b1 (by decide) (by decide), kM_tr a2 b2 (by decide) (by decide), ?_, ?_, fun a' u' q _ => by cases q; rfl⟩
        · show mSt f n (tk (kd f n) 24 a) σ2; rw [etk]; exact b3
        · rw [eg]; exact wSt_of a3 (b2 15 (by decide)) (b2 16 (by decide))
      · have eg : bG (kd f n) (vl f n) M (.inr (a, u)) g = g := if_neg (fun q => c q.2)
        refine hv_aload_n dX12_bounded_0 rfl ?_
        refine hv_geti dX12_bounded_1 fl_X12_203 (by first | rfl | assumption) rfl ?_
        refine hv_if_gt (tgt := 15) dX12_bounded_4 (by decide) (fun c_4 => absurd c_4 ((by rw [h1]; decide))) (fun c_4 => ?_)
        refine hv_aload_n dX12_bounded_7 rfl ?_
        refine hv_iconst (v := 2) dX12_bounded_8 (by decide) ?_
        refine hv_cv1 (d_is (k := 24) (by decide) (by decide) ht hs') dX12_bounded_9 ml_X12_221 mk_X12_is (by first | rfl | assumption) rfl rfl rfl rfl rfl ?_
        rintro _ _ _ _ ⟨rfl, rfl, rfl, rfl⟩
        rw [isM_t k24]
        refine hv_if_ne (tgt := 22) dX12_bounded_12 (by decide) (fun c_12 => ?_) (fun c_12 => absurd c_12 ((show ¬ bI true = 0 by decide)))
        refine hv_aload_n dX12_bounded_22 rfl ?_
        refine hv_getr dX12_bounded_23 fl_X12_27 (by first | rfl | assumption) rfl (by first | rfl | assumption) ?_
        refine hv_aload_n dX12_bounded_26 rfl ?_
        refine hv_geti dX12_bounded_27 fl_X12_206 (by first | rfl | assumption) rfl ?_
        refine hv_iald dX12_bounded_30 (by first | rfl | assumption) (j := a) h2 (by omega) (by first | decide | assumption) ?_
        rw [h69]
        refine hv_istore_n dX12_bounded_31 rfl rfl ?_
        refine hv_iload_n dX12_bounded_32 rfl ?_
        refine hv_iload_n dX12_bounded_33 rfl ?_
        refine hv_icmp_lt (tgt := 42) dX12_bounded_34 (by decide) (fun c_34 => absurd c_34 ((nI_pos (by omega)))) (fun c_34 => ?_)
        refine hv_iload_n dX12_bounded_37 rfl ?_
        refine hv_iload_n dX12_bounded_38 rfl ?_
        refine hv_icmp_le (tgt := 51) dX12_bounded_39 (by decide) (fun c_39 => ?_) (fun c_39 => absurd ((nI_le (by omega) (by omega))) c_39)
        refine hv_aload_n dX12_bounded_51 rfl ?_
        refine hv_cv0 (d_goesOn (s := .inr (a, u)) ht hs' (fun b w q => by cases q; omega)) dX12_bounded_52 ml_X12_224 mk_X12_goesOn (by first | rfl | assumption) rfl rfl rfl rfl rfl ?_
        rintro _ _ σ2 _ ⟨rfl, rfl, rfl, b1, b2, b3⟩
        refine hv_iload_n dX12_bounded_55 rfl ?_
        refine hv_iret dX12_bounded_56 rfl ?_
        refine ⟨_, rfl, rfl, rfl, b1, kM_tr b2 kM_rf (Y := []) (by decide) (by decide), ?_, ?_, fun a' u' q _ => by cases q; rfl⟩
        · show mSt f n (tk (kd f n) 24 a) σ2; rw [etk]; exact b3
        · rw [eg]; exact wSt_of hg (b2 15 (by decide)) (b2 16 (by decide))
    · have eg : bG (kd f n) (vl f n) M (.inr (a, u)) g = g := if_neg (fun q => k24 q.1)
      have etk : tk (kd f n) 24 a = .inl (1, a) := if_neg k24
      refine hv_aload_n dX12_bounded_0 rfl ?_
      refine hv_geti dX12_bounded_1 fl_X12_203 (by first | rfl | assumption) rfl ?_
      refine hv_if_gt (tgt := 15) dX12_bounded_4 (by decide) (fun c_4 => absurd c_4 ((by rw [h1]; decide))) (fun c_4 => ?_)
      refine hv_aload_n dX12_bounded_7 rfl ?_
      refine hv_iconst (v := 2) dX12_bounded_8 (by decide) ?_
      refine hv_cv1 (d_is (k := 24) (by decide) (by decide) ht hs') dX12_bounded_9 ml_X12_221 mk_X12_is (by first | rfl | assumption) rfl rfl rfl rfl rfl ?_
      rintro _ _ _ _ ⟨rfl, rfl, rfl, rfl⟩
      rw [isM_f k24]
      refine hv_if_ne (tgt := 22) dX12_bounded_12 (by decide) (fun c_12 => absurd ((show bI false = 0 by decide)) c_12) (fun c_12 => ?_)
      refine hv_aload_n dX12_bounded_15 rfl ?_
      refine hv_iconst (v := 1) dX12_bounded_16 (by decide) ?_
      refine hv_cv1 (d_fail (k := 1) rfl (Or.inl rfl) ht hs') dX12_bounded_17 ml_X12_218 mk_X12_fail (by first | rfl | assumption) rfl rfl rfl rfl rfl ?_
      rintro _ _ σ1 _ ⟨rfl, rfl, rfl, a1, a2, a3⟩
      refine hv_iload_n dX12_bounded_20 rfl ?_
      refine hv_iret dX12_bounded_21 rfl ?_
      refine ⟨0, rfl, rfl, rfl, a1, kM_tr a2 kM_rf (Y := []) (by decide) (by decide), ?_, ?_, fun a' u' q z => (by cases q; exact absurd z k24)⟩
      · show mSt f n (tk (kd f n) 24 a) σ1; rw [etk]; exact a3
      · rw [eg]; exact wSt_of hg (a2 15 (by decide)) (a2 16 (by decide))
/-- a word that has room, or none -/
def roX (c m a : Nat) : hPR Unit := if c = m then .inl (2, a) else pass a
theorem d_roomFor {f : hF} {n c m a : Nat} {u : Unit} {v w : Int32} (hv : v = nI c) (hw : w = nI m) (hc : c < 2 ^ 31) (hm : m < 2 ^ 31) (ht : tokM f n σ τ) (hs : mSt f n (.inr (a, u)) σ) (hk : kd f n a ≠ 25 ∧ kd f n a ≠ 26) : hCal G (m_X12_roomFor (hQp [64] none (rr 38 51 x y) σ τ (fun σ' => kM [11, 13, 14] σ σ' ∧ mSt f n (roX c m a) σ'))) [.ref (hgA G 64), .int v, .int w] shp (rr 38 51 x y) σ τ := by
  subst hv; subst hw
  refine hv_enter pn_X12 rfl ?_
  by_cases e : c = m
  · rw [show roX c m a = .inl (2, a) from if_pos e]
    refine hv_iload_n dX12_roomFor_0 rfl ?_
    refine hv_iload_n dX12_roomFor_1 rfl ?_
    refine hv_icmp_ne (tgt := 10) dX12_roomFor_2 (by decide) (fun c_2 => absurd ((by rw [e])) c_2) (fun c_2 => ?_)
    refine hv_aload_n dX12_roomFor_5 rfl ?_
    refine hv_iconst (v := 2) dX12_roomFor_6 (by decide) ?_
    refine hv_cv1 (d_fail (k := 2) rfl (Or.inr rfl) ht hs) dX12_roomFor_7 ml_X12_218 mk_X12_fail (by first | rfl | assumption) rfl rfl rfl rfl rfl ?_
    rintro _ _ σ1 _ ⟨rfl, rfl, rfl, a1, a2, a3⟩
    refine hv_aload_n dX12_roomFor_10 rfl ?_
    refine hv_geti dX12_roomFor_11 fl_X12_203 (by first | rfl | assumption) rfl ?_
    refine hv_if_ne (tgt := 21) dX12_roomFor_14 (by decide) (fun c_14 => ?_) (fun c_14 => absurd c_14 ((by rw [a3.1]; decide)))
    refine hv_vret dX12_roomFor_21 rfl ?_
    exact ⟨rfl, rfl, rfl, a1, kM_tr a2 kM_rf (Y := []) (by decide) (by decide), a3⟩
  · rw [show roX c m a = pass a from if_neg e]
    refine hv_iload_n dX12_roomFor_0 rfl ?_
    refine hv_iload_n dX12_roomFor_1 rfl ?_
    refine hv_icmp_ne (tgt := 10) dX12_roomFor_2 (by decide) (fun c_2 => ?_) (fun c_2 => absurd c_2 ((fun q => e ((nI_eq hc hm).mp q))))
    refine hv_aload_n dX12_roomFor_10 rfl ?_
    refine hv_geti dX12_roomFor_11 fl_X12_203 (by first | rfl | assumption) rfl ?_
    refine hv_if_ne (tgt := 21) dX12_roomFor_14 (by decide) (fun c_14 => absurd (hs.1) c_14) (fun c_14 => ?_)
    refine hv_aload_n dX12_roomFor_17 rfl ?_
    refine hv_cv0 (d_goesOn ht hs (fun b w q => by cases q; exact hk)) dX12_roomFor_18 ml_X12_224 mk_X12_goesOn (by first | rfl | assumption) rfl rfl rfl rfl rfl ?_
    rintro _ _ σ1 _ ⟨rfl, rfl, rfl, a1, a2, a3⟩
    refine hv_vret dX12_roomFor_21 rfl ?_
    exact ⟨rfl, rfl, rfl, a1, a2, a3⟩
end S95

