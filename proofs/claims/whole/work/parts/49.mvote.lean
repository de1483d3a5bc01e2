abbrev m_X12_fillsVotes (Q : hPo) : hMe := (hrm 5, 0, 0, yX12_fillsVotes, cX12_fillsVotes, 2, (none : Option FieldType), shp, none, Q)
abbrev m_X12_turnsOf (Q : hPo) : hMe := (hrm 0, 0, 0, yX12_turnsOf, cX12_turnsOf, 6, (some FieldType.int), shp, none, Q)
/-- to whom the votes are given: nobody who gives his own -/
def okNC (h : Nat) (pr : Nat → Option Nat) : Prop := ∀ a j, a < h → pr a = some j → j < h ∧ pr j = none
def okXM (σ : hS) (c h : Nat) (pr : Nat → Option Nat) : Prop := okNC h pr ∧ ∀ a, a < h → σ c (28 + a) = oM (pr a)
def fVo (V : hF) (pr : Nat → Option Nat) (a : Nat) : Nat → Int32
  | 0 => V a
  | n + 1 => if pr n = some a then fVo V pr a n + V n else fVo V pr a n
theorem had_none {V : hF} {pr : Nat → Option Nat} {h a : Nat} (hp : pr a = none) : ∀ n, fHad V pr n a = (if a < n then fVo V pr a n else fVo V pr a n - V a)
  | 0 => by rw [if_neg (by omega), fVo, Int32.sub_self]; rfl
  | n + 1 => by
    have ih := had_none (V := V) (h := h) hp n
    unfold fHad fVo
    by_cases e : n = a
    · subst e
      rw [if_neg (by omega)] at ih
      rw [hp, if_pos (by omega), if_neg (by simp), Option.getD_none, pk_us, ih, Int32.sub_add_cancel]
    · by_cases c : pr n = some a
      · rw [if_pos c, c, Option.getD_some, pk_us, ih]
        by_cases c2 : a < n
        · rw [if_pos c2, if_pos (by omega)]
        · rw [if_neg c2, if_neg (by omega)]
          rw [Int32.sub_eq_add_neg, Int32.sub_eq_add_neg, Int32.add_assoc, Int32.add_assoc, Int32.add_comm (-V a)]
      · rw [if_neg c, pk_un (by
          intro q
          cases hq : pr n with
          | none => rw [hq] at q; exact e q.symm
          | some j => rw [hq] at q c; exact c (by rw [q]; rfl)), ih]
        by_cases c2 : a < n
        · rw [if_pos c2, if_pos (by omega)]
        · rw [if_neg c2, if_neg (by omega)]
theorem had_some {V : hF} {pr : Nat → Option Nat} {h a j : Nat} (hx : okNC h pr) (ha : a < h) (hp : pr a = some j) : ∀ n, n ≤ h → fHad V pr n a = 0
  | 0, _ => rfl
  | n + 1, hn => by
    unfold fHad
    rw [pk_un (by
      intro q
      cases hq : pr n with
      | none => rw [hq] at q; rw [← show a = n from q, hp] at hq; exact absurd hq (by simp)
      | some i => rw [hq] at q; rw [← show a = i from q] at hq; rw [(hx n a (by omega) hq).2] at hp; exact absurd hp (by simp))]
    exact had_some hx ha hp n (by omega)
theorem hsum_upd {f : hF} {t : Nat} {v : Int32} : ∀ n, t < n → hsum (upd f t (f t + v)) n = hsum f n + v
  | 0, hn => absurd hn (by omega)
  | n + 1, hn => by
    unfold hsum
    by_cases e : t = n
    · subst e
      rw [pk_us, hsum_congr t (fun a ha => pk_un (by omega)), Int32.add_assoc]
    · rw [pk_un (by omega), hsum_upd n (by omega), Int32.add_assoc, Int32.add_assoc, Int32.add_comm v]
theorem hsum_0 : ∀ n, hsum (fun _ => 0) n = 0
  | 0 => rfl
  | n + 1 => by rw [hsum, hsum_0 n]; rfl
theorem hsum_had {V : hF} {pr : Nat → Option Nat} {h : Nat} (hx : okNC h pr) : ∀ n, n ≤ h → hsum (fHad V pr n) h = hsum V n
  | 0, _ => hsum_0 h
  | n + 1, hn => by
    unfold fHad
    rw [hsum_upd _ (by
      cases hq : pr n with
      | none => show n < h; omega
      | some j => exact (hx n j (by omega) hq).1), hsum_had hx n (by omega)]
    rfl
theorem had_congr {V W : hF} {pr : Nat → Option Nat} : ∀ n, (∀ a, a < n → V a = W a) → ∀ a, fHad V pr n a = fHad W pr n a
  | 0, _, _ => rfl
  | n + 1, hq, a => by
    unfold fHad
    have ih := had_congr (pr := pr) n (fun a ha => hq a (by omega))
    rw [hq n (by omega), ih]
    by_cases c : a = (pr n).getD n
    · rw [c, pk_us, pk_us]
    · rw [pk_un c, pk_un c, ih a]
theorem oM_lt {p : Option Nat} (hp : ∀ j, p = some j → j < 7) : oM p < 0 ↔ p = none := by
  cases p with
  | none => exact ⟨fun _ => rfl, fun _ => by decide⟩
  | some j => exact ⟨fun q => absurd q (nI_pos (by have := hp j rfl; omega)), fun q => absurd q (by simp)⟩
theorem oM_eq {p : Option Nat} {a : Nat} (hp : ∀ j, p = some j → j < 7) (ha : a < 7) : oM p = nI a ↔ p = some a := by
  cases p with
  | none => exact ⟨fun q => absurd (show nI a < 0 by rw [← show oM none = nI a from q]; decide) (nI_pos (by omega)), fun q => absurd q (by simp)⟩
  | some j =>
    have hj := hp j rfl
    refine ⟨fun q => by rw [(nI_eq (by omega) (by omega)).mp (show nI j = nI a from q)], fun q => ?_⟩
    rw [Option.some.inj q]; rfl
section S49
variable {G : hGl} {σ : hS} {τ : hT} {x y : Option Nat}
theorem d_votesOf {L h a : Nat} {LF : Nat → hF → Int32} {V : hF} {pr : Nat → Option Nat} (ok : okT σ L h LF) (hvv : V = fVotes (twM σ L h LF) (dyM σ 99) (hsum (fun a => σ 99 (0 + a)) 7)) (hx : okXM σ 99 h pr) (ha : a < h) : hCal G (m_X12_votesOf (hQp xLw (some (.int (fHad V pr h a))) (rr 38 51 x y) σ τ (fun σ' => ∀ j, j ≠ 50 → σ' 64 j = σ 64 j))) [.ref (hgA G 64), .int (nI a)] shp (rr 38 51 x y) σ τ := by
  have k2 := ok.2.2.2.1
  have hL2 := ok.2.1
  have h7 : ∀ b, b < h → ∀ j, pr b = some j → j < 7 := fun b hb j hj => by have := (hx.1 b j hb hj).1; omega
  have call : ∀ {b : Nat} {σ' : hS}, b < h → (∀ c, c ∉ xLw → σ' c = σ c) → (∀ j, j ≠ 50 → σ' 64 j = σ 64 j) → hCal G (m_X12_ownVotes (hQp xLw (some (.int (V b))) (rr 38 51 x y) σ' τ (fun σ2 => ∀ j, j ≠ 50 → σ2 64 j = σ' 64 j))) [.ref (hgA G 64), .int (nI b)] shp (rr 38 51 x y) σ' τ := by
    intro b σ' hb q q64
    have hc := d_ownVotes (G := G) (σ := σ') (τ := τ) (x := x) (y := y) (a := b) (okT_of ok q rfl (q64 18 (by decide))) (by omega)
    rw [twM_of q rfl, show dyM σ' 99 = dyM σ 99 by unfold dyM; rw [q 99 (by decide)], q 99 (by decide), ← hvv] at hc
    exact hc
  refine hv_enter pn_X12 rfl ?_
  have loop : ∀ k i (σ' : hS) (s : Int32), i + k = h → s = fVo V pr a i → pr a = none → (∀ c, c ∉ xLw → σ' c = σ c) → (∀ j, j ≠ 50 → σ' 64 j = σ 64 j) → hV G (m_X12_votesOf (hQp xLw (some (.int (fHad V pr h a))) (rr 38 51 x y) σ τ (fun σ' => ∀ j, j ≠ 50 → σ' 64 j = σ 64 j))) 0 0 shp 22 [some (.ref (hgA G 64)), some (.int (nI a)), some (.int s), some (.int (nI i))] [] (rr 38 51 x y) σ' τ := by
    intro k
    induction k with
    | zero =>
      intro i σ' s hi hs hp hσ h64
      obtain rfl : i = h := by omega
      refine hv_iload_n dX12_votesOf_22 rfl ?_
      refine hv_aload_n dX12_votesOf_23 rfl ?_
      refine hv_getr dX12_votesOf_24 fl_X12_46 (by first | rfl | assumption) rfl (by first | rfl | assumption) ?_
      refine hv_aload_n dX12_votesOf_27 rfl ?_
      refine hv_geti dX12_votesOf_28 fl_X12_233 (by first | rfl | assumption) rfl ?_
      refine hv_iald dX12_votesOf_31 (by first | rfl | assumption) (j := L) ((h64 18 (by decide)).trans ok.1) (by omega) (by first | decide | assumption) ?_
      refine hv_icmp_ge (tgt := 62) dX12_votesOf_32 (by decide) (fun c_32 => ?_) (fun c_32 => absurd ((by rw [hσ 74 (by decide), ok.2.2.1]; exact nI_le (Nat.le_refl _) (by omega))) c_32)
      refine hv_iload_n dX12_votesOf_62 rfl ?_
      refine hv_iret dX12_votesOf_63 rfl ?_
      refine ⟨?_, rfl, rfl, hσ, h64⟩
      rw [had_none (h := i) hp, if_pos ha, hs]
    | succ k ih =>
      intro i σ' s hi hs hp hσ h64
      refine hv_iload_n dX12_votesOf_22 rfl ?_
      refine hv_aload_n dX12_votesOf_23 rfl ?_
      refine hv_getr dX12_votesOf_24 fl_X12_46 (by first | rfl | assumption) rfl (by first | rfl | assumption) ?_
      refine hv_aload_n dX12_votesOf_27 rfl ?_
      refine hv_geti dX12_votesOf_28 fl_X12_233 (by first | rfl | assumption) rfl ?_
      refine hv_iald dX12_votesOf_31 (by first | rfl | assumption) (j := L) ((h64 18 (by decide)).trans ok.1) (by omega) (by first | decide | assumption) ?_
      refine hv_icmp_ge (tgt := 62) dX12_votesOf_32 (by decide) (fun c_32 => absurd c_32 ((by rw [hσ 74 (by decide), ok.2.2.1]; exact nI_ge (by omega) (by omega)))) (fun c_32 => ?_)
      refine hv_aload_n dX12_votesOf_35 rfl ?_
      refine hv_getr dX12_votesOf_36 fl_X12_122 (by first | rfl | assumption) rfl (by first | rfl | assumption) ?_
      refine hv_bipush (v := 28) dX12_votesOf_39 (by decide) ?_
      refine hv_iload_n dX12_votesOf_41 rfl ?_
      refine hv_iadd dX12_votesOf_42 ?_
      refine hv_iald dX12_votesOf_43 (by first | rfl | assumption) (j := 28 + i) (nI_add 28 i) (by omega) (by first | decide | assumption) ?_
      refine hv_iload_n dX12_votesOf_44 rfl ?_
      rw [hσ 99 (by decide), hx.2 i (by omega)]
      refine hv_icmp_ne (tgt := 56) dX12_votesOf_45 (by decide) (fun c_45 => ?_) (fun c_45 => ?_)
      · refine hv_iinc dX12_votesOf_56 rfl (nI_1 i) rfl rfl ?_
        refine hv_goto (tgt := 22) dX12_votesOf_59 (by decide) ?_
        first
          | exact ih (i + 1) σ1 _ (by omega) (by rw [fVo, if_pos ((oM_eq (h7 i (by omega)) (by omega)).mp c_45), hs]) hp (off_tr hσ q1 (by decide) (by decide)) (fun j hj => (q2 j hj).trans (h64 j hj))
          | exact ih (i + 1) σ' s (by omega) (by rw [fVo, if_neg (fun qq => c_45 ((oM_eq (h7 i (by omega)) (by omega)).mpr qq)), hs]) hp hσ h64
      · refine hv_iload_n dX12_votesOf_48 rfl ?_
        refine hv_aload_n dX12_votesOf_49 rfl ?_
        refine hv_iload_n dX12_votesOf_50 rfl ?_
        refine hv_cv1 (call (by omega) hσ h64) dX12_votesOf_51 ml_X12_367 mk_X12_ownVotes (by first | rfl | assumption) rfl rfl rfl rfl rfl ?_
        rintro _ _ σ1 _ ⟨rfl, rfl, rfl, q1, q2⟩
        refine hv_iadd dX12_votesOf_54 ?_
        refine hv_istore_n dX12_votesOf_55 rfl rfl ?_
        refine hv_iinc dX12_votesOf_56 rfl (nI_1 i) rfl rfl ?_
        refine hv_goto (tgt := 22) dX12_votesOf_59 (by decide) ?_
        first
          | exact ih (i + 1) σ1 _ (by omega) (by rw [fVo, if_pos ((oM_eq (h7 i (by omega)) (by omega)).mp c_45), hs]) hp (off_tr hσ q1 (by decide) (by decide)) (fun j hj => (q2 j hj).trans (h64 j hj))
          | exact ih (i + 1) σ' s (by omega) (by rw [fVo, if_neg (fun qq => c_45 ((oM_eq (h7 i (by omega)) (by omega)).mpr qq)), hs]) hp hσ h64
  refine hv_aload_n dX12_votesOf_0 rfl ?_
  refine hv_getr dX12_votesOf_1 fl_X12_122 (by first | rfl | assumption) rfl (by first | rfl | assumption) ?_
  refine hv_bipush (v := 28) dX12_votesOf_4 (by decide) ?_
  refine hv_iload_n dX12_votesOf_6 rfl ?_
  refine hv_iadd dX12_votesOf_7 ?_
  refine hv_iald dX12_votesOf_8 (by first | rfl | assumption) (j := 28 + a) (nI_add 28 a) (by omega) (by first | decide | assumption) ?_
  rw [hx.2 a ha]
  refine hv_if_lt (tgt := 14) dX12_votesOf_9 (by decide) (fun c_9 => ?_) (fun c_9 => ?_)
  · refine hv_aload_n dX12_votesOf_14 rfl ?_
    refine hv_iload_n dX12_votesOf_15 rfl ?_
    refine hv_cv1 (call ha (fun _ _ => rfl) (fun _ _ => rfl)) dX12_votesOf_16 ml_X12_367 mk_X12_ownVotes (by first | rfl | assumption) rfl rfl rfl rfl rfl ?_
    rintro _ _ σ1 _ ⟨rfl, rfl, rfl, q1, q2⟩
    refine hv_istore_n dX12_votesOf_19 rfl rfl ?_
    refine hv_iconst (v := 0) dX12_votesOf_20 (by decide) ?_
    refine hv_istore_n dX12_votesOf_21 rfl rfl ?_
    exact loop h 0 σ1 _ (by omega) rfl ((oM_lt (h7 a ha)).mp c_9) q1 q2
  · refine hv_iconst (v := 0) dX12_votesOf_12 (by decide) ?_
    refine hv_iret dX12_votesOf_13 rfl ?_
    refine ⟨?_, rfl, rfl, fun _ _ => rfl, fun _ _ => rfl⟩
    cases hp : pr a with
    | none => exact absurd ((oM_lt (h7 a ha)).mpr hp) c_9
    | some j => rw [had_some hx.1 ha hp h (Nat.le_refl _)]
theorem d_fillsVotes {L h : Nat} {LF : Nat → hF → Int32} {V : hF} {pr : Nat → Option Nat} (ok : okR σ L h LF) (hvv : V = fVotes (twM σ L h LF) (dyM σ 98) (hsum (dF (dyM σ 98)) h)) (hx : okXM σ 98 h pr) : hCal G (m_X12_fillsVotes (hQp xRq none (rr 38 51 x y) σ τ (fun σ' => k64 σ σ' ∧ (∀ a, a < h → σ' 104 a = fHad V pr h a) ∧ σ' 64 60 = hsum V h))) [.ref (hgA G 64)] shp (rr 38 51 x y) σ τ := by
  have k2 := ok.1.2.2.2.1
  have hL2 := ok.1.2.1
  refine hv_enter pn_X12 rfl ?_
  have loop : ∀ k i (σ' : hS), i + k = h → (∀ c, c ∉ xRq → σ' c = σ c) → k64 σ σ' → (∀ j, j < 37 → σ' 99 j = σ 98 j) → okZ σ' 99 h → (∀ a, a < i → σ' 104 a = fHad V pr h a) → σ' 64 60 = hsum (fHad V pr h) i → hV G (m_X12_fillsVotes (hQp xRq none (rr 38 51 x y) σ τ (fun σ' => k64 σ σ' ∧ (∀ a, a < h → σ' 104 a = fHad V pr h a) ∧ σ' 64 60 = hsum V h))) 0 0 shp 11 [some (.ref (hgA G 64)), some (.int (nI i))] [] (rr 38 51 x y) σ' τ := by
    intro k
    induction k with
    | zero =>
      intro i σ' hi hσ h64 h99 hz h1 h2
      obtain rfl : i = h := by omega
      refine hv_iload_n dX12_fillsVotes_11 rfl ?_
      refine hv_aload_n dX12_fillsVotes_12 rfl ?_
      refine hv_getr dX12_fillsVotes_13 fl_X12_46 (by first | rfl | assumption) rfl (by first | rfl | assumption) ?_
      refine hv_aload_n dX12_fillsVotes_16 rfl ?_
      refine hv_geti dX12_fillsVotes_17 fl_X12_233 (by first | rfl | assumption) rfl ?_
      refine hv_iald dX12_fillsVotes_20 (by first | rfl | assumption) (j := L) ((h64 18 (by decide) (by decide) (by decide)).trans ok.1.1) (by omega) (by first | decide | assumption) ?_
      refine hv_icmp_ge (tgt := 56) dX12_fillsVotes_21 (by decide) (fun c_21 => ?_) (fun c_21 => absurd ((by rw [hσ 74 (by decide), ok.1.2.2.1]; exact nI_le (Nat.le_refl _) (by omega))) c_21)
      refine hv_vret dX12_fillsVotes_56 rfl ?_
      refine ⟨rfl, rfl, rfl, hσ, h64, h1, ?_⟩
      rw [h2, hsum_had hx.1 i (Nat.le_refl _)]
    | succ k ih =>
      intro i σ' hi hσ h64 h99 hz h1 h2
      have okt : okT σ' L h LF := okT_of ok.1 hσ rfl (h64 18 (by decide) (by decide) (by decide))
      have hd7 : dEq h (dyM σ' 99) (dyM σ 98) := ⟨fun a ha => ⟨h99 a (by omega), h99 _ (by omega), h99 _ (by omega), h99 _ (by omega), by show dPx _ = dPx _; rw [h99 _ (by omega)]⟩, h99 36 (by omega), h99 35 (by omega)⟩
      have hxx : okXM σ' 99 h pr := ⟨hx.1, fun a ha => by rw [h99 _ (by omega)]; exact hx.2 a ha⟩
      obtain ⟨W, hW⟩ : ∃ W, fVotes (twM σ' L h LF) (dyM σ' 99) (hsum (fun a => σ' 99 (0 + a)) 7) = W := ⟨_, rfl⟩
      have hWV : fHad W pr h i = fHad V pr h i := had_congr h (fun a ha => by
        rw [← hW, hvv, twM_of hσ rfl, hsum_M k2 hz, hsum_congr h (fun a ha => (hd7.1 a ha).1)]
        exact fVotes_congr (tEqM ok.1) hd7 ha) i
      refine hv_iload_n dX12_fillsVotes_11 rfl ?_
      refine hv_aload_n dX12_fillsVotes_12 rfl ?_
      refine hv_getr dX12_fillsVotes_13 fl_X12_46 (by first | rfl | assumption) rfl (by first | rfl | assumption) ?_
      refine hv_aload_n dX12_fillsVotes_16 rfl ?_
      refine hv_geti dX12_fillsVotes_17 fl_X12_233 (by first | rfl | assumption) rfl ?_
      refine hv_iald dX12_fillsVotes_20 (by first | rfl | assumption) (j := L) ((h64 18 (by decide) (by decide) (by decide)).trans ok.1.1) (by omega) (by first | decide | assumption) ?_
      refine hv_icmp_ge (tgt := 56) dX12_fillsVotes_21 (by decide) (fun c_21 => absurd c_21 ((by rw [hσ 74 (by decide), ok.1.2.2.1]; exact nI_ge (by omega) (by omega)))) (fun c_21 => ?_)
      refine hv_aload_n dX12_fillsVotes_24 rfl ?_
      refine hv_getr dX12_fillsVotes_25 fl_X12_137 (by first | rfl | assumption) rfl (by first | rfl | assumption) ?_
      refine hv_iload_n dX12_fillsVotes_28 rfl ?_
      refine hv_aload_n dX12_fillsVotes_29 rfl ?_
      refine hv_iload_n dX12_fillsVotes_30 rfl ?_
      refine hv_cv1 (d_votesOf okt hW.symm hxx (by omega)) dX12_fillsVotes_31 ml_X12_376 mk_X12_votesOf (by first | rfl | assumption) rfl rfl rfl rfl rfl ?_
      rintro _ _ σ1 _ ⟨rfl, rfl, rfl, q1, q2⟩
      rw [hWV]
      refine hv_iast dX12_fillsVotes_34 (by first | rfl | assumption) rfl (by first | assumption | omega) (by first | decide | assumption) ?_
      refine hv_aload_n dX12_fillsVotes_35 rfl ?_
      refine hv_dup dX12_fillsVotes_36 rfl ?_
      refine hv_geti dX12_fillsVotes_37 fl_X12_407 (by first | rfl | assumption) rfl ?_
      refine hv_aload_n dX12_fillsVotes_40 rfl ?_
      refine hv_getr dX12_fillsVotes_41 fl_X12_137 (by first | rfl | assumption) rfl (by first | rfl | assumption) ?_
      refine hv_iload_n dX12_fillsVotes_44 rfl ?_
      refine hv_iald dX12_fillsVotes_45 (by first | rfl | assumption) rfl (by first | assumption | omega) (by first | decide | assumption) ?_
      rw [hup_eq, pk_us, hva_ne (show 64 ≠ 104 by decide), q2 60 (by decide), h2]
      refine hv_iadd dX12_fillsVotes_46 ?_
      refine hv_puti dX12_fillsVotes_47 fl_X12_407 (by first | rfl | assumption) rfl rfl rfl ?_
      refine hv_iinc dX12_fillsVotes_50 rfl (nI_1 i) rfl rfl ?_
      refine hv_goto (tgt := 11) dX12_fillsVotes_53 (by decide) ?_
      refine ih (i + 1) _ (by omega) (off_up (off_up (off_tr hσ q1 (Z := xRq) (by decide) (by decide)) (by decide)) (by decide)) (fun j j1 j2 j3 => ?_) (fun j hj => ?_) ?_ (fun a ha => ?_) ?_
      · rw [hup_eq, pk_un j3, hva_ne (by decide), q2 j j1]; exact h64 j j1 j2 j3
      · rw [hva_ne (by decide), hva_ne (by decide), q1 99 (by decide)]; exact h99 j hj
      · unfold okZ; rw [hva_ne (by decide), hva_ne (by decide), q1 99 (by decide)]; exact hz
      · rw [hva_ne (by decide), hup_eq]
        exact upd_lt (fun a ha => by rw [q1 104 (by decide)]; exact h1 a ha) rfl a ha
      · rw [hup_eq, pk_us]; rfl
  refine hv_aload_n dX12_fillsVotes_0 rfl ?_
  refine hv_cv0 (d_copies ok.1.1 ok.1.2.1) dX12_fillsVotes_1 ml_X12_373 mk_X12_copies (by first | rfl | assumption) rfl rfl rfl rfl rfl ?_
  rintro _ _ σ1 _ ⟨rfl, rfl, rfl, q1, q2, q3⟩
  obtain ⟨c1, c2, c3, c4, c5, c6, c7, c8⟩ := cp_of ok q1 q2 q3
  refine hv_aload_n dX12_fillsVotes_4 rfl ?_
  refine hv_iconst (v := 0) dX12_fillsVotes_5 (by decide) ?_
  refine hv_puti dX12_fillsVotes_6 fl_X12_407 (by first | rfl | assumption) rfl rfl rfl ?_
  refine hv_iconst (v := 0) dX12_fillsVotes_9 (by decide) ?_
  refine hv_istore_n dX12_fillsVotes_10 rfl rfl ?_
  refine loop h 0 _ (by omega) (off_up (off_wk q1 (by decide)) (by decide)) (fun j j1 j2 j3 => ?_) (fun j hj => ?_) ?_ (fun a ha => absurd ha (by omega)) ?_
  · rw [hup_eq, pk_un j3]; exact c7 j j2
  · rw [hva_ne (by decide)]; exact q3 j hj
  · unfold okZ; rw [hva_ne (by decide)]; exact c2
  · rw [hup_eq, pk_us]; rfl
end S49

