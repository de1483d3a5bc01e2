abbrev m_X12_priceNow (Q : hPo) : hMe := (hrm 2, 0, 0, yX12_priceNow, cX12_priceNow, 1, (some FieldType.int), shp, none, Q)
abbrev m_X12_eatsNow (Q : hPo) : hMe := (hrm 3, 0, 0, yX12_eatsNow, cX12_eatsNow, 2, (some FieldType.int), shp, none, Q)
abbrev m_X12_glutNow (Q : hPo) : hMe := (hrm 2, 0, 0, yX12_glutNow, cX12_glutNow, 2, (some FieldType.int), shp, none, Q)
abbrev m_X12_ownVotes (Q : hPo) : hMe := (hrm 3, 0, 0, yX12_ownVotes, cX12_ownVotes, 2, (some FieldType.int), shp, none, Q)
abbrev m_X12_rotsNow (Q : hPo) : hMe := (hrm 3, 0, 0, yX12_rotsNow, cX12_rotsNow, 2, (some FieldType.int), shp, none, Q)
abbrev m_X12_eatsUp (Q : hPo) : hMe := (hrm 0, 0, 0, yX12_eatsUp, cX12_eatsUp, 3, (none : Option FieldType), shp, none, Q)
def mPl (k : Nat) (v : hF) : Int32 := match k with
  | 0 => 10
  | 2 => 5
  | 3 => v 0
  | _ => 0
def okL (σ : hS) (L : Nat) (LF : Nat → hF → Int32) : Prop := hLx LF ∧ ∀ k, k < 5 → ∃ (fi la : Nat) (TF TM TT TE : Nat → Nat), σ 86 (5 * L + k) = nI fi ∧ σ 87 (5 * L + k) = nI la ∧ fi ≤ la ∧ la ≤ 260 ∧ (∀ b, fi ≤ b → b < la → okM σ TF TM TT TE b) ∧ ∀ v, (if fi = la then some (mPl k v) else mL (σ 93) (σ 94) v (σ 88) TF TM TT TE (la - fi) fi) = some (LF k v)
def dPx (z : Int32) : Int32 := if z = -2 then -1 else z
def dyM (σ : hS) (c : Nat) : hDy := (fun a => σ c a, fun a => σ c (7 + a), fun a => σ c (14 + a), fun a => σ c (21 + a), fun a => dPx (σ c (28 + a)), σ c 36, σ c 35)
def twM (σ : hS) (L h : Nat) (LF : Nat → hF → Int32) : hTw := (h, fun a => σ 77 (7 * L + a), fun a => σ 78 (7 * L + a), fun a => σ 79 (7 * L + a), σ 84 L, LF)
def okZ (σ : hS) (c h : Nat) : Prop := ∀ a, h ≤ a → a < 7 → σ c a = 0 ∧ σ c (7 + a) = 0 ∧ σ c (14 + a) = 0 ∧ σ c (21 + a) = 0
theorem hsum_z {f : hF} {h : Nat} : ∀ n, h ≤ n → (∀ a, h ≤ a → a < n → f a = 0) → hsum f n = hsum f h
  | 0, hn, _ => by rw [show h = 0 by omega]
  | n + 1, hn, hz => by
    by_cases e : h = n + 1
    · rw [e]
    · rw [hsum, hsum_z n (by omega) (fun a h1 h2 => hz a h1 (by omega)), hz n (by omega) (by omega), Int32.add_zero]
/-- the reference's town: which side is live, its houses, its laws -/
def okT (σ : hS) (L h : Nat) (LF : Nat → hF → Int32) : Prop := σ 64 18 = nI L ∧ L < 2 ∧ σ 74 L = nI h ∧ h ≤ 7 ∧ okL σ L LF
abbrev xLw : List Nat := [64, 96, 97]
section S42
variable {G : hGl} {σ : hS} {τ : hT} {x y : Option Nat}
theorem okL_of {X : List Nat} {σ' : hS} {L : Nat} {LF : Nat → hF → Int32} (hq : okL σ L LF) (hσ : ∀ k, k ∉ X → σ' k = σ k) (hX : hdj X [86, 87, 88, 89, 90, 91, 92, 93, 94] = true) : okL σ' L LF := by
  have g := hdj_at hσ hX
  refine ⟨hq.1, fun k hk => ?_⟩
  obtain ⟨fi, la, TF, TM, TT, TE, q1, q2, q3, q4, q5, q6⟩ := hq.2 k hk
  refine ⟨fi, la, TF, TM, TT, TE, by rw [g 86 (by decide)]; exact q1, by rw [g 87 (by decide)]; exact q2, q3, q4, fun b h1 h2 => ?_, fun v => ?_⟩
  · have := q5 b h1 h2
    unfold okM at this ⊢
    rw [g 88 (by decide), g 89 (by decide), g 90 (by decide), g 91 (by decide), g 92 (by decide)]
    exact this
  · rw [g 93 (by decide), g 94 (by decide), g 88 (by decide)]; exact q6 v
theorem okT_of {X : List Nat} {σ' : hS} {L h : Nat} {LF : Nat → hF → Int32} (hq : okT σ L h LF) (hσ : ∀ k, k ∉ X → σ' k = σ k) (hX : hdj X [74, 86, 87, 88, 89, 90, 91, 92, 93, 94] = true) (h18 : σ' 64 18 = σ 64 18) : okT σ' L h LF := by
  have g := hdj_at hσ hX
  refine ⟨h18.trans hq.1, hq.2.1, by rw [g 74 (by decide)]; exact hq.2.2.1, hq.2.2.2.1, okL_of hq.2.2.2.2 hσ ?_⟩
  have := List.all_eq_true.mp hX
  exact List.all_eq_true.mpr (fun c hc => this c (List.mem_cons_of_mem _ hc))
theorem d_law {L h k : Nat} {LF : Nat → hF → Int32} {v : hF} {pl : Int32} (ok : okT σ L h LF) (hk : k < 5) (hv : ∀ j, j < 9 → σ 96 j = v j) (hpl : pl = mPl k v) : hCal G (m_X12_lawTells (hQp [64, 97] (some (.int (LF k v))) (rr 38 51 x y) σ τ (fun σ' => ∀ j, j ≠ 50 → σ' 64 j = σ 64 j))) [.ref (hgA G 64), .int (nI k), .int pl] shp (rr 38 51 x y) σ τ := by
  obtain ⟨fi, la, TF, TM, TT, TE, q1, q2, q3, q4, q5, q6⟩ := ok.2.2.2.2.2 k hk
  have e : LF k v = LF k (σ 96) := ok.2.2.2.2.1 k v (σ 96) (fun j hj => (hv j hj).symm)
  have e2 : mPl k v = mPl k (σ 96) := by
    unfold mPl
    split <;> first | rfl | exact (hv 0 (by decide)).symm
  rw [e, hpl, e2]
  exact d_lawTells ok.1 ok.2.1 hk q1 q2 q3 q4 q5 (q6 (σ 96))
theorem d_looksAt {L h a : Nat} {LF : Nat → hF → Int32} (ok : okT σ L h LF) (ha : a < 7) : hCal G (m_X12_looksAt (hQp [96] none (rr 38 51 x y) σ τ (fun σ' => ∀ j, j < 9 → σ' 96 j = vHs (twM σ L h LF) (dyM σ 99) (hsum (fun a => σ 99 (0 + a)) 7) a j))) [.ref (hgA G 64), .int (nI a)] shp (rr 38 51 x y) σ τ := by
  have ixa : 7 * σ 64 18 + nI a = nI (7 * L + a) := by rw [ok.1]; exact ix7
  have hL2 := ok.2.1
  refine hv_enter pn_X12 rfl ?_
  refine hv_aload_n dX12_looksAt_0 rfl ?_
  refine hv_cv0 (d_looks) dX12_looksAt_1 ml_X12_333 mk_X12_looks (by first | rfl | assumption) rfl rfl rfl rfl rfl ?_
  rintro _ _ σ1 _ ⟨rfl, rfl, rfl, q1, q2⟩
  have e99 := q1 99 (by decide)
  have e77 := q1 77 (by decide)
  have e78 := q1 78 (by decide)
  have ix1 : 7 * σ1 64 18 + nI a = nI (7 * L + a) := by rw [q1 64 (by decide)]; exact ixa
  refine hv_aload_n dX12_looksAt_4 rfl ?_
  refine hv_getr dX12_looksAt_5 fl_X12_113 (by first | rfl | assumption) rfl (by first | rfl | assumption) ?_
  refine hv_iconst (v := 0) dX12_looksAt_8 (by decide) ?_
  refine hv_aload_n dX12_looksAt_9 rfl ?_
  refine hv_getr dX12_looksAt_10 fl_X12_122 (by first | rfl | assumption) rfl (by first | rfl | assumption) ?_
  refine hv_iload_n dX12_looksAt_13 rfl ?_
  refine hv_iald dX12_looksAt_14 (by first | rfl | assumption) rfl (by first | assumption | omega) (by first | decide | assumption) ?_
  refine hv_iast dX12_looksAt_15 (by first | rfl | assumption) (j := 0) rfl (by decide) (by first | decide | assumption) ?_
  refine hv_aload_n dX12_looksAt_16 rfl ?_
  refine hv_getr dX12_looksAt_17 fl_X12_113 (by first | rfl | assumption) rfl (by first | rfl | assumption) ?_
  refine hv_iconst (v := 3) dX12_looksAt_20 (by decide) ?_
  refine hv_aload_n dX12_looksAt_21 rfl ?_
  refine hv_getr dX12_looksAt_22 fl_X12_55 (by first | rfl | assumption) rfl (by first | rfl | assumption) ?_
  refine hv_bipush (v := 7) dX12_looksAt_25 (by decide) ?_
  refine hv_aload_n dX12_looksAt_27 rfl ?_
  refine hv_geti dX12_looksAt_28 fl_X12_233 (by first | rfl | assumption) rfl ?_
  refine hv_imul dX12_looksAt_31 ?_
  refine hv_iload_n dX12_looksAt_32 rfl ?_
  refine hv_iadd dX12_looksAt_33 ?_
  refine hv_iald dX12_looksAt_34 (by first | rfl | assumption) (j := 7 * L + a) ix1 (by omega) (by first | decide | assumption) ?_
  refine hv_iast dX12_looksAt_35 (by first | rfl | assumption) (j := 3) rfl (by decide) (by first | decide | assumption) ?_
  refine hv_aload_n dX12_looksAt_36 rfl ?_
  refine hv_getr dX12_looksAt_37 fl_X12_113 (by first | rfl | assumption) rfl (by first | rfl | assumption) ?_
  refine hv_iconst (v := 4) dX12_looksAt_40 (by decide) ?_
  refine hv_aload_n dX12_looksAt_41 rfl ?_
  refine hv_getr dX12_looksAt_42 fl_X12_122 (by first | rfl | assumption) rfl (by first | rfl | assumption) ?_
  refine hv_bipush (v := 7) dX12_looksAt_45 (by decide) ?_
  refine hv_iload_n dX12_looksAt_47 rfl ?_
  refine hv_iadd dX12_looksAt_48 ?_
  refine hv_iald dX12_looksAt_49 (by first | rfl | assumption) (j := 7 + a) (nI_add 7 a) (by omega) (by first | decide | assumption) ?_
  refine hv_iast dX12_looksAt_50 (by first | rfl | assumption) (j := 4) rfl (by decide) (by first | decide | assumption) ?_
  refine hv_aload_n dX12_looksAt_51 rfl ?_
  refine hv_getr dX12_looksAt_52 fl_X12_113 (by first | rfl | assumption) rfl (by first | rfl | assumption) ?_
  refine hv_iconst (v := 5) dX12_looksAt_55 (by decide) ?_
  refine hv_aload_n dX12_looksAt_56 rfl ?_
  refine hv_getr dX12_looksAt_57 fl_X12_58 (by first | rfl | assumption) rfl (by first | rfl | assumption) ?_
  refine hv_bipush (v := 7) dX12_looksAt_60 (by decide) ?_
  refine hv_aload_n dX12_looksAt_62 rfl ?_
  refine hv_geti dX12_looksAt_63 fl_X12_233 (by first | rfl | assumption) rfl ?_
  refine hv_imul dX12_looksAt_66 ?_
  refine hv_iload_n dX12_looksAt_67 rfl ?_
  refine hv_iadd dX12_looksAt_68 ?_
  refine hv_iald dX12_looksAt_69 (by first | rfl | assumption) (j := 7 * L + a) ix1 (by omega) (by first | decide | assumption) ?_
  refine hv_iast dX12_looksAt_70 (by first | rfl | assumption) (j := 5) rfl (by decide) (by first | decide | assumption) ?_
  refine hv_aload_n dX12_looksAt_71 rfl ?_
  refine hv_getr dX12_looksAt_72 fl_X12_113 (by first | rfl | assumption) rfl (by first | rfl | assumption) ?_
  refine hv_bipush (v := 6) dX12_looksAt_75 (by decide) ?_
  refine hv_aload_n dX12_looksAt_77 rfl ?_
  refine hv_getr dX12_looksAt_78 fl_X12_122 (by first | rfl | assumption) rfl (by first | rfl | assumption) ?_
  refine hv_bipush (v := 14) dX12_looksAt_81 (by decide) ?_
  refine hv_iload_n dX12_looksAt_83 rfl ?_
  refine hv_iadd dX12_looksAt_84 ?_
  refine hv_iald dX12_looksAt_85 (by first | rfl | assumption) (j := 14 + a) (nI_add 14 a) (by omega) (by first | decide | assumption) ?_
  refine hv_iast dX12_looksAt_86 (by first | rfl | assumption) (j := 6) rfl (by decide) (by first | decide | assumption) ?_
  refine hv_aload_n dX12_looksAt_87 rfl ?_
  refine hv_getr dX12_looksAt_88 fl_X12_113 (by first | rfl | assumption) rfl (by first | rfl | assumption) ?_
  refine hv_bipush (v := 7) dX12_looksAt_91 (by decide) ?_
  refine hv_aload_n dX12_looksAt_93 rfl ?_
  refine hv_getr dX12_looksAt_94 fl_X12_122 (by first | rfl | assumption) rfl (by first | rfl | assumption) ?_
  refine hv_bipush (v := 21) dX12_looksAt_97 (by decide) ?_
  refine hv_iload_n dX12_looksAt_99 rfl ?_
  refine hv_iadd dX12_looksAt_100 ?_
  refine hv_iald dX12_looksAt_101 (by first | rfl | assumption) (j := 21 + a) (nI_add 21 a) (by omega) (by first | decide | assumption) ?_
  refine hv_iast dX12_looksAt_102 (by first | rfl | assumption) (j := 7) rfl (by decide) (by first | decide | assumption) ?_
  refine hv_aload_n dX12_looksAt_103 rfl ?_
  refine hv_getr dX12_looksAt_104 fl_X12_113 (by first | rfl | assumption) rfl (by first | rfl | assumption) ?_
  refine hv_bipush (v := 8) dX12_looksAt_107 (by decide) ?_
  refine hv_iload_n dX12_looksAt_109 rfl ?_
  refine hv_iast dX12_looksAt_110 (by first | rfl | assumption) (j := 8) rfl (by decide) (by first | decide | assumption) ?_
  refine hv_vret dX12_looksAt_111 rfl ?_
  refine ⟨rfl, rfl, rfl, fun c hc => ?_, ?_⟩
  · have e : c ≠ 96 := by simpa using hc
    simp only [hva_ne e]; exact q1 c hc
  · have r1 := q2 1 (by decide)
    have r2 := q2 2 (by decide)
    refine lt9 ?_ ?_ ?_ ?_ ?_ ?_ ?_ ?_ ?_ <;> simp [va_up, upd, vHs, twM, dyM, dF, dC, dS, dA, dD, tU, tE, e99, e77, e78, r1, r2, vAll]
theorem d_priceNow {L h : Nat} {LF : Nat → hF → Int32} (ok : okT σ L h LF) (hz : okZ σ 99 h) : hCal G (m_X12_priceNow (hQp xLw (some (.int (fPrice (twM σ L h LF) (dyM σ 99)))) (rr 38 51 x y) σ τ (fun σ' => ∀ j, j ≠ 50 → σ' 64 j = σ 64 j))) [.ref (hgA G 64)] shp (rr 38 51 x y) σ τ := by
  have k2 := ok.2.2.2.1
  refine hv_enter pn_X12 rfl ?_
  refine hv_aload_n dX12_priceNow_0 rfl ?_
  refine hv_cv0 (d_looks) dX12_priceNow_1 ml_X12_333 mk_X12_looks (by first | rfl | assumption) rfl rfl rfl rfl rfl ?_
  rintro _ _ σ1 _ ⟨rfl, rfl, rfl, q1, q2⟩
  have e99 := q1 99 (by decide)
  refine hv_aload_n dX12_priceNow_4 rfl ?_
  refine hv_getr dX12_priceNow_5 fl_X12_113 (by first | rfl | assumption) rfl (by first | rfl | assumption) ?_
  refine hv_bipush (v := 7) dX12_priceNow_8 (by decide) ?_
  refine hv_aload_n dX12_priceNow_10 rfl ?_
  refine hv_bipush (v := 21) dX12_priceNow_11 (by decide) ?_
  refine hv_cv1 (d_sumOf (f := 21) (by decide)) dX12_priceNow_13 ml_X12_330 mk_X12_sumOf (by first | rfl | assumption) rfl rfl rfl rfl rfl ?_
  rintro _ _ _ _ ⟨rfl, rfl, rfl, rfl⟩
  rw [e99]
  refine hv_iast dX12_priceNow_16 (by first | rfl | assumption) (j := 7) rfl (by decide) (by first | decide | assumption) ?_
  refine hv_aload_n dX12_priceNow_17 rfl ?_
  refine hv_iconst (v := 0) dX12_priceNow_18 (by decide) ?_
  refine hv_bipush (v := 10) dX12_priceNow_19 (by decide) ?_
  refine hv_cv2 (d_law (k := 0) (v := upd (vAll (hsum (fun a => σ 99 (0 + a)) 7) (σ 99 36)) 7 (hsum (fun a => σ 99 (21 + a)) 7)) (okT_of (X := [96]) ok (off_up q1 (by decide)) rfl (by rw [hva_ne (by decide), q1 64 (by decide)])) (by decide) (fun j hj => by rw [hup_eq]; unfold upd; split; rfl; exact q2 j hj) rfl) dX12_priceNow_21 ml_X12_339 mk_X12_lawTells (by first | rfl | assumption) rfl rfl rfl rfl rfl ?_
  rintro _ _ σ2 _ ⟨rfl, rfl, rfl, q3, q4⟩
  refine hv_iconst (v := 1) dX12_priceNow_24 (by decide) ?_
  refine hv_bipush (v := 99) dX12_priceNow_25 (by decide) ?_
  refine hv_cs3 (d_held) dX12_priceNow_27 ml_X12_342 mk_X12_held rfl rfl rfl ?_
  rintro _ _ _ _ ⟨rfl, rfl, rfl, rfl⟩
  refine hv_iret dX12_priceNow_30 rfl ?_
  refine ⟨?_, rfl, rfl, off_tr (off_up (c := 96) q1 (by decide)) q3 (by decide) (by decide), fun j hj => ?_⟩
  · rw [hldM_eq (by decide)]
    have s1 : hsum (fun a => σ 99 (0 + a)) 7 = hsum (dF (dyM σ 99)) h := by
      rw [hsum_z (h := h) 7 k2 (fun a h1 h2 => by rw [Nat.zero_add]; exact (hz a h1 h2).1)]
      exact hsum_congr h (fun a _ => by rw [Nat.zero_add]; rfl)
    have s2 : hsum (fun a => σ 99 (21 + a)) 7 = hsum (dA (dyM σ 99)) h := hsum_z (h := h) 7 k2 (fun a h1 h2 => (hz a h1 h2).2.2.2)
    rw [s1, s2]
    rfl
  · rw [q4 j hj, hva_ne (by decide), q1 64 (by decide)]
end S42

