theorem hcl_rng {f v : Int32} (hf : 0 ≤ f) : 0 ≤ hcl 0 f v ∧ hcl 0 f v ≤ f := by
  rw [← hldM_eq hf]
  unfold hldM
  by_cases c1 : 0 ≤ v
  · rw [if_pos c1]
    by_cases c2 : v ≤ f
    · rw [if_pos c2]; exact ⟨c1, c2⟩
    · rw [if_neg c2]; exact ⟨hf, Int32.le_refl f⟩
  · rw [if_neg c1]; exact ⟨Int32.le_refl 0, hf⟩
theorem i32_le {a b : Int32} : a ≤ b ↔ a.toInt ≤ b.toInt := Int32.le_iff_toInt_le
theorem bm32 {z : Int} (h1 : -2 ^ 31 ≤ z) (h2 : z < 2 ^ 31) : z.bmod (2 ^ 32) = z := Int.bmod_eq_of_le (by omega) (by omega)
theorem s32_sub {u w : Int32} (h1 : -2 ^ 31 ≤ u.toInt - w.toInt) (h2 : u.toInt - w.toInt < 2 ^ 31) : (u - w).toInt = u.toInt - w.toInt := by rw [Int32.toInt_sub, bm32 h1 h2]
theorem s32_add {u w : Int32} (h1 : -2 ^ 31 ≤ u.toInt + w.toInt) (h2 : u.toInt + w.toInt < 2 ^ 31) : (u + w).toInt = u.toInt + w.toInt := by rw [Int32.toInt_add, bm32 h1 h2]
theorem sub_rng {f e : Int32} (h0 : 0 ≤ e) (h1 : e ≤ f) : 0 ≤ f - e ∧ f - e ≤ f := by
  rw [i32_le] at h0 h1
  rw [Int32.toInt_zero] at h0
  have hb := Int32.toInt_lt f
  have hs : (f - e).toInt = f.toInt - e.toInt := s32_sub (by omega) (by omega)
  constructor
  · rw [i32_le, Int32.toInt_zero, hs]; omega
  · rw [i32_le, hs]; omega
/-- the reference's numbers of a row -/
def okN (σ : hS) (c h : Nat) : Prop := ∀ a, a < h → 0 ≤ σ c a ∧ σ c a ≤ 9999 ∧ 0 ≤ σ c (14 + a) ∧ σ c (14 + a) ≤ σ c a
theorem last_rng {f g : Int32} (h0 : 0 ≤ f) (h1 : f ≤ 9999) (h2 : 0 ≤ g) (h3 : g ≤ 99) : hldM (f + g) 0 9999 = hmin 9999 (f + g) ∧ f ≤ hmin 9999 (f + g) ∧ hmin 9999 (f + g) ≤ 9999 := by
  rw [i32_le] at h0 h1 h2 h3
  rw [Int32.toInt_zero] at h0 h2
  rw [show (9999 : Int32).toInt = 9999 from by decide] at h1
  rw [show (99 : Int32).toInt = 99 from by decide] at h3
  have hs : (f + g).toInt = f.toInt + g.toInt := s32_add (by omega) (by omega)
  have p0 : 0 ≤ f + g := by rw [i32_le, Int32.toInt_zero, hs]; omega
  unfold hldM hmin
  rw [if_pos p0]
  by_cases c : f + g ≤ 9999
  · rw [if_pos c]
    by_cases c2 : (9999 : Int32) > f + g
    · rw [if_pos c2]
      exact ⟨rfl, by rw [i32_le, hs]; omega, c⟩
    · rw [if_neg c2]
      have e : f + g = 9999 := Int32.le_antisymm c (Int32.not_lt.mp c2)
      exact ⟨e, by rw [i32_le]; rw [show (9999 : Int32).toInt = 9999 from by decide]; omega, Int32.le_refl _⟩
  · rw [if_neg c, if_neg (fun qq => c (Int32.le_of_lt qq))]
    exact ⟨rfl, by rw [i32_le]; rw [show (9999 : Int32).toInt = 9999 from by decide]; omega, Int32.le_refl _⟩
section S43
variable {G : hGl} {σ : hS} {τ : hT} {x y : Option Nat}
theorem off64 {X : List Nat} {σ1 σ2 : hS} (q1 : ∀ k, k ∉ [96] → σ1 k = σ k) (q4 : ∀ j, j ≠ 50 → σ2 64 j = σ1 64 j) : ∀ j, j ≠ 50 → σ2 64 j = σ 64 j := fun j hj => by rw [q4 j hj, q1 64 (by decide)]
theorem d_eatsNow {L h a : Nat} {LF : Nat → hF → Int32} (ok : okT σ L h LF) (ha : a < 7) (hp : 0 ≤ σ 99 a) : hCal G (m_X12_eatsNow (hQp xLw (some (.int (fEats (twM σ L h LF) (dyM σ 99) (hsum (fun a => σ 99 (0 + a)) 7) a))) (rr 38 51 x y) σ τ (fun σ' => ∀ j, j ≠ 50 → σ' 64 j = σ 64 j))) [.ref (hgA G 64), .int (nI a)] shp (rr 38 51 x y) σ τ := by
  refine hv_enter pn_X12 rfl ?_
  refine hv_aload_n dX12_eatsNow_0 rfl ?_
  refine hv_iload_n dX12_eatsNow_1 rfl ?_
  refine hv_cv1 (d_looksAt ok ha) dX12_eatsNow_2 ml_X12_345 mk_X12_looksAt (by first | rfl | assumption) rfl rfl rfl rfl rfl ?_
  rintro _ _ σ1 _ ⟨rfl, rfl, rfl, q1, q2⟩
  refine hv_aload_n dX12_eatsNow_5 rfl ?_
  refine hv_iconst (v := 1) dX12_eatsNow_6 (by decide) ?_
  refine hv_iconst (v := 0) dX12_eatsNow_7 (by decide) ?_
  refine hv_cv2 (d_law (k := 1) (okT_of ok q1 rfl (by rw [q1 64 (by decide)])) (by decide) q2 rfl) dX12_eatsNow_8 ml_X12_339 mk_X12_lawTells (by first | rfl | assumption) rfl rfl rfl rfl rfl ?_
  rintro _ _ σ2 _ ⟨rfl, rfl, rfl, q3, q4⟩
  have e99 : σ2 99 = σ 99 := by rw [q3 99 (by decide), q1 99 (by decide)]
  refine hv_iconst (v := 0) dX12_eatsNow_11 (by decide) ?_
  refine hv_aload_n dX12_eatsNow_12 rfl ?_
  refine hv_getr dX12_eatsNow_13 fl_X12_122 (by first | rfl | assumption) rfl (by first | rfl | assumption) ?_
  refine hv_iload_n dX12_eatsNow_16 rfl ?_
  refine hv_iald dX12_eatsNow_17 (by first | rfl | assumption) rfl (by first | assumption | omega) (by first | decide | assumption) ?_
  rw [e99]
  refine hv_cs3 (d_held) dX12_eatsNow_18 ml_X12_342 mk_X12_held rfl rfl rfl ?_
  rintro _ _ _ _ ⟨rfl, rfl, rfl, rfl⟩
  refine hv_iret dX12_eatsNow_21 rfl ?_
  refine ⟨?_, rfl, rfl, off_tr q1 q3 (by decide) (by decide), fun j hj => by rw [q4 j hj, q1 64 (by decide)]⟩
  rw [hldM_eq hp]; rfl
theorem d_ownVotes {L h a : Nat} {LF : Nat → hF → Int32} (ok : okT σ L h LF) (ha : a < 7) : hCal G (m_X12_ownVotes (hQp xLw (some (.int (fVotes (twM σ L h LF) (dyM σ 99) (hsum (fun a => σ 99 (0 + a)) 7) a))) (rr 38 51 x y) σ τ (fun σ' => ∀ j, j ≠ 50 → σ' 64 j = σ 64 j))) [.ref (hgA G 64), .int (nI a)] shp (rr 38 51 x y) σ τ := by
  refine hv_enter pn_X12 rfl ?_
  refine hv_aload_n dX12_ownVotes_0 rfl ?_
  refine hv_iload_n dX12_ownVotes_1 rfl ?_
  refine hv_cv1 (d_looksAt ok ha) dX12_ownVotes_2 ml_X12_345 mk_X12_looksAt (by first | rfl | assumption) rfl rfl rfl rfl rfl ?_
  rintro _ _ σ1 _ ⟨rfl, rfl, rfl, q1, q2⟩
  have e99 : σ1 99 = σ 99 := q1 99 (by decide)
  refine hv_aload_n dX12_ownVotes_5 rfl ?_
  refine hv_iconst (v := 3) dX12_ownVotes_6 (by decide) ?_
  refine hv_aload_n dX12_ownVotes_7 rfl ?_
  refine hv_getr dX12_ownVotes_8 fl_X12_122 (by first | rfl | assumption) rfl (by first | rfl | assumption) ?_
  refine hv_iload_n dX12_ownVotes_11 rfl ?_
  refine hv_iald dX12_ownVotes_12 (by first | rfl | assumption) rfl (by first | assumption | omega) (by first | decide | assumption) ?_
  rw [e99]
  refine hv_cv2 (d_law (k := 3) (okT_of ok q1 rfl (by rw [q1 64 (by decide)])) (by decide) q2 rfl) dX12_ownVotes_13 ml_X12_339 mk_X12_lawTells (by first | rfl | assumption) rfl rfl rfl rfl rfl ?_
  rintro _ _ σ2 _ ⟨rfl, rfl, rfl, q3, q4⟩
  refine hv_iconst (v := 0) dX12_ownVotes_16 (by decide) ?_
  refine hv_sipush (v := 999) dX12_ownVotes_17 (by decide) ?_
  refine hv_cs3 (d_held) dX12_ownVotes_20 ml_X12_342 mk_X12_held rfl rfl rfl ?_
  rintro _ _ _ _ ⟨rfl, rfl, rfl, rfl⟩
  refine hv_iret dX12_ownVotes_23 rfl ?_
  refine ⟨?_, rfl, rfl, off_tr q1 q3 (by decide) (by decide), fun j hj => by rw [q4 j hj, q1 64 (by decide)]⟩
  rw [hldM_eq (by decide)]; rfl
theorem d_rotsNow {L h a : Nat} {LF : Nat → hF → Int32} (ok : okT σ L h LF) (ha : a < 7) (hp : 0 ≤ σ 99 a - σ 99 (14 + a)) : hCal G (m_X12_rotsNow (hQp xLw (some (.int (fRots (twM σ L h LF) (dyM σ 99) (hsum (fun a => σ 99 (0 + a)) 7) a))) (rr 38 51 x y) σ τ (fun σ' => ∀ j, j ≠ 50 → σ' 64 j = σ 64 j))) [.ref (hgA G 64), .int (nI a)] shp (rr 38 51 x y) σ τ := by
  refine hv_enter pn_X12 rfl ?_
  refine hv_aload_n dX12_rotsNow_0 rfl ?_
  refine hv_iload_n dX12_rotsNow_1 rfl ?_
  refine hv_cv1 (d_looksAt ok ha) dX12_rotsNow_2 ml_X12_345 mk_X12_looksAt (by first | rfl | assumption) rfl rfl rfl rfl rfl ?_
  rintro _ _ σ1 _ ⟨rfl, rfl, rfl, q1, q2⟩
  refine hv_aload_n dX12_rotsNow_5 rfl ?_
  refine hv_iconst (v := 4) dX12_rotsNow_6 (by decide) ?_
  refine hv_iconst (v := 0) dX12_rotsNow_7 (by decide) ?_
  refine hv_cv2 (d_law (k := 4) (okT_of ok q1 rfl (by rw [q1 64 (by decide)])) (by decide) q2 rfl) dX12_rotsNow_8 ml_X12_339 mk_X12_lawTells (by first | rfl | assumption) rfl rfl rfl rfl rfl ?_
  rintro _ _ σ2 _ ⟨rfl, rfl, rfl, q3, q4⟩
  have e99 : σ2 99 = σ 99 := by rw [q3 99 (by decide), q1 99 (by decide)]
  refine hv_iconst (v := 0) dX12_rotsNow_11 (by decide) ?_
  refine hv_aload_n dX12_rotsNow_12 rfl ?_
  refine hv_getr dX12_rotsNow_13 fl_X12_122 (by first | rfl | assumption) rfl (by first | rfl | assumption) ?_
  refine hv_iload_n dX12_rotsNow_16 rfl ?_
  refine hv_iald dX12_rotsNow_17 (by first | rfl | assumption) rfl (by first | assumption | omega) (by first | decide | assumption) ?_
  refine hv_aload_n dX12_rotsNow_18 rfl ?_
  refine hv_getr dX12_rotsNow_19 fl_X12_122 (by first | rfl | assumption) rfl (by first | rfl | assumption) ?_
  refine hv_bipush (v := 14) dX12_rotsNow_22 (by decide) ?_
  refine hv_iload_n dX12_rotsNow_24 rfl ?_
  refine hv_iadd dX12_rotsNow_25 ?_
  refine hv_iald dX12_rotsNow_26 (by first | rfl | assumption) (j := 14 + a) (nI_add 14 a) (by omega) (by first | decide | assumption) ?_
  refine hv_isub dX12_rotsNow_27 ?_
  rw [e99]
  refine hv_cs3 (d_held) dX12_rotsNow_28 ml_X12_342 mk_X12_held rfl rfl rfl ?_
  rintro _ _ _ _ ⟨rfl, rfl, rfl, rfl⟩
  refine hv_iret dX12_rotsNow_31 rfl ?_
  refine ⟨?_, rfl, rfl, off_tr q1 q3 (by decide) (by decide), fun j hj => by rw [q4 j hj, q1 64 (by decide)]⟩
  rw [hldM_eq hp]; rfl
theorem d_glutNow {L h a : Nat} {LF : Nat → hF → Int32} (ok : okT σ L h LF) (ha : a < 7) : hCal G (m_X12_glutNow (hQp xLw (some (.int (fGlut (twM σ L h LF) (dyM σ 99) (hsum (fun a => σ 99 (0 + a)) 7) a))) (rr 38 51 x y) σ τ (fun σ' => ∀ j, j ≠ 50 → σ' 64 j = σ 64 j))) [.ref (hgA G 64), .int (nI a)] shp (rr 38 51 x y) σ τ := by
  refine hv_enter pn_X12 rfl ?_
  refine hv_aload_n dX12_glutNow_0 rfl ?_
  refine hv_cv0 (d_looks) dX12_glutNow_1 ml_X12_333 mk_X12_looks (by first | rfl | assumption) rfl rfl rfl rfl rfl ?_
  rintro _ _ σ1 _ ⟨rfl, rfl, rfl, q1, q2⟩
  have e99 : σ1 99 = σ 99 := q1 99 (by decide)
  refine hv_aload_n dX12_glutNow_4 rfl ?_
  refine hv_getr dX12_glutNow_5 fl_X12_113 (by first | rfl | assumption) rfl (by first | rfl | assumption) ?_
  refine hv_iconst (v := 0) dX12_glutNow_8 (by decide) ?_
  refine hv_aload_n dX12_glutNow_9 rfl ?_
  refine hv_getr dX12_glutNow_10 fl_X12_122 (by first | rfl | assumption) rfl (by first | rfl | assumption) ?_
  refine hv_iload_n dX12_glutNow_13 rfl ?_
  refine hv_iald dX12_glutNow_14 (by first | rfl | assumption) rfl (by first | assumption | omega) (by first | decide | assumption) ?_
  rw [e99]
  refine hv_iast dX12_glutNow_15 (by first | rfl | assumption) (j := 0) rfl (by decide) (by first | decide | assumption) ?_
  refine hv_aload_n dX12_glutNow_16 rfl ?_
  refine hv_getr dX12_glutNow_17 fl_X12_113 (by first | rfl | assumption) rfl (by first | rfl | assumption) ?_
  refine hv_bipush (v := 8) dX12_glutNow_20 (by decide) ?_
  refine hv_iload_n dX12_glutNow_22 rfl ?_
  refine hv_iast dX12_glutNow_23 (by first | rfl | assumption) (j := 8) rfl (by decide) (by first | decide | assumption) ?_
  refine hv_aload_n dX12_glutNow_24 rfl ?_
  refine hv_iconst (v := 2) dX12_glutNow_25 (by decide) ?_
  refine hv_iconst (v := 5) dX12_glutNow_26 (by decide) ?_
  refine hv_cv2 (d_law (k := 2) (v := upd (upd (vAll (hsum (fun a => σ 99 (0 + a)) 7) (σ 99 36)) 0 (σ 99 a)) 8 (nI a)) (okT_of (X := [96]) ok (off_up (off_up q1 (by decide)) (by decide)) rfl (by rw [hva_ne (by decide), hva_ne (by decide), q1 64 (by decide)])) (by decide) (fun j hj => by rw [hup_eq, hup_eq]; unfold upd; split; rfl; split; rfl; exact q2 j hj) rfl) dX12_glutNow_27 ml_X12_339 mk_X12_lawTells (by first | rfl | assumption) rfl rfl rfl rfl rfl ?_
  rintro _ _ σ2 _ ⟨rfl, rfl, rfl, q3, q4⟩
  refine hv_iconst (v := 0) dX12_glutNow_30 (by decide) ?_
  refine hv_bipush (v := 99) dX12_glutNow_31 (by decide) ?_
  refine hv_cs3 (d_held) dX12_glutNow_33 ml_X12_342 mk_X12_held rfl rfl rfl ?_
  rintro _ _ _ _ ⟨rfl, rfl, rfl, rfl⟩
  refine hv_iret dX12_glutNow_36 rfl ?_
  refine ⟨?_, rfl, rfl, off_tr (off_up (c := 96) (off_up (c := 96) q1 (by decide)) (by decide)) q3 (by decide) (by decide), fun j hj => by rw [q4 j hj, hva_ne (by decide), hva_ne (by decide), q1 64 (by decide)]⟩
  rw [hldM_eq (by decide)]; rfl
theorem d_eatsUp {a : Nat} {n : Int32} (ha : a < 7) : hCal G (m_X12_eatsUp (hQp [99] none (rr 38 51 x y) σ τ (fun σ' => σ' 99 a = σ 99 a - n ∧ σ' 99 (21 + a) = σ 99 (21 + a) + n ∧ σ' 99 (14 + a) = hmin (σ 99 (14 + a)) (σ 99 a - n) ∧ ∀ j, j ≠ a → j ≠ 21 + a → j ≠ 14 + a → σ' 99 j = σ 99 j))) [.ref (hgA G 64), .int (nI a), .int n] shp (rr 38 51 x y) σ τ := by
  refine hv_enter pn_X12 rfl ?_
  refine hv_aload_n dX12_eatsUp_0 rfl ?_
  refine hv_getr dX12_eatsUp_1 fl_X12_122 (by first | rfl | assumption) rfl (by first | rfl | assumption) ?_
  refine hv_iload_n dX12_eatsUp_4 rfl ?_
  refine hv_dup2 dX12_eatsUp_5 rfl rfl ?_
  refine hv_iald dX12_eatsUp_6 (by first | rfl | assumption) rfl (by first | assumption | omega) (by first | decide | assumption) ?_
  refine hv_iload_n dX12_eatsUp_7 rfl ?_
  refine hv_isub dX12_eatsUp_8 ?_
  refine hv_iast dX12_eatsUp_9 (by first | rfl | assumption) rfl (by first | assumption | omega) (by first | decide | assumption) ?_
  refine hv_aload_n dX12_eatsUp_10 rfl ?_
  refine hv_getr dX12_eatsUp_11 fl_X12_122 (by first | rfl | assumption) rfl (by first | rfl | assumption) ?_
  refine hv_bipush (v := 21) dX12_eatsUp_14 (by decide) ?_
  refine hv_iload_n dX12_eatsUp_16 rfl ?_
  refine hv_iadd dX12_eatsUp_17 ?_
  refine hv_dup2 dX12_eatsUp_18 rfl rfl ?_
  refine hv_iald dX12_eatsUp_19 (by first | rfl | assumption) (j := 21 + a) (nI_add 21 a) (by omega) (by first | decide | assumption) ?_
  refine hv_iload_n dX12_eatsUp_20 rfl ?_
  refine hv_iadd dX12_eatsUp_21 ?_
  refine hv_iast dX12_eatsUp_22 (by first | rfl | assumption) (j := 21 + a) (nI_add 21 a) (by omega) (by first | decide | assumption) ?_
  refine hv_aload_n dX12_eatsUp_23 rfl ?_
  refine hv_getr dX12_eatsUp_24 fl_X12_122 (by first | rfl | assumption) rfl (by first | rfl | assumption) ?_
  refine hv_bipush (v := 14) dX12_eatsUp_27 (by decide) ?_
  refine hv_iload_n dX12_eatsUp_29 rfl ?_
  refine hv_iadd dX12_eatsUp_30 ?_
  refine hv_iald dX12_eatsUp_31 (by first | rfl | assumption) (j := 14 + a) (nI_add 14 a) (by omega) (by first | decide | assumption) ?_
  refine hv_aload_n dX12_eatsUp_32 rfl ?_
  refine hv_getr dX12_eatsUp_33 fl_X12_122 (by first | rfl | assumption) rfl (by first | rfl | assumption) ?_
  refine hv_iload_n dX12_eatsUp_36 rfl ?_
  refine hv_iald dX12_eatsUp_37 (by first | rfl | assumption) rfl (by first | assumption | omega) (by first | decide | assumption) ?_
  rw [hup_eq, hup_eq, pk_un (show 14 + a ≠ 21 + a by omega), pk_un (show 14 + a ≠ a by omega), pk_un (show a ≠ 21 + a by omega), pk_us]
  refine hv_icmp_le (tgt := 56) dX12_eatsUp_38 (by decide) (fun c_38 => ?_) (fun c_38 => ?_)
  · refine hv_vret dX12_eatsUp_56 rfl ?_
    first
      | (refine ⟨rfl, rfl, rfl, off_up (off_up (off_up (fun _ _ => rfl) (by decide)) (by decide)) (by decide), ?_, ?_, ?_, fun j j1 j2 j3 => ?_⟩
         · simp only [hup_eq]; rw [pk_un (by omega), pk_un (by omega), pk_us]
         · simp only [hup_eq]; rw [pk_un (by omega), pk_us, pk_un (by omega)]
         · simp only [hup_eq]; rw [pk_us, pk_un (by omega), pk_us, hmin, if_pos (Int32.not_le.mp c_38)]
         · simp only [hup_eq]; rw [pk_un j3, pk_un j2, pk_un j1])
      | (refine ⟨rfl, rfl, rfl, off_up (off_up (fun _ _ => rfl) (by decide)) (by decide), ?_, ?_, ?_, fun j j1 j2 j3 => ?_⟩
         · simp only [hup_eq]; rw [pk_un (by omega), pk_us]
         · simp only [hup_eq]; rw [pk_us, pk_un (by omega)]
         · simp only [hup_eq]; rw [pk_un (by omega), pk_un (by omega), hmin, if_neg (Int32.not_lt.mpr c_38)]
         · simp only [hup_eq]; rw [pk_un j2, pk_un j1])
  · refine hv_aload_n dX12_eatsUp_41 rfl ?_
    refine hv_getr dX12_eatsUp_42 fl_X12_122 (by first | rfl | assumption) rfl (by first | rfl | assumption) ?_
    refine hv_bipush (v := 14) dX12_eatsUp_45 (by decide) ?_
    refine hv_iload_n dX12_eatsUp_47 rfl ?_
    refine hv_iadd dX12_eatsUp_48 ?_
    refine hv_aload_n dX12_eatsUp_49 rfl ?_
    refine hv_getr dX12_eatsUp_50 fl_X12_122 (by first | rfl | assumption) rfl (by first | rfl | assumption) ?_
    refine hv_iload_n dX12_eatsUp_53 rfl ?_
    refine hv_iald dX12_eatsUp_54 (by first | rfl | assumption) rfl (by first | assumption | omega) (by first | decide | assumption) ?_
    refine hv_iast dX12_eatsUp_55 (by first | rfl | assumption) (j := 14 + a) (nI_add 14 a) (by omega) (by first | decide | assumption) ?_
    refine hv_vret dX12_eatsUp_56 rfl ?_
    first
      | (refine ⟨rfl, rfl, rfl, off_up (off_up (off_up (fun _ _ => rfl) (by decide)) (by decide)) (by decide), ?_, ?_, ?_, fun j j1 j2 j3 => ?_⟩
         · simp only [hup_eq]; rw [pk_un (by omega), pk_un (by omega), pk_us]
         · simp only [hup_eq]; rw [pk_un (by omega), pk_us, pk_un (by omega)]
         · simp only [hup_eq]; rw [pk_us, pk_un (by omega), pk_us, hmin, if_pos (Int32.not_le.mp c_38)]
         · simp only [hup_eq]; rw [pk_un j3, pk_un j2, pk_un j1])
      | (refine ⟨rfl, rfl, rfl, off_up (off_up (fun _ _ => rfl) (by decide)) (by decide), ?_, ?_, ?_, fun j j1 j2 j3 => ?_⟩
         · simp only [hup_eq]; rw [pk_un (by omega), pk_us]
         · simp only [hup_eq]; rw [pk_us, pk_un (by omega)]
         · simp only [hup_eq]; rw [pk_un (by omega), pk_un (by omega), hmin, if_neg (Int32.not_lt.mpr c_38)]
         · simp only [hup_eq]; rw [pk_un j2, pk_un j1])
end S43

