theorem sh8 : ∀ k, k < 4 → (((shI k &&& 31).toBitVec.smod 32).toNat = 24 - 8 * k) := by decide
theorem sh8u : ∀ k, k < 4 → ((((shI k).toUInt32 &&& Int32.toUInt32 31).toBitVec % 32).toNat = 24 - 8 * k) := by decide
section S61
variable {G : hGl} {σ : hS} {τ : hT} {x y : Option Nat}
/-- the byte is the same, whatever comes in from above -/
theorem by_eq {w : Int32} {k : Nat} (hk : k < 4) : (w >>> (shI k &&& 31)).toInt8.toInt32 = fBy w k := by
  unfold fBy
  congr 1
  have h1 := pk_shr w (shI k &&& 31) (24 - 8 * k) (sh8 k hk)
  have h2 := pk_ushr w (shI k) (24 - 8 * k) (sh8u k hk)
  have e1 : hush w (shI k) = (w.toUInt32 >>> ((shI k).toUInt32 &&& Int32.toUInt32 31)).toInt32 := rfl
  rw [← e1] at h2
  apply Int8.toInt_inj.mp
  rw [Int32.toInt_toInt8, Int32.toInt_toInt8, h1]
  have hp : (hush w (shI k)).toInt = ((hush w (shI k)).toBitVec.toNat : Int).bmod (2 ^ 32) := by
    rw [← Int32.toInt_toBitVec, BitVec.toInt_eq_toNat_bmod]
  have hw : w.toInt = (w.toBitVec.toNat : Int).bmod (2 ^ 32) := by
    rw [← Int32.toInt_toBitVec, BitVec.toInt_eq_toNat_bmod]
  rw [hp, h2]
  obtain ⟨u, hu⟩ : ∃ u, w.toBitVec.toNat = u := ⟨_, rfl⟩
  have hu2 : u < 2 ^ 32 := by rw [← hu]; exact w.toBitVec.isLt
  rw [hu] at hw ⊢
  rw [hw, Int.shiftRight_eq_div_pow]
  have hm : (u : Int).bmod (2 ^ 32) = (u : Int) ∨ (u : Int).bmod (2 ^ 32) = (u : Int) - 2 ^ 32 := by
    by_cases c : u < 2 ^ 31
    · left; exact Int.bmod_eq_of_le (by omega) (by omega)
    · right
      rw [← Int.sub_bmod_right]
      exact Int.bmod_eq_of_le (by omega) (by omega)
  have hbm : ∀ a b : Int, a % ((2 ^ 8 : Nat) : Int) = b % ((2 ^ 8 : Nat) : Int) → a.bmod (2 ^ 8) = b.bmod (2 ^ 8) := fun a b h => by
    unfold Int.bmod
    simp only [h]
  rcases (show k = 0 ∨ k = 1 ∨ k = 2 ∨ k = 3 by omega) with rfl | rfl | rfl | rfl <;> rcases hm with e | e <;> rw [e, Int.bmod_bmod_of_dvd ⟨2 ^ 24, by decide⟩] <;> apply hbm <;> omega
theorem d_put {n : Nat} {w : Int32} (hn : σ 64 2 = nI n) (hn2 : n + 4 ≤ 2000) : hCal G (m_X12_put (hQp [64, 65] none (rr 38 51 x y) σ τ (fun σ' => σ' 65 = fAdd (σ 65) n w 4 ∧ σ' 64 = upd (σ 64) 2 (nI (n + 4))))) [.ref (hgA G 64), .int w] shp (rr 38 51 x y) σ τ := by
  refine hv_enter pn_X12 rfl ?_
  have loop : ∀ m k (σ' : hS), k + m = 4 → (∀ c, c ∉ [64, 65] → σ' c = σ c) → σ' 65 = fAdd (σ 65) n w k → σ' 64 = upd (σ 64) 2 (nI (n + k)) → hV G (m_X12_put (hQp [64, 65] none (rr 38 51 x y) σ τ (fun σ' => σ' 65 = fAdd (σ 65) n w 4 ∧ σ' 64 = upd (σ 64) 2 (nI (n + 4))))) 0 0 shp 3 [some (.ref (hgA G 64)), some (.int w), some (.int (shI k))] [] (rr 38 51 x y) σ' τ := by
    intro m
    induction m with
    | zero =>
      intro k σ' hk hσ h2 h1
      obtain rfl : k = 4 := by omega
      refine hv_iload_n dX12_put_3 rfl ?_
      refine hv_if_lt (tgt := 36) dX12_put_4 (by decide) (fun c_4 => ?_) (fun c_4 => absurd ((by decide)) c_4)
      refine hv_vret dX12_put_36 rfl ?_
      exact ⟨rfl, rfl, rfl, hσ, h2, h1⟩
    | succ m ih =>
      intro k σ' hk hσ h2 h1
      have e2 : σ' 64 2 = nI (n + k) := by rw [h1, pk_us]
      refine hv_iload_n dX12_put_3 rfl ?_
      refine hv_if_lt (tgt := 36) dX12_put_4 (by decide) (fun c_4 => absurd c_4 ((shI_p k (by omega)))) (fun c_4 => ?_)
      refine hv_aload_n dX12_put_7 rfl ?_
      refine hv_getr dX12_put_8 fl_X12_13 (by first | rfl | assumption) rfl (by first | rfl | assumption) ?_
      refine hv_aload_n dX12_put_11 rfl ?_
      refine hv_geti dX12_put_12 fl_X12_166 (by first | rfl | assumption) rfl ?_
      refine hv_iload_n dX12_put_15 rfl ?_
      refine hv_iload_n dX12_put_16 rfl ?_
      refine hv_ishr dX12_put_17 ?_
      refine hv_i2b dX12_put_18 ?_
      rw [by_eq (by omega)]
      refine hv_bast dX12_put_19 (by first | rfl | assumption) (j := n + k) e2 (by omega) (by first | decide | assumption) ?_
      rw [show vp_nar .byte (fBy w k) = fBy w k from pk_vb _]
      refine hv_aload_n dX12_put_20 rfl ?_
      refine hv_dup dX12_put_21 rfl ?_
      refine hv_geti dX12_put_22 fl_X12_166 (by first | rfl | assumption) rfl ?_
      refine hv_iconst (v := 1) dX12_put_25 (by decide) ?_
      refine hv_iadd dX12_put_26 ?_
      refine hv_puti dX12_put_27 fl_X12_166 (by first | rfl | assumption) rfl rfl rfl ?_
      refine hv_iinc dX12_put_30 rfl (shI_s k (by omega)) rfl rfl ?_
      refine hv_goto (tgt := 3) dX12_put_33 (by decide) ?_
      refine ih (k + 1) _ (by omega) (off_up (off_up hσ (by decide)) (by decide)) ?_ ?_
      · rw [hva_ne (by decide), hup_eq, h2]; rfl
      · rw [hup_eq, hva_ne (by decide), h1, pk_us, nI_1]
        funext j
        unfold upd
        by_cases c : j = 2
        · rw [if_pos c, if_pos c]; rfl
        · rw [if_neg c, if_neg c, if_neg c]
  refine hv_bipush (v := 24) dX12_put_0 (by decide) ?_
  refine hv_istore_n dX12_put_2 rfl rfl ?_
  refine loop 4 0 σ (by omega) (fun _ _ => rfl) rfl ?_
  funext j
  unfold upd
  by_cases c : j = 2
  · rw [if_pos c, c]; exact hn
  · rw [if_neg c]
theorem upd_up {f : hF} {k : Nat} {v w : Int32} : upd (upd f k v) k w = upd f k w := by
  funext j
  unfold upd
  by_cases h : j = k
  · rw [if_pos h, if_pos h]
  · rw [if_neg h, if_neg h, if_neg h]
theorem d_feed {n : Nat} {a b c d e : Int32} (hn : σ 64 2 = nI n) (hn2 : n ≤ 2000) : hCal G (m_X12_feed (fun v r' σ' τ' => rr 38 51 x y = r' ∧ τ = τ' ∧ ((¬ n + 20 ≤ 2000 ∧ v = some (.int (-1)) ∧ σ = σ') ∨ (n + 20 ≤ 2000 ∧ v = some (.int (nI (n + 20))) ∧ (∀ k, k ∉ [64, 65] → σ' k = σ k) ∧ σ' 65 = fFed (σ 65) n a b c d e ∧ σ' 64 = upd (σ 64) 2 (nI (n + 20)))))) [.ref (hgA G 64), .int a, .int b, .int c, .int d, .int e] shp (rr 38 51 x y) σ τ := by
  refine hv_enter pn_X12 rfl ?_
  refine hv_aload_n dX12_feed_0 rfl ?_
  refine hv_geti dX12_feed_1 fl_X12_166 (by first | rfl | assumption) rfl ?_
  refine hv_bipush (v := 20) dX12_feed_4 (by decide) ?_
  refine hv_iadd dX12_feed_6 ?_
  refine hv_sipush (v := 2000) dX12_feed_7 (by decide) ?_
  rw [hn, show nI n + 20 = nI (n + 20) from nI_add n 20]
  refine hv_icmp_le (tgt := 15) dX12_feed_10 (by decide) (fun c_10 => ?_) (fun c_10 => ?_)
  · have hyes : n + 20 ≤ 2000 := (nI_leI (b := 2000) (by omega) (by decide)).mp c_10
    refine hv_aload_n dX12_feed_15 rfl ?_
    refine hv_iload_n dX12_feed_16 rfl ?_
    refine hv_cv1 (d_put hn (by omega)) dX12_feed_17 ml_X12_169 mk_X12_put (by first | rfl | assumption) rfl rfl rfl rfl rfl ?_
    rintro _ _ σ1 _ ⟨rfl, rfl, rfl, u1, u2, u3⟩
    refine hv_aload_n dX12_feed_20 rfl ?_
    refine hv_iload_n dX12_feed_21 rfl ?_
    refine hv_cv1 (d_put (n := n + 4) (by rw [u3, pk_us]) (by omega)) dX12_feed_22 ml_X12_169 mk_X12_put (by first | rfl | assumption) rfl rfl rfl rfl rfl ?_
    rintro _ _ σ2 _ ⟨rfl, rfl, rfl, v1, v2, v3⟩
    refine hv_aload_n dX12_feed_25 rfl ?_
    refine hv_iload_n dX12_feed_26 rfl ?_
    refine hv_cv1 (d_put (n := n + 4 + 4) (by rw [v3, pk_us]) (by omega)) dX12_feed_27 ml_X12_169 mk_X12_put (by first | rfl | assumption) rfl rfl rfl rfl rfl ?_
    rintro _ _ σ3 _ ⟨rfl, rfl, rfl, w1, w2, w3⟩
    refine hv_aload_n dX12_feed_30 rfl ?_
    refine hv_iload dX12_feed_31 rfl ?_
    refine hv_cv1 (d_put (n := n + 4 + 4 + 4) (by rw [w3, pk_us]) (by omega)) dX12_feed_33 ml_X12_169 mk_X12_put (by first | rfl | assumption) rfl rfl rfl rfl rfl ?_
    rintro _ _ σ4 _ ⟨rfl, rfl, rfl, x1, x2, x3⟩
    refine hv_aload_n dX12_feed_36 rfl ?_
    refine hv_iload dX12_feed_37 rfl ?_
    refine hv_cv1 (d_put (n := n + 4 + 4 + 4 + 4) (by rw [x3, pk_us]) (by omega)) dX12_feed_39 ml_X12_169 mk_X12_put (by first | rfl | assumption) rfl rfl rfl rfl rfl ?_
    rintro _ _ σ5 _ ⟨rfl, rfl, rfl, y1, y2, y3⟩
    have y4 : σ5 64 = upd (σ 64) 2 (nI (n + 20)) := by rw [y3, x3, w3, v3, u3, upd_up, upd_up, upd_up, upd_up]
    refine hv_aload_n dX12_feed_42 rfl ?_
    refine hv_geti dX12_feed_43 fl_X12_166 (by first | rfl | assumption) rfl ?_
    refine hv_iret dX12_feed_46 rfl ?_
    refine ⟨rfl, rfl, Or.inr ⟨hyes, by rw [y4, pk_us], ?_, ?_, y4⟩⟩
    · intro k hk2
      rw [y1 k hk2, x1 k hk2, w1 k hk2, v1 k hk2, u1 k hk2]
    · rw [y2, x2, w2, v2, u2]; rfl
  · have hno : ¬ n + 20 ≤ 2000 := fun qq => c_10 (nI_le (b := 2000) qq (by decide))
    refine hv_iconst (v := -1) dX12_feed_13 (by decide) ?_
    refine hv_iret dX12_feed_14 rfl ?_
    exact ⟨rfl, rfl, Or.inl ⟨hno, rfl, rfl⟩⟩
theorem d_back {len : Nat} {n : Int32} (hln : σ 64 2 = nI len) (hl2 : len ≤ 2000) : hCal G (m_X12_back (fun v r' σ' τ' => rr 38 51 x y = r' ∧ τ = τ' ∧ ((¬ inI 0 (nI len) n = true ∧ v = some (.int (-1)) ∧ σ = σ') ∨ (∃ i, i ≤ len ∧ n = nI i ∧ v = some (.int (nI (len - i))) ∧ σ' = va_up σ 64 (upd (σ 64) 2 (nI (len - i))))))) [.ref (hgA G 64), .int n] shp (rr 38 51 x y) σ τ := by
  refine hv_enter pn_X12 rfl ?_
  refine hv_iload_n dX12_back_0 rfl ?_
  refine hv_if_lt (tgt := 12) dX12_back_1 (by decide) (fun c_1 => ?_) (fun c_1 => ?_)
  · refine hv_iconst (v := -1) dX12_back_12 (by decide) ?_
    refine hv_iret dX12_back_13 rfl ?_
    first
      | exact ⟨rfl, rfl, Or.inl ⟨fun qq => c_9 (of_decide_eq_true qq).2, rfl, rfl⟩⟩
      | exact ⟨rfl, rfl, Or.inl ⟨fun qq => Int32.not_lt.mpr (of_decide_eq_true qq).1 c_1, rfl, rfl⟩⟩
  · refine hv_iload_n dX12_back_4 rfl ?_
    refine hv_aload_n dX12_back_5 rfl ?_
    refine hv_geti dX12_back_6 fl_X12_166 (by first | rfl | assumption) rfl ?_
    rw [hln]
    refine hv_icmp_le (tgt := 14) dX12_back_9 (by decide) (fun c_9 => ?_) (fun c_9 => ?_)
    · have hin : inI 0 (nI len) n = true := decide_eq_true ⟨Int32.not_lt.mp c_1, c_9⟩
      obtain ⟨i, hi, rfl⟩ : ∃ i, i ≤ len ∧ n = nI i := by
        rcases pk_ix n (n := len + 1) (by omega) with qq | qq | ⟨i, hi, rfl⟩
        · exact absurd qq c_1
        · exact absurd (Int32.le_trans qq c_9) (nI_ge (a := len) (by omega) (by omega))
        · exact ⟨i, by omega, rfl⟩
      refine hv_aload_n dX12_back_14 rfl ?_
      refine hv_dup dX12_back_15 rfl ?_
      refine hv_geti dX12_back_16 fl_X12_166 (by first | rfl | assumption) rfl ?_
      rw [hln]
      refine hv_iload_n dX12_back_19 rfl ?_
      refine hv_isub dX12_back_20 ?_
      rw [pk_sub hi]
      refine hv_puti dX12_back_21 fl_X12_166 (by first | rfl | assumption) rfl rfl rfl ?_
      refine hv_aload_n dX12_back_24 rfl ?_
      refine hv_geti dX12_back_25 fl_X12_166 (by first | rfl | assumption) rfl ?_
      refine hv_iret dX12_back_28 rfl ?_
      exact ⟨rfl, rfl, Or.inr ⟨i, hi, rfl, by rw [hup_eq, pk_us], rfl⟩⟩
    · refine hv_iconst (v := -1) dX12_back_12 (by decide) ?_
      refine hv_iret dX12_back_13 rfl ?_
      first
        | exact ⟨rfl, rfl, Or.inl ⟨fun qq => c_9 (of_decide_eq_true qq).2, rfl, rfl⟩⟩
        | exact ⟨rfl, rfl, Or.inl ⟨fun qq => Int32.not_lt.mpr (of_decide_eq_true qq).1 c_1, rfl, rfl⟩⟩
theorem d_place {r : hR} : hCal G (m_X12_place (hEq (some (.int (σ 64 17))) r σ τ)) [.ref (hgA G 64)] shp r σ τ := by
  refine hv_enter pn_X12 rfl ?_
  refine hv_aload_n dX12_place_0 rfl ?_
  refine hv_geti dX12_place_1 fl_X12_37 (by first | rfl | assumption) rfl ?_
  refine hv_iret dX12_place_4 rfl ?_
  exact ⟨rfl, rfl, rfl, rfl⟩
theorem d_days {L h nn : Nat} {LF : Nat → hF → Int32} {n : Int32} (ok : okR σ L h LF) (hn : σ 64 57 = nI nn) (hn40 : nn ≤ 40) : hCal G (m_X12_days (fun v r' σ' τ' => rr 38 51 x y = r' ∧ τ = τ' ∧ ((¬ inI 0 60 n = true ∧ v = some (.int (-1)) ∧ σ = σ') ∨ (n = 0 ∧ v = some (.int (σ 98 36)) ∧ σ = σ') ∨ (∃ i, i ≤ 60 ∧ 1 ≤ i ∧ n = nI i ∧ v = some (.int (σ' 98 36)) ∧ dEq h (dyM σ' 98) (fDays (twM σ L h LF) (fGl (twM σ L h LF) (σ 85 L)) i (dyM σ 98)) ∧ okZ σ' 98 h ∧ okN σ' 98 h ∧ (∀ j, 28 ≤ j → j < 36 → σ' 98 j = σ 98 j) ∧ pDo nn σ σ')))) [.ref (hgA G 64), .int n] shp (rr 38 51 x y) σ τ := by
  have k2 := ok.1.2.2.2.1
  refine hv_enter pn_X12 rfl ?_
  refine hv_iload_n dX12_days_0 rfl ?_
  refine hv_iconst (v := 0) dX12_days_1 (by decide) ?_
  refine hv_bipush (v := 60) dX12_days_2 (by decide) ?_
  refine hv_cs3 (d_in) dX12_days_4 ml_X12_319 mk_X12_in rfl rfl rfl ?_
  rintro _ _ _ _ ⟨rfl, rfl, rfl, rfl⟩
  refine hv_if_ne (tgt := 12) dX12_days_7 (by decide) (fun c_7 => ?_) (fun c_7 => ?_)
  · obtain ⟨i, hi, rfl⟩ := inI_ix (n := 60) (by decide) (bI_1 c_7)
    refine hv_iload_n dX12_days_12 rfl ?_
    refine hv_if_ne (tgt := 24) dX12_days_13 (by decide) (fun c_13 => ?_) (fun c_13 => ?_)
    · refine hv_aload_n dX12_days_24 rfl ?_
      refine hv_cv0 (d_copies ok.1.1 ok.1.2.1) dX12_days_25 ml_X12_373 mk_X12_copies (by first | rfl | assumption) rfl rfl rfl rfl rfl ?_
      rintro _ _ σ1 _ ⟨rfl, rfl, rfl, q1, q2, q3⟩
      have qc := cp_of ok q1 q2 q3
      refine hv_aload_n dX12_days_28 rfl ?_
      refine hv_iload_n dX12_days_29 rfl ?_
      refine hv_cv1 (d_goes qc.1 qc.2.1 qc.2.2.1 (by omega)) dX12_days_30 ml_X12_391 mk_X12_goes (by first | rfl | assumption) rfl rfl rfl rfl rfl ?_
      rintro _ _ σ2 _ ⟨rfl, rfl, rfl, q4, q5⟩
      obtain ⟨g1, g2, g3, g4, g5⟩ := go_of ok q1 qc q4 q5
      obtain ⟨_, z1, z2, z3, z4⟩ := q5
      refine hv_aload_n dX12_days_33 rfl ?_
      refine hv_cv0 (d_records (nn := nn) (by rw [z3 57 (by decide), qc.2.2.2.2.2.2.1 57 (by decide)]; exact hn) hn40) dX12_days_34 ml_X12_385 mk_X12_records (by first | rfl | assumption) rfl rfl rfl rfl rfl ?_
      rintro _ _ σ3 _ ⟨rfl, rfl, rfl, r1, r2, r3, r4⟩
      refine hv_aload_n dX12_days_37 rfl ?_
      refine hv_getr dX12_days_38 fl_X12_119 (by first | rfl | assumption) rfl (by first | rfl | assumption) ?_
      refine hv_bipush (v := 36) dX12_days_41 (by decide) ?_
      refine hv_iald dX12_days_43 (by first | rfl | assumption) (j := 36) rfl (by decide) (by first | decide | assumption) ?_
      refine hv_iret dX12_days_44 rfl ?_
      have hi1 : 1 ≤ i := Nat.pos_of_ne_zero fun qq => c_13 (by rw [qq]; rfl)
      have hd7 : dEq 7 (dyM σ3 98) (dyM σ2 99) := ⟨fun a ha => ⟨r2 a (by omega), r2 _ (by omega), r2 _ (by omega), r2 _ (by omega), by show dPx _ = dPx _; rw [r2 _ (by omega)]⟩, r2 36 (by omega), r2 35 (by omega)⟩
      refine ⟨rfl, rfl, Or.inr (Or.inr ⟨i, hi, hi1, rfl, rfl, (hd7.mono k2).trans g1, fun a h1 h2 => ?_, fun a ha => ?_, fun j h1 h2 => ?_, pDo_of q1 qc q4 z3 r1 r3 r4⟩)⟩
      · rw [r2 a (by omega), r2 (7 + a) (by omega), r2 (14 + a) (by omega), r2 (21 + a) (by omega)]; exact z1 a h1 h2
      · rw [r2 a (by omega), r2 (14 + a) (by omega)]; exact z2 a ha
      · rw [r2 j (by omega), z4 j h1 h2, qc.2.2.2.2.2.2.2 j (by omega)]
    · refine hv_aload_n dX12_days_16 rfl ?_
      refine hv_getr dX12_days_17 fl_X12_119 (by first | rfl | assumption) rfl (by first | rfl | assumption) ?_
      refine hv_bipush (v := 36) dX12_days_20 (by decide) ?_
      refine hv_iald dX12_days_22 (by first | rfl | assumption) (j := 36) rfl (by decide) (by first | decide | assumption) ?_
      refine hv_iret dX12_days_23 rfl ?_
      exact ⟨rfl, rfl, Or.inr (Or.inl ⟨c_13, rfl, rfl⟩)⟩
  · refine hv_iconst (v := -1) dX12_days_10 (by decide) ?_
    refine hv_iret dX12_days_11 rfl ?_
    exact ⟨rfl, rfl, Or.inl ⟨by rw [bI_0 c_7]; decide, rfl, rfl⟩⟩
theorem d_undo0 (hn : σ 64 57 = nI 0) : hCal G (m_X12_undo (hEq (some (.int 0)) (rr 38 51 x y) σ τ)) [.ref (hgA G 64)] shp (rr 38 51 x y) σ τ := by
  refine hv_enter pn_X12 rfl ?_
  refine hv_aload_n dX12_undo_0 rfl ?_
  refine hv_geti dX12_undo_1 fl_X12_251 (by first | rfl | assumption) rfl ?_
  refine hv_if_ne (tgt := 9) dX12_undo_4 (by decide) (fun c_4 => absurd ((by rw [hn]; rfl)) c_4) (fun c_4 => ?_)
  refine hv_iconst (v := 0) dX12_undo_7 (by decide) ?_
  refine hv_zret dX12_undo_8 rfl (by first | exact Or.inl rfl | exact Or.inr rfl | assumption) ?_
  exact ⟨rfl, rfl, rfl, rfl⟩
theorem d_undo {n : Nat} (hn : σ 64 57 = nI (n + 1)) (hn40 : n < 40) : hCal G (m_X12_undo (hQp [64, 98] (some (.int 1)) (rr 38 51 x y) σ τ (fun σ' => σ' 64 = upd (σ 64) 57 (nI n) ∧ ∀ j, j < 37 → σ' 98 j = σ 103 (37 * n + j)))) [.ref (hgA G 64)] shp (rr 38 51 x y) σ τ := by
  refine hv_enter pn_X12 rfl ?_
  have loop : ∀ k i (σ' : hS), i + k = 37 → (∀ c, c ∉ [64, 98] → σ' c = σ c) → σ' 64 = upd (σ 64) 57 (nI n) → (∀ j, j < i → σ' 98 j = σ 103 (37 * n + j)) → hV G (m_X12_undo (hQp [64, 98] (some (.int 1)) (rr 38 51 x y) σ τ (fun σ' => σ' 64 = upd (σ 64) 57 (nI n) ∧ ∀ j, j < 37 → σ' 98 j = σ 103 (37 * n + j)))) 0 0 shp 21 [some (.ref (hgA G 64)), some (.int (nI i))] [] (rr 38 51 x y) σ' τ := by
    intro k
    induction k with
    | zero =>
      intro i σ' hi hσ h1 h2
      obtain rfl : i = 37 := by omega
      refine hv_iload_n dX12_undo_21 rfl ?_
      refine hv_bipush (v := 37) dX12_undo_22 (by decide) ?_
      refine hv_icmp_ge (tgt := 53) dX12_undo_24 (by decide) (fun c_24 => ?_) (fun c_24 => absurd ((by decide)) c_24)
      refine hv_iconst (v := 1) dX12_undo_53 (by decide) ?_
      refine hv_zret dX12_undo_54 rfl (by first | exact Or.inl rfl | exact Or.inr rfl | assumption) ?_
      exact ⟨rfl, rfl, rfl, hσ, h1, h2⟩
    | succ k ih =>
      intro i σ' hi hσ h1 h2
      refine hv_iload_n dX12_undo_21 rfl ?_
      refine hv_bipush (v := 37) dX12_undo_22 (by decide) ?_
      refine hv_icmp_ge (tgt := 53) dX12_undo_24 (by decide) (fun c_24 => absurd c_24 ((nI_ge (b := 37) (by omega) (by decide)))) (fun c_24 => ?_)
      refine hv_aload_n dX12_undo_27 rfl ?_
      refine hv_getr dX12_undo_28 fl_X12_119 (by first | rfl | assumption) rfl (by first | rfl | assumption) ?_
      refine hv_iload_n dX12_undo_31 rfl ?_
      refine hv_aload_n dX12_undo_32 rfl ?_
      refine hv_getr dX12_undo_33 fl_X12_134 (by first | rfl | assumption) rfl (by first | rfl | assumption) ?_
      refine hv_bipush (v := 37) dX12_undo_36 (by decide) ?_
      refine hv_aload_n dX12_undo_38 rfl ?_
      refine hv_geti dX12_undo_39 fl_X12_251 (by first | rfl | assumption) rfl ?_
      refine hv_imul dX12_undo_42 ?_
      refine hv_iload_n dX12_undo_43 rfl ?_
      refine hv_iadd dX12_undo_44 ?_
      refine hv_iald dX12_undo_45 (by first | rfl | assumption) (j := 37 * n + i) (by rw [h1, pk_us, show (37 : Int32) * nI n = nI (37 * n) from pk_mul 37 n, nI_add]) (by omega) (by first | decide | assumption) ?_
      refine hv_iast dX12_undo_46 (by first | rfl | assumption) rfl (by first | assumption | omega) (by first | decide | assumption) ?_
      refine hv_iinc dX12_undo_47 rfl (nI_1 i) rfl rfl ?_
      refine hv_goto (tgt := 21) dX12_undo_50 (by decide) ?_
      refine ih (i + 1) _ (by omega) (off_up hσ (by decide)) (by rw [hva_ne (by decide)]; exact h1) (fun j hj => ?_)
      rw [hup_eq]
      exact upd_lt (g := fun j => σ 103 (37 * n + j)) h2 (by rw [hσ 103 (by decide)]) j hj
  refine hv_aload_n dX12_undo_0 rfl ?_
  refine hv_geti dX12_undo_1 fl_X12_251 (by first | rfl | assumption) rfl ?_
  refine hv_if_ne (tgt := 9) dX12_undo_4 (by decide) (fun c_4 => ?_) (fun c_4 => absurd c_4 ((by rw [hn]; exact nI_ne0 (by omega) (by omega))))
  refine hv_aload_n dX12_undo_9 rfl ?_
  refine hv_dup dX12_undo_10 rfl ?_
  refine hv_geti dX12_undo_11 fl_X12_251 (by first | rfl | assumption) rfl ?_
  rw [hn]
  refine hv_iconst (v := 1) dX12_undo_14 (by decide) ?_
  refine hv_isub dX12_undo_15 ?_
  rw [nI_pred]
  refine hv_puti dX12_undo_16 fl_X12_251 (by first | rfl | assumption) rfl rfl rfl ?_
  refine hv_iconst (v := 0) dX12_undo_19 (by decide) ?_
  refine hv_istore_n dX12_undo_20 rfl rfl ?_
  exact loop 37 0 _ (by omega) (off_up (fun _ _ => rfl) (by decide)) hup_eq (fun j hj => absurd hj (by omega))
theorem in02 {s : Int32} (h : inI 0 2 s = true) : ∃ i, i < 3 ∧ s = nI i := by
  obtain ⟨i, hi, e⟩ := inI_ix (n := 2) (by decide) h
  exact ⟨i, by omega, e⟩
theorem in02f {s : Int32} (h : s < 0 ∨ 3 ≤ s) : inI 0 2 s = false := decide_eq_false (fun q => h.elim (Int32.not_lt.mpr q.1) (fun q2 => absurd (Int32.le_trans q2 q.2) (by decide)))
theorem d_hold0 {sl : Int32} (hs : sl < 0 ∨ 3 ≤ sl) : hCal G (m_X12_hold (hEq (some (.int 0)) (rr 38 51 x y) σ τ)) [.ref (hgA G 64), .int sl] shp (rr 38 51 x y) σ τ := by
  refine hv_enter pn_X12 rfl ?_
  refine hv_iload_n dX12_hold_0 rfl ?_
  refine hv_iconst (v := 0) dX12_hold_1 (by decide) ?_
  refine hv_iconst (v := 2) dX12_hold_2 (by decide) ?_
  refine hv_cs3 (d_in) dX12_hold_3 ml_X12_319 mk_X12_in rfl rfl rfl ?_
  rintro _ _ _ _ ⟨rfl, rfl, rfl, rfl⟩
  rw [in02f hs]
  refine hv_if_ne (tgt := 11) dX12_hold_6 (by decide) (fun c_6 => absurd ((show bI false = 0 by decide)) c_6) (fun c_6 => ?_)
  refine hv_iconst (v := 0) dX12_hold_9 (by decide) ?_
  refine hv_zret dX12_hold_10 rfl (by first | exact Or.inl rfl | exact Or.inr rfl | assumption) ?_
  exact ⟨rfl, rfl, rfl, rfl⟩
theorem d_hold {s : Nat} (hs : s < 3) : hCal G (m_X12_hold (hQp [107, 108] (some (.int 1)) (rr 38 51 x y) σ τ (fun σ' => σ' 107 = upd (σ 107) s 1 ∧ (∀ j, j < 37 → σ' 108 (37 * s + j) = σ 98 j) ∧ (∀ j, j < 37 * s ∨ 37 * s + 37 ≤ j → σ' 108 j = σ 108 j)))) [.ref (hgA G 64), .int (nI s)] shp (rr 38 51 x y) σ τ := by
  refine hv_enter pn_X12 rfl ?_
  have loop : ∀ k i (σ' : hS), i + k = 37 → (∀ c, c ∉ [107, 108] → σ' c = σ c) → σ' 107 = upd (σ 107) s 1 → (∀ j, j < i → σ' 108 (37 * s + j) = σ 98 j) → (∀ j, j < 37 * s ∨ 37 * s + 37 ≤ j → σ' 108 j = σ 108 j) → hV G (m_X12_hold (hQp [107, 108] (some (.int 1)) (rr 38 51 x y) σ τ (fun σ' => σ' 107 = upd (σ 107) s 1 ∧ (∀ j, j < 37 → σ' 108 (37 * s + j) = σ 98 j) ∧ (∀ j, j < 37 * s ∨ 37 * s + 37 ≤ j → σ' 108 j = σ 108 j)))) 0 0 shp 20 [some (.ref (hgA G 64)), some (.int (nI s)), some (.int (nI i))] [] (rr 38 51 x y) σ' τ := by
    intro k
    induction k with
    | zero =>
      intro i σ' hi hσ h1 h2 h3
      obtain rfl : i = 37 := by omega
      refine hv_iload_n dX12_hold_20 rfl ?_
      refine hv_bipush (v := 37) dX12_hold_21 (by decide) ?_
      refine hv_icmp_ge (tgt := 49) dX12_hold_23 (by decide) (fun c_23 => ?_) (fun c_23 => absurd ((by decide)) c_23)
      refine hv_iconst (v := 1) dX12_hold_49 (by decide) ?_
      refine hv_zret dX12_hold_50 rfl (by first | exact Or.inl rfl | exact Or.inr rfl | assumption) ?_
      exact ⟨rfl, rfl, rfl, hσ, h1, h2, h3⟩
    | succ k ih =>
      intro i σ' hi hσ h1 h2 h3
      refine hv_iload_n dX12_hold_20 rfl ?_
      refine hv_bipush (v := 37) dX12_hold_21 (by decide) ?_
      refine hv_icmp_ge (tgt := 49) dX12_hold_23 (by decide) (fun c_23 => absurd c_23 ((nI_ge (b := 37) (by omega) (by decide)))) (fun c_23 => ?_)
      refine hv_aload_n dX12_hold_26 rfl ?_
      refine hv_getr dX12_hold_27 fl_X12_149 (by first | rfl | assumption) rfl (by first | rfl | assumption) ?_
      refine hv_bipush (v := 37) dX12_hold_30 (by decide) ?_
      refine hv_iload_n dX12_hold_32 rfl ?_
      refine hv_imul dX12_hold_33 ?_
      refine hv_iload_n dX12_hold_34 rfl ?_
      refine hv_iadd dX12_hold_35 ?_
      refine hv_aload_n dX12_hold_36 rfl ?_
      refine hv_getr dX12_hold_37 fl_X12_119 (by first | rfl | assumption) rfl (by first | rfl | assumption) ?_
      refine hv_iload_n dX12_hold_40 rfl ?_
      refine hv_iald dX12_hold_41 (by first | rfl | assumption) rfl (by first | assumption | omega) (by first | decide | assumption) ?_
      refine hv_iast dX12_hold_42 (by first | rfl | assumption) (j := 37 * s + i) (by rw [show (37 : Int32) * nI s = nI (37 * s) from pk_mul 37 s, nI_add]) (by omega) (by first | decide | assumption) ?_
      refine hv_iinc dX12_hold_43 rfl (nI_1 i) rfl rfl ?_
      refine hv_goto (tgt := 20) dX12_hold_46 (by decide) ?_
      refine ih (i + 1) _ (by omega) (off_up hσ (by decide)) (by rw [hva_ne (by decide)]; exact h1) (fun j hj => ?_) (fun j hj => ?_)
      · rw [hup_eq]
        by_cases e : j = i
        · subst e; rw [pk_us, hσ 98 (by decide)]
        · rw [pk_un (by omega)]; exact h2 j (by omega)
      · rw [hup_eq, pk_un (by omega)]; exact h3 j hj
  refine hv_iload_n dX12_hold_0 rfl ?_
  refine hv_iconst (v := 0) dX12_hold_1 (by decide) ?_
  refine hv_iconst (v := 2) dX12_hold_2 (by decide) ?_
  refine hv_cs3 (d_in) dX12_hold_3 ml_X12_319 mk_X12_in rfl rfl rfl ?_
  rintro _ _ _ _ ⟨rfl, rfl, rfl, rfl⟩
  rw [show inI 0 2 (nI s) = true from decide_eq_true ⟨nI_pos' (by omega), nI_le (b := 2) (by omega) (by decide)⟩]
  refine hv_if_ne (tgt := 11) dX12_hold_6 (by decide) (fun c_6 => ?_) (fun c_6 => absurd c_6 ((show ¬ bI true = 0 by decide)))
  refine hv_aload_n dX12_hold_11 rfl ?_
  refine hv_getr dX12_hold_12 fl_X12_146 (by first | rfl | assumption) rfl (by first | rfl | assumption) ?_
  refine hv_iload_n dX12_hold_15 rfl ?_
  refine hv_iconst (v := 1) dX12_hold_16 (by decide) ?_
  refine hv_zast dX12_hold_17 (by first | rfl | assumption) (j := s) rfl (by omega) (by first | decide | assumption) ?_
  refine hv_iconst (v := 0) dX12_hold_18 (by decide) ?_
  refine hv_istore_n dX12_hold_19 rfl rfl ?_
  exact loop 37 0 _ (by omega) (off_up (fun _ _ => rfl) (by decide)) hup_eq (fun j hj => absurd hj (by omega)) (fun j _ => by rw [hva_ne (by decide)])
theorem d_restore0 {sl : Int32} (hs : sl < 0 ∨ 3 ≤ sl) : hCal G (m_X12_restore (hEq (some (.int 0)) (rr 38 51 x y) σ τ)) [.ref (hgA G 64), .int sl] shp (rr 38 51 x y) σ τ := by
  refine hv_enter pn_X12 rfl ?_
  refine hv_iload_n dX12_restore_0 rfl ?_
  refine hv_iconst (v := 0) dX12_restore_1 (by decide) ?_
  refine hv_iconst (v := 2) dX12_restore_2 (by decide) ?_
  refine hv_cs3 (d_in) dX12_restore_3 ml_X12_319 mk_X12_in rfl rfl rfl ?_
  rintro _ _ _ _ ⟨rfl, rfl, rfl, rfl⟩
  rw [in02f hs]
  refine hv_if_eq (tgt := 18) dX12_restore_6 (by decide) (fun c_6 => ?_) (fun c_6 => absurd ((show bI false = 0 by decide)) c_6)
  refine hv_iconst (v := 0) dX12_restore_18 (by decide) ?_
  refine hv_zret dX12_restore_19 rfl (by first | exact Or.inl rfl | exact Or.inr rfl | assumption) ?_
  exact ⟨rfl, rfl, rfl, rfl⟩
theorem d_restore1 {s : Nat} (hs : s < 3) (hh : σ 107 s = 0) : hCal G (m_X12_restore (hEq (some (.int 0)) (rr 38 51 x y) σ τ)) [.ref (hgA G 64), .int (nI s)] shp (rr 38 51 x y) σ τ := by
  refine hv_enter pn_X12 rfl ?_
  refine hv_iload_n dX12_restore_0 rfl ?_
  refine hv_iconst (v := 0) dX12_restore_1 (by decide) ?_
  refine hv_iconst (v := 2) dX12_restore_2 (by decide) ?_
  refine hv_cs3 (d_in) dX12_restore_3 ml_X12_319 mk_X12_in rfl rfl rfl ?_
  rintro _ _ _ _ ⟨rfl, rfl, rfl, rfl⟩
  rw [show inI 0 2 (nI s) = true from decide_eq_true ⟨nI_pos' (by omega), nI_le (b := 2) (by omega) (by decide)⟩]
  refine hv_if_eq (tgt := 18) dX12_restore_6 (by decide) (fun c_6 => absurd c_6 ((show ¬ bI true = 0 by decide))) (fun c_6 => ?_)
  refine hv_aload_n dX12_restore_9 rfl ?_
  refine hv_getr dX12_restore_10 fl_X12_146 (by first | rfl | assumption) rfl (by first | rfl | assumption) ?_
  refine hv_iload_n dX12_restore_13 rfl ?_
  refine hv_zald dX12_restore_14 (by first | rfl | assumption) (j := s) rfl (by omega) (by first | decide | assumption) ?_
  refine hv_if_ne (tgt := 20) dX12_restore_15 (by decide) (fun c_15 => absurd (hh) c_15) (fun c_15 => ?_)
  refine hv_iconst (v := 0) dX12_restore_18 (by decide) ?_
  refine hv_zret dX12_restore_19 rfl (by first | exact Or.inl rfl | exact Or.inr rfl | assumption) ?_
  exact ⟨rfl, rfl, rfl, rfl⟩
theorem d_restore {s : Nat} (hs : s < 3) (hh : ¬ σ 107 s = 0) : hCal G (m_X12_restore (hQp [64, 98] (some (.int 1)) (rr 38 51 x y) σ τ (fun σ' => σ' 64 = upd (σ 64) 57 0 ∧ ∀ j, j < 37 → σ' 98 j = σ 108 (37 * s + j)))) [.ref (hgA G 64), .int (nI s)] shp (rr 38 51 x y) σ τ := by
  refine hv_enter pn_X12 rfl ?_
  have loop : ∀ k i (σ' : hS), i + k = 37 → (∀ c, c ∉ [98] → σ' c = σ c) → (∀ j, j < i → σ' 98 j = σ 108 (37 * s + j)) → hV G (m_X12_restore (hQp [64, 98] (some (.int 1)) (rr 38 51 x y) σ τ (fun σ' => σ' 64 = upd (σ 64) 57 0 ∧ ∀ j, j < 37 → σ' 98 j = σ 108 (37 * s + j)))) 0 0 shp 22 [some (.ref (hgA G 64)), some (.int (nI s)), some (.int (nI i))] [] (rr 38 51 x y) σ' τ := by
    intro k
    induction k with
    | zero =>
      intro i σ' hi hσ h2
      obtain rfl : i = 37 := by omega
      refine hv_iload_n dX12_restore_22 rfl ?_
      refine hv_bipush (v := 37) dX12_restore_23 (by decide) ?_
      refine hv_icmp_ge (tgt := 51) dX12_restore_25 (by decide) (fun c_25 => ?_) (fun c_25 => absurd ((by decide)) c_25)
      refine hv_aload_n dX12_restore_51 rfl ?_
      refine hv_iconst (v := 0) dX12_restore_52 (by decide) ?_
      refine hv_puti dX12_restore_53 fl_X12_251 (by first | rfl | assumption) rfl rfl rfl ?_
      refine hv_iconst (v := 1) dX12_restore_56 (by decide) ?_
      refine hv_zret dX12_restore_57 rfl (by first | exact Or.inl rfl | exact Or.inr rfl | assumption) ?_
      exact ⟨rfl, rfl, rfl, off_up (off_wk hσ (by decide)) (by decide), by rw [hup_eq, hσ 64 (by decide)], fun j hj => by rw [hva_ne (by decide)]; exact h2 j hj⟩
    | succ k ih =>
      intro i σ' hi hσ h2
      refine hv_iload_n dX12_restore_22 rfl ?_
      refine hv_bipush (v := 37) dX12_restore_23 (by decide) ?_
      refine hv_icmp_ge (tgt := 51) dX12_restore_25 (by decide) (fun c_25 => absurd c_25 ((nI_ge (b := 37) (by omega) (by decide)))) (fun c_25 => ?_)
      refine hv_aload_n dX12_restore_28 rfl ?_
      refine hv_getr dX12_restore_29 fl_X12_119 (by first | rfl | assumption) rfl (by first | rfl | assumption) ?_
      refine hv_iload_n dX12_restore_32 rfl ?_
      refine hv_aload_n dX12_restore_33 rfl ?_
      refine hv_getr dX12_restore_34 fl_X12_149 (by first | rfl | assumption) rfl (by first | rfl | assumption) ?_
      refine hv_bipush (v := 37) dX12_restore_37 (by decide) ?_
      refine hv_iload_n dX12_restore_39 rfl ?_
      refine hv_imul dX12_restore_40 ?_
      refine hv_iload_n dX12_restore_41 rfl ?_
      refine hv_iadd dX12_restore_42 ?_
      refine hv_iald dX12_restore_43 (by first | rfl | assumption) (j := 37 * s + i) (by rw [show (37 : Int32) * nI s = nI (37 * s) from pk_mul 37 s, nI_add]) (by omega) (by first | decide | assumption) ?_
      refine hv_iast dX12_restore_44 (by first | rfl | assumption) rfl (by first | assumption | omega) (by first | decide | assumption) ?_
      refine hv_iinc dX12_restore_45 rfl (nI_1 i) rfl rfl ?_
      refine hv_goto (tgt := 22) dX12_restore_48 (by decide) ?_
      refine ih (i + 1) _ (by omega) (off_up hσ (by decide)) (fun j hj => ?_)
      rw [hup_eq]
      exact upd_lt (g := fun j => σ 108 (37 * s + j)) h2 (by rw [hσ 108 (by decide)]) j hj
  refine hv_iload_n dX12_restore_0 rfl ?_
  refine hv_iconst (v := 0) dX12_restore_1 (by decide) ?_
  refine hv_iconst (v := 2) dX12_restore_2 (by decide) ?_
  refine hv_cs3 (d_in) dX12_restore_3 ml_X12_319 mk_X12_in rfl rfl rfl ?_
  rintro _ _ _ _ ⟨rfl, rfl, rfl, rfl⟩
  rw [show inI 0 2 (nI s) = true from decide_eq_true ⟨nI_pos' (by omega), nI_le (b := 2) (by omega) (by decide)⟩]
  refine hv_if_eq (tgt := 18) dX12_restore_6 (by decide) (fun c_6 => absurd c_6 ((show ¬ bI true = 0 by decide))) (fun c_6 => ?_)
  refine hv_aload_n dX12_restore_9 rfl ?_
  refine hv_getr dX12_restore_10 fl_X12_146 (by first | rfl | assumption) rfl (by first | rfl | assumption) ?_
  refine hv_iload_n dX12_restore_13 rfl ?_
  refine hv_zald dX12_restore_14 (by first | rfl | assumption) (j := s) rfl (by omega) (by first | decide | assumption) ?_
  refine hv_if_ne (tgt := 20) dX12_restore_15 (by decide) (fun c_15 => ?_) (fun c_15 => absurd c_15 (hh))
  refine hv_iconst (v := 0) dX12_restore_20 (by decide) ?_
  refine hv_istore_n dX12_restore_21 rfl rfl ?_
  exact loop 37 0 σ (by omega) (fun _ _ => rfl) (fun j hj => absurd hj (by omega))
theorem d_count {L h : Nat} {LF : Nat → hF → Int32} {V : hF} {pr : Nat → Option Nat} {w : Int32} (ok : okR σ L h LF) (hvv : V = fVotes (twM σ L h LF) (dyM σ 98) (hsum (dF (dyM σ 98)) h)) (hx : okXM σ 98 h pr) : hCal G (m_X12_count (hRq (if w = 0 then nI h else if w = 1 then σ 80 L else if w = 2 then σ 81 L else if w = 3 then σ 98 36 else if w = 4 then hsum (dF (dyM σ 98)) h else if w = 5 then hsum (dC (dyM σ 98)) h else if w = 6 then hsum (dA (dyM σ 98)) h else if w = 7 then σ 98 35 else if w = 8 then σ 64 2 else if w = 9 then σ 64 57 else if w = 10 then σ 64 61 else if w = 11 then fHld (σ 107) 3 else if w = 12 then hsum V h else if w = 13 then (if fGl (twM σ L h LF) (σ 85 L) (σ 98 36) = true then 1 else 0) else if w = 14 then hsum (dS (dyM σ 98)) h else -1) x y σ τ)) [.ref (hgA G 64), .int w] shp (rr 38 51 x y) σ τ := by
  have k2 := ok.1.2.2.2.1
  have hL2 := ok.1.2.1
  have hsz : ∀ {f : hF} {g : hF}, (∀ a, a < h → f a = g a) → (∀ a, h ≤ a → a < 7 → f a = 0) → hsum f 7 = hsum g h := fun h1 h2 => (hsum_z 7 k2 h2).trans (hsum_congr h h1)
  refine hv_enter pn_X12 rfl ?_
  refine hv_aload_n dX12_count_0 rfl ?_
  refine hv_cv0 (d_copies ok.1.1 ok.1.2.1) dX12_count_1 ml_X12_373 mk_X12_copies (by first | rfl | assumption) rfl rfl rfl rfl rfl ?_
  rintro _ _ σ1 _ ⟨rfl, rfl, rfl, q1, q2, q3⟩
  obtain ⟨c1, c2, c3, c4, c5, c6, c7, c8⟩ := cp_of ok q1 q2 q3
  have hk6 : k64 σ σ1 := fun j j1 j2 j3 => c7 j j2
  have ok1 : okR σ1 L h LF := ⟨c1, by unfold okZ; rw [q1 98 (by decide)]; exact ok.2.1, by unfold okN; rw [q1 98 (by decide)]; exact ok.2.2⟩
  have d98 : dyM σ1 98 = dyM σ 98 := by unfold dyM; rw [q1 98 (by decide)]
  refine hv_iload_n dX12_count_4 rfl ?_
  by_cases c_5_0 : w = 0
  · refine hv_tin (off := 75) (tgt := 80) (i := 0) dX12_count_5 c_5_0 (by decide) (by decide) (by decide) (by decide) ?_
    rw [if_pos c_5_0]
    refine hv_aload_n dX12_count_80 rfl ?_
    refine hv_getr dX12_count_81 fl_X12_46 (by first | rfl | assumption) rfl (by first | rfl | assumption) ?_
    refine hv_aload_n dX12_count_84 rfl ?_
    refine hv_geti dX12_count_85 fl_X12_233 (by first | rfl | assumption) rfl ?_
    refine hv_iald dX12_count_88 (by first | rfl | assumption) (j := L) c1.1 (by omega) (by first | decide | assumption) ?_
    refine hv_iret dX12_count_89 rfl ?_
    rw [c1.2.2.1]; exact ⟨rfl, rfl, rfl, off_wk q1 (by decide), hk6⟩
  by_cases c_5_1 : w = 1
  · refine hv_tin (off := 85) (tgt := 90) (i := 1) dX12_count_5 c_5_1 (by decide) (by decide) (by decide) (by decide) ?_
    rw [if_neg c_5_0, if_pos c_5_1]
    refine hv_aload_n dX12_count_90 rfl ?_
    refine hv_getr dX12_count_91 fl_X12_64 (by first | rfl | assumption) rfl (by first | rfl | assumption) ?_
    refine hv_aload_n dX12_count_94 rfl ?_
    refine hv_geti dX12_count_95 fl_X12_233 (by first | rfl | assumption) rfl ?_
    refine hv_iald dX12_count_98 (by first | rfl | assumption) (j := L) c1.1 (by omega) (by first | decide | assumption) ?_
    refine hv_iret dX12_count_99 rfl ?_
    rw [q1 80 (by decide)]; exact ⟨rfl, rfl, rfl, off_wk q1 (by decide), hk6⟩
  by_cases c_5_2 : w = 2
  · refine hv_tin (off := 95) (tgt := 100) (i := 2) dX12_count_5 c_5_2 (by decide) (by decide) (by decide) (by decide) ?_
    rw [if_neg c_5_0, if_neg c_5_1, if_pos c_5_2]
    refine hv_aload_n dX12_count_100 rfl ?_
    refine hv_getr dX12_count_101 fl_X12_67 (by first | rfl | assumption) rfl (by first | rfl | assumption) ?_
    refine hv_aload_n dX12_count_104 rfl ?_
    refine hv_geti dX12_count_105 fl_X12_233 (by first | rfl | assumption) rfl ?_
    refine hv_iald dX12_count_108 (by first | rfl | assumption) (j := L) c1.1 (by omega) (by first | decide | assumption) ?_
    refine hv_iret dX12_count_109 rfl ?_
    rw [q1 81 (by decide)]; exact ⟨rfl, rfl, rfl, off_wk q1 (by decide), hk6⟩
  by_cases c_5_3 : w = 3
  · refine hv_tin (off := 105) (tgt := 110) (i := 3) dX12_count_5 c_5_3 (by decide) (by decide) (by decide) (by decide) ?_
    rw [if_neg c_5_0, if_neg c_5_1, if_neg c_5_2, if_pos c_5_3]
    refine hv_aload_n dX12_count_110 rfl ?_
    refine hv_getr dX12_count_111 fl_X12_122 (by first | rfl | assumption) rfl (by first | rfl | assumption) ?_
    refine hv_bipush (v := 36) dX12_count_114 (by decide) ?_
    refine hv_iald dX12_count_116 (by first | rfl | assumption) (j := 36) rfl (by decide) (by first | decide | assumption) ?_
    refine hv_iret dX12_count_117 rfl ?_
    rw [c8 36 (by omega)]; exact ⟨rfl, rfl, rfl, off_wk q1 (by decide), hk6⟩
  by_cases c_5_4 : w = 4
  · refine hv_tin (off := 113) (tgt := 118) (i := 4) dX12_count_5 c_5_4 (by decide) (by decide) (by decide) (by decide) ?_
    rw [if_neg c_5_0, if_neg c_5_1, if_neg c_5_2, if_neg c_5_3, if_pos c_5_4]
    refine hv_aload_n dX12_count_118 rfl ?_
    refine hv_iconst (v := 0) dX12_count_119 (by decide) ?_
    refine hv_cv1 (d_sumOf (f := 0) (by decide)) dX12_count_120 ml_X12_330 mk_X12_sumOf (by first | rfl | assumption) rfl rfl rfl rfl rfl ?_
    rintro _ _ _ _ ⟨rfl, rfl, rfl, rfl⟩
    refine hv_iret dX12_count_123 rfl ?_
    rw [hsz (g := dF (dyM σ 98)) (fun a ha => by rw [Nat.zero_add]; exact c8 a (by omega)) (fun a h1 h2 => by rw [Nat.zero_add]; exact (c2 a h1 h2).1)]; exact ⟨rfl, rfl, rfl, off_wk q1 (by decide), hk6⟩
  by_cases c_5_5 : w = 5
  · refine hv_tin (off := 119) (tgt := 124) (i := 5) dX12_count_5 c_5_5 (by decide) (by decide) (by decide) (by decide) ?_
    rw [if_neg c_5_0, if_neg c_5_1, if_neg c_5_2, if_neg c_5_3, if_neg c_5_4, if_pos c_5_5]
    refine hv_aload_n dX12_count_124 rfl ?_
    refine hv_bipush (v := 7) dX12_count_125 (by decide) ?_
    refine hv_cv1 (d_sumOf (f := 7) (by decide)) dX12_count_127 ml_X12_330 mk_X12_sumOf (by first | rfl | assumption) rfl rfl rfl rfl rfl ?_
    rintro _ _ _ _ ⟨rfl, rfl, rfl, rfl⟩
    refine hv_iret dX12_count_130 rfl ?_
    rw [hsz (g := dC (dyM σ 98)) (fun a ha => c8 (7 + a) (by omega)) (fun a h1 h2 => (c2 a h1 h2).2.1)]; exact ⟨rfl, rfl, rfl, off_wk q1 (by decide), hk6⟩
  by_cases c_5_6 : w = 6
  · refine hv_tin (off := 126) (tgt := 131) (i := 6) dX12_count_5 c_5_6 (by decide) (by decide) (by decide) (by decide) ?_
    rw [if_neg c_5_0, if_neg c_5_1, if_neg c_5_2, if_neg c_5_3, if_neg c_5_4, if_neg c_5_5, if_pos c_5_6]
    refine hv_aload_n dX12_count_131 rfl ?_
    refine hv_bipush (v := 21) dX12_count_132 (by decide) ?_
    refine hv_cv1 (d_sumOf (f := 21) (by decide)) dX12_count_134 ml_X12_330 mk_X12_sumOf (by first | rfl | assumption) rfl rfl rfl rfl rfl ?_
    rintro _ _ _ _ ⟨rfl, rfl, rfl, rfl⟩
    refine hv_iret dX12_count_137 rfl ?_
    rw [hsz (g := dA (dyM σ 98)) (fun a ha => c8 (21 + a) (by omega)) (fun a h1 h2 => (c2 a h1 h2).2.2.2)]; exact ⟨rfl, rfl, rfl, off_wk q1 (by decide), hk6⟩
  by_cases c_5_7 : w = 7
  · refine hv_tin (off := 133) (tgt := 138) (i := 7) dX12_count_5 c_5_7 (by decide) (by decide) (by decide) (by decide) ?_
    rw [if_neg c_5_0, if_neg c_5_1, if_neg c_5_2, if_neg c_5_3, if_neg c_5_4, if_neg c_5_5, if_neg c_5_6, if_pos c_5_7]
    refine hv_aload_n dX12_count_138 rfl ?_
    refine hv_getr dX12_count_139 fl_X12_122 (by first | rfl | assumption) rfl (by first | rfl | assumption) ?_
    refine hv_bipush (v := 35) dX12_count_142 (by decide) ?_
    refine hv_iald dX12_count_144 (by first | rfl | assumption) (j := 35) rfl (by decide) (by first | decide | assumption) ?_
    refine hv_iret dX12_count_145 rfl ?_
    rw [c8 35 (by omega)]; exact ⟨rfl, rfl, rfl, off_wk q1 (by decide), hk6⟩
  by_cases c_5_8 : w = 8
  · refine hv_tin (off := 141) (tgt := 146) (i := 8) dX12_count_5 c_5_8 (by decide) (by decide) (by decide) (by decide) ?_
    rw [if_neg c_5_0, if_neg c_5_1, if_neg c_5_2, if_neg c_5_3, if_neg c_5_4, if_neg c_5_5, if_neg c_5_6, if_neg c_5_7, if_pos c_5_8]
    refine hv_aload_n dX12_count_146 rfl ?_
    refine hv_geti dX12_count_147 fl_X12_166 (by first | rfl | assumption) rfl ?_
    refine hv_iret dX12_count_150 rfl ?_
    rw [c7 2 (by decide)]; exact ⟨rfl, rfl, rfl, off_wk q1 (by decide), hk6⟩
  by_cases c_5_9 : w = 9
  · refine hv_tin (off := 146) (tgt := 151) (i := 9) dX12_count_5 c_5_9 (by decide) (by decide) (by decide) (by decide) ?_
    rw [if_neg c_5_0, if_neg c_5_1, if_neg c_5_2, if_neg c_5_3, if_neg c_5_4, if_neg c_5_5, if_neg c_5_6, if_neg c_5_7, if_neg c_5_8, if_pos c_5_9]
    refine hv_aload_n dX12_count_151 rfl ?_
    refine hv_geti dX12_count_152 fl_X12_251 (by first | rfl | assumption) rfl ?_
    refine hv_iret dX12_count_155 rfl ?_
    rw [c7 57 (by decide)]; exact ⟨rfl, rfl, rfl, off_wk q1 (by decide), hk6⟩
  by_cases c_5_10 : w = 10
  · refine hv_tin (off := 151) (tgt := 156) (i := 10) dX12_count_5 c_5_10 (by decide) (by decide) (by decide) (by decide) ?_
    rw [if_neg c_5_0, if_neg c_5_1, if_neg c_5_2, if_neg c_5_3, if_neg c_5_4, if_neg c_5_5, if_neg c_5_6, if_neg c_5_7, if_neg c_5_8, if_neg c_5_9, if_pos c_5_10]
    refine hv_aload_n dX12_count_156 rfl ?_
    refine hv_geti dX12_count_157 fl_X12_254 (by first | rfl | assumption) rfl ?_
    refine hv_iret dX12_count_160 rfl ?_
    rw [c7 61 (by decide)]; exact ⟨rfl, rfl, rfl, off_wk q1 (by decide), hk6⟩
  by_cases c_5_11 : w = 11
  · refine hv_tin (off := 156) (tgt := 161) (i := 11) dX12_count_5 c_5_11 (by decide) (by decide) (by decide) (by decide) ?_
    rw [if_neg c_5_0, if_neg c_5_1, if_neg c_5_2, if_neg c_5_3, if_neg c_5_4, if_neg c_5_5, if_neg c_5_6, if_neg c_5_7, if_neg c_5_8, if_neg c_5_9, if_neg c_5_10, if_pos c_5_11]
    refine hv_aload_n dX12_count_161 rfl ?_
    refine hv_getr dX12_count_162 fl_X12_146 (by first | rfl | assumption) rfl (by first | rfl | assumption) ?_
    refine hv_iconst (v := 0) dX12_count_165 (by decide) ?_
    refine hv_zald dX12_count_166 (by first | rfl | assumption) (j := 0) rfl (by decide) (by first | decide | assumption) ?_
    refine hv_if_eq (tgt := 174) dX12_count_167 (by decide) (fun c_167 => ?_) (fun c_167 => ?_)
    · refine hv_iconst (v := 0) dX12_count_174 (by decide) ?_
      refine hv_aload_n dX12_count_175 rfl ?_
      refine hv_getr dX12_count_176 fl_X12_146 (by first | rfl | assumption) rfl (by first | rfl | assumption) ?_
      refine hv_iconst (v := 1) dX12_count_179 (by decide) ?_
      refine hv_zald dX12_count_180 (by first | rfl | assumption) (j := 1) rfl (by decide) (by first | decide | assumption) ?_
      refine hv_if_eq (tgt := 188) dX12_count_181 (by decide) (fun c_181 => ?_) (fun c_181 => ?_)
      · refine hv_iconst (v := 0) dX12_count_188 (by decide) ?_
        refine hv_iadd dX12_count_189 ?_
        refine hv_aload_n dX12_count_190 rfl ?_
        refine hv_getr dX12_count_191 fl_X12_146 (by first | rfl | assumption) rfl (by first | rfl | assumption) ?_
        refine hv_iconst (v := 2) dX12_count_194 (by decide) ?_
        refine hv_zald dX12_count_195 (by first | rfl | assumption) (j := 2) rfl (by decide) (by first | decide | assumption) ?_
        refine hv_if_eq (tgt := 203) dX12_count_196 (by decide) (fun c_196 => ?_) (fun c_196 => ?_)
        · refine hv_iconst (v := 0) dX12_count_203 (by decide) ?_
          refine hv_iadd dX12_count_204 ?_
          refine hv_iret dX12_count_205 rfl ?_
          rw [q1 107 (by decide)] at c_167 c_181 c_196
          refine ⟨congrArg (fun z => some (Value.int z)) ?_, rfl, rfl, off_wk q1 (by decide), hk6⟩
          unfold fHld fHld fHld fHld
          simp only [c_167, c_181, c_196, if_true, if_false]
          decide
        · refine hv_iconst (v := 1) dX12_count_199 (by decide) ?_
          refine hv_goto (tgt := 204) dX12_count_200 (by decide) ?_
          refine hv_iadd dX12_count_204 ?_
          refine hv_iret dX12_count_205 rfl ?_
          rw [q1 107 (by decide)] at c_167 c_181 c_196
          refine ⟨congrArg (fun z => some (Value.int z)) ?_, rfl, rfl, off_wk q1 (by decide), hk6⟩
          unfold fHld fHld fHld fHld
          simp only [c_167, c_181, c_196, if_true, if_false]
          decide
      · refine hv_iconst (v := 1) dX12_count_184 (by decide) ?_
        refine hv_goto (tgt := 189) dX12_count_185 (by decide) ?_
        refine hv_iadd dX12_count_189 ?_
        refine hv_aload_n dX12_count_190 rfl ?_
        refine hv_getr dX12_count_191 fl_X12_146 (by first | rfl | assumption) rfl (by first | rfl | assumption) ?_
        refine hv_iconst (v := 2) dX12_count_194 (by decide) ?_
        refine hv_zald dX12_count_195 (by first | rfl | assumption) (j := 2) rfl (by decide) (by first | decide | assumption) ?_
        refine hv_if_eq (tgt := 203) dX12_count_196 (by decide) (fun c_196 => ?_) (fun c_196 => ?_)
        · refine hv_iconst (v := 0) dX12_count_203 (by decide) ?_
          refine hv_iadd dX12_count_204 ?_
          refine hv_iret dX12_count_205 rfl ?_
          rw [q1 107 (by decide)] at c_167 c_181 c_196
          refine ⟨congrArg (fun z => some (Value.int z)) ?_, rfl, rfl, off_wk q1 (by decide), hk6⟩
          unfold fHld fHld fHld fHld
          simp only [c_167, c_181, c_196, if_true, if_false]
          decide
        · refine hv_iconst (v := 1) dX12_count_199 (by decide) ?_
          refine hv_goto (tgt := 204) dX12_count_200 (by decide) ?_
          refine hv_iadd dX12_count_204 ?_
          refine hv_iret dX12_count_205 rfl ?_
          rw [q1 107 (by decide)] at c_167 c_181 c_196
          refine ⟨congrArg (fun z => some (Value.int z)) ?_, rfl, rfl, off_wk q1 (by decide), hk6⟩
          unfold fHld fHld fHld fHld
          simp only [c_167, c_181, c_196, if_true, if_false]
          decide
    · refine hv_iconst (v := 1) dX12_count_170 (by decide) ?_
      refine hv_goto (tgt := 175) dX12_count_171 (by decide) ?_
      refine hv_aload_n dX12_count_175 rfl ?_
      refine hv_getr dX12_count_176 fl_X12_146 (by first | rfl | assumption) rfl (by first | rfl | assumption) ?_
      refine hv_iconst (v := 1) dX12_count_179 (by decide) ?_
      refine hv_zald dX12_count_180 (by first | rfl | assumption) (j := 1) rfl (by decide) (by first | decide | assumption) ?_
      refine hv_if_eq (tgt := 188) dX12_count_181 (by decide) (fun c_181 => ?_) (fun c_181 => ?_)
      · refine hv_iconst (v := 0) dX12_count_188 (by decide) ?_
        refine hv_iadd dX12_count_189 ?_
        refine hv_aload_n dX12_count_190 rfl ?_
        refine hv_getr dX12_count_191 fl_X12_146 (by first | rfl | assumption) rfl (by first | rfl | assumption) ?_
        refine hv_iconst (v := 2) dX12_count_194 (by decide) ?_
        refine hv_zald dX12_count_195 (by first | rfl | assumption) (j := 2) rfl (by decide) (by first | decide | assumption) ?_
        refine hv_if_eq (tgt := 203) dX12_count_196 (by decide) (fun c_196 => ?_) (fun c_196 => ?_)
        · refine hv_iconst (v := 0) dX12_count_203 (by decide) ?_
          refine hv_iadd dX12_count_204 ?_
          refine hv_iret dX12_count_205 rfl ?_
          rw [q1 107 (by decide)] at c_167 c_181 c_196
          refine ⟨congrArg (fun z => some (Value.int z)) ?_, rfl, rfl, off_wk q1 (by decide), hk6⟩
          unfold fHld fHld fHld fHld
          simp only [c_167, c_181, c_196, if_true, if_false]
          decide
        · refine hv_iconst (v := 1) dX12_count_199 (by decide) ?_
          refine hv_goto (tgt := 204) dX12_count_200 (by decide) ?_
          refine hv_iadd dX12_count_204 ?_
          refine hv_iret dX12_count_205 rfl ?_
          rw [q1 107 (by decide)] at c_167 c_181 c_196
          refine ⟨congrArg (fun z => some (Value.int z)) ?_, rfl, rfl, off_wk q1 (by decide), hk6⟩
          unfold fHld fHld fHld fHld
          simp only [c_167, c_181, c_196, if_true, if_false]
          decide
      · refine hv_iconst (v := 1) dX12_count_184 (by decide) ?_
        refine hv_goto (tgt := 189) dX12_count_185 (by decide) ?_
        refine hv_iadd dX12_count_189 ?_
        refine hv_aload_n dX12_count_190 rfl ?_
        refine hv_getr dX12_count_191 fl_X12_146 (by first | rfl | assumption) rfl (by first | rfl | assumption) ?_
        refine hv_iconst (v := 2) dX12_count_194 (by decide) ?_
        refine hv_zald dX12_count_195 (by first | rfl | assumption) (j := 2) rfl (by decide) (by first | decide | assumption) ?_
        refine hv_if_eq (tgt := 203) dX12_count_196 (by decide) (fun c_196 => ?_) (fun c_196 => ?_)
        · refine hv_iconst (v := 0) dX12_count_203 (by decide) ?_
          refine hv_iadd dX12_count_204 ?_
          refine hv_iret dX12_count_205 rfl ?_
          rw [q1 107 (by decide)] at c_167 c_181 c_196
          refine ⟨congrArg (fun z => some (Value.int z)) ?_, rfl, rfl, off_wk q1 (by decide), hk6⟩
          unfold fHld fHld fHld fHld
          simp only [c_167, c_181, c_196, if_true, if_false]
          decide
        · refine hv_iconst (v := 1) dX12_count_199 (by decide) ?_
          refine hv_goto (tgt := 204) dX12_count_200 (by decide) ?_
          refine hv_iadd dX12_count_204 ?_
          refine hv_iret dX12_count_205 rfl ?_
          rw [q1 107 (by decide)] at c_167 c_181 c_196
          refine ⟨congrArg (fun z => some (Value.int z)) ?_, rfl, rfl, off_wk q1 (by decide), hk6⟩
          unfold fHld fHld fHld fHld
          simp only [c_167, c_181, c_196, if_true, if_false]
          decide
  by_cases c_5_12 : w = 12
  · refine hv_tin (off := 201) (tgt := 206) (i := 12) dX12_count_5 c_5_12 (by decide) (by decide) (by decide) (by decide) ?_
    rw [if_neg c_5_0, if_neg c_5_1, if_neg c_5_2, if_neg c_5_3, if_neg c_5_4, if_neg c_5_5, if_neg c_5_6, if_neg c_5_7, if_neg c_5_8, if_neg c_5_9, if_neg c_5_10, if_neg c_5_11, if_pos c_5_12]
    refine hv_aload_n dX12_count_206 rfl ?_
    refine hv_cv0 (d_fillsVotes (V := V) ok1 (by rw [c5, d98]; exact hvv) ⟨hx.1, fun a ha => by rw [q1 98 (by decide)]; exact hx.2 a ha⟩) dX12_count_207 ml_X12_410 mk_X12_fillsVotes (by first | rfl | assumption) rfl rfl rfl rfl rfl ?_
    rintro _ _ σ2 _ ⟨rfl, rfl, rfl, v1, v2, v3, v4⟩
    refine hv_aload_n dX12_count_210 rfl ?_
    refine hv_geti dX12_count_211 fl_X12_407 (by first | rfl | assumption) rfl ?_
    refine hv_iret dX12_count_214 rfl ?_
    exact ⟨congrArg (fun z => some (Value.int z)) v4.symm, rfl, rfl, off_tr q1 v1 (by decide) (by decide), fun j j1 j2 j3 => (v2 j j1 j2 j3).trans (hk6 j j1 j2 j3)⟩
  by_cases c_5_13 : w = 13
  · refine hv_tin (off := 210) (tgt := 215) (i := 13) dX12_count_5 c_5_13 (by decide) (by decide) (by decide) (by decide) ?_
    rw [if_neg c_5_0, if_neg c_5_1, if_neg c_5_2, if_neg c_5_3, if_neg c_5_4, if_neg c_5_5, if_neg c_5_6, if_neg c_5_7, if_neg c_5_8, if_neg c_5_9, if_neg c_5_10, if_neg c_5_11, if_neg c_5_12, if_pos c_5_13]
    refine hv_aload_n dX12_count_215 rfl ?_
    refine hv_cv0 (d_isGlut (t := twM σ L h LF) c1.1 hL2 (by rw [q1 84 (by decide)]; rfl)) dX12_count_216 ml_X12_348 mk_X12_isGlut (by first | rfl | assumption) rfl rfl rfl rfl rfl ?_
    rintro _ _ _ _ ⟨rfl, rfl, rfl, rfl⟩
    rw [c6, c8 36 (by omega)]
    refine hv_if_eq (tgt := 226) dX12_count_219 (by decide) (fun c_219 => ?_) (fun c_219 => ?_)
    · refine hv_iconst (v := 0) dX12_count_226 (by decide) ?_
      refine hv_iret dX12_count_227 rfl ?_
      refine ⟨congrArg (fun z => some (Value.int z)) ?_, rfl, rfl, off_wk q1 (by decide), hk6⟩
      first
        | rw [if_neg (by rw [bI_0 c_219]; decide)]
        | rw [if_pos (bI_1 c_219)]
    · refine hv_iconst (v := 1) dX12_count_222 (by decide) ?_
      refine hv_goto (tgt := 227) dX12_count_223 (by decide) ?_
      refine hv_iret dX12_count_227 rfl ?_
      refine ⟨congrArg (fun z => some (Value.int z)) ?_, rfl, rfl, off_wk q1 (by decide), hk6⟩
      first
        | rw [if_neg (by rw [bI_0 c_219]; decide)]
        | rw [if_pos (bI_1 c_219)]
  by_cases c_5_14 : w = 14
  · refine hv_tin (off := 223) (tgt := 228) (i := 14) dX12_count_5 c_5_14 (by decide) (by decide) (by decide) (by decide) ?_
    rw [if_neg c_5_0, if_neg c_5_1, if_neg c_5_2, if_neg c_5_3, if_neg c_5_4, if_neg c_5_5, if_neg c_5_6, if_neg c_5_7, if_neg c_5_8, if_neg c_5_9, if_neg c_5_10, if_neg c_5_11, if_neg c_5_12, if_neg c_5_13, if_pos c_5_14]
    refine hv_aload_n dX12_count_228 rfl ?_
    refine hv_bipush (v := 14) dX12_count_229 (by decide) ?_
    refine hv_cv1 (d_sumOf (f := 14) (by decide)) dX12_count_231 ml_X12_330 mk_X12_sumOf (by first | rfl | assumption) rfl rfl rfl rfl rfl ?_
    rintro _ _ _ _ ⟨rfl, rfl, rfl, rfl⟩
    refine hv_iret dX12_count_234 rfl ?_
    rw [hsz (g := dS (dyM σ 98)) (fun a ha => c8 (14 + a) (by omega)) (fun a h1 h2 => (c2 a h1 h2).2.2.1)]; exact ⟨rfl, rfl, rfl, off_wk q1 (by decide), hk6⟩
  refine hv_tout (tgt := 235) dX12_count_5 (by have q0 := lv_neT (a := 0) c_5_0 (by decide); have q1 := lv_neT (a := 1) c_5_1 (by decide); have q2 := lv_neT (a := 2) c_5_2 (by decide); have q3 := lv_neT (a := 3) c_5_3 (by decide); have q4 := lv_neT (a := 4) c_5_4 (by decide); have q5 := lv_neT (a := 5) c_5_5 (by decide); have q6 := lv_neT (a := 6) c_5_6 (by decide); have q7 := lv_neT (a := 7) c_5_7 (by decide); have q8 := lv_neT (a := 8) c_5_8 (by decide); have q9 := lv_neT (a := 9) c_5_9 (by decide); have q10 := lv_neT (a := 10) c_5_10 (by decide); have q11 := lv_neT (a := 11) c_5_11 (by decide); have q12 := lv_neT (a := 12) c_5_12 (by decide); have q13 := lv_neT (a := 13) c_5_13 (by decide); have q14 := lv_neT (a := 14) c_5_14 (by decide); omega) (by decide) ?_
  refine hv_iconst (v := -1) dX12_count_235 (by decide) ?_
  refine hv_iret dX12_count_236 rfl ?_
  rw [if_neg c_5_0, if_neg c_5_1, if_neg c_5_2, if_neg c_5_3, if_neg c_5_4, if_neg c_5_5, if_neg c_5_6, if_neg c_5_7, if_neg c_5_8, if_neg c_5_9, if_neg c_5_10, if_neg c_5_11, if_neg c_5_12, if_neg c_5_13, if_neg c_5_14]; exact ⟨rfl, rfl, rfl, off_wk q1 (by decide), hk6⟩
end S61

